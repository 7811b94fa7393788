theorem out_not {v : Int32} {n : Nat} (hn : n < 2 ^ 30) (h : ¬ outI v (nI 0) (nI n)) : ∃ j : Nat, j ≤ n ∧ v = nI j := by
  have h1 : ¬ v < 0 := fun q => h (Or.inl q)
  have h2 : ¬ nI n < v := fun q => h (Or.inr q)
  rcases pk_ix v (n := n + 1) (by omega) with q | q | ⟨j, hj, e⟩
  · exact absurd q h1
  · exact absurd (Int32.lt_iff_toInt_lt.mpr (by have := Int32.le_iff_toInt_le.mp q; rw [nI_toInt (by omega)] at this; rw [nI_toInt (by omega)]; omega)) h2
  · exact ⟨j, by omega, e⟩
set_option maxHeartbeats 4000000 in
set_option maxRecDepth 100000 in
theorem m_M_row (l : Launch) (g : gT) (z : Nat) (H0 : Heap) (h : Nat) (fs : List Value) (arw : Nat) (rw0 : Nat → Int32) (kv v : Int32) : Met l y_M_row w_M_row ({ frames := 1, cells := 0, slots := 0, locals := 22 }) (va_Pc [.ref h, .int (kv), .int (v)] (pB g z H0 (va_P g.1 cls [(h, .inr (3, fs)), (arw, eI g 5 (rw0))] H0 ∧ va_D (zA z) [(h, .inr (3, fs)), (arw, eI g 5 (rw0))] ∧ (fs.length = 19 ∧ fs[18]? = some (.ref arw))))) (va_Qv (fun (u : List Value × (Nat → Int32)) => (outI kv (nI 0) (nI 4) ∧ u.1 = fs.set 0 (.int (nI 1)) ∧ u.2 = rw0) ∨ (¬ outI kv (nI 0) (nI 4) ∧ outI v (nI 0) (nI 10000) ∧ u.1 = fs.set 0 (.int (nI 2)) ∧ u.2 = rw0) ∨ (∃ j : Nat, j ≤ 4 ∧ kv = nI j ∧ ¬ outI v (nI 0) (nI 10000) ∧ u.1 = fs.set 0 (.int (nI 0)) ∧ u.2 = upd rw0 j v)) (fun (u : List Value × (Nat → Int32)) t => va_P g.1 cls [(h, .inr (3, u.1)), (arw, eI g 5 (u.2))] t.heap ∧ va_D (va_A [(h, .inr (3, fs)), (arw, eI g 5 (rw0))] H0.size) [(h, .inr (3, u.1)), (arw, eI g 5 (u.2))]) (va_A [(h, .inr (3, fs)), (arw, eI g 5 (rw0))] H0.size)) 0 0 (va_A [(h, .inr (3, fs)), (arw, eI g 5 (rw0))] H0.size) := by
  refine Met.ofW (cc := c_M_row) (maxL := 3) (ret := none) (by decide) rfl ?_
  intro p e s m args below meth c s₁ B hml hv
  obtain ⟨rfl, hH0, ha, hP, hD0, hlen, hf18⟩ := hv
  have hx := B.exec
  have hb := B.bytes
  have hr := B.returns
  have htB : ∀ w ∈ tB, w.before _ s = true := fun w h => atoms_spec (ws := w_M_row) B.pre w (List.mem_cons_of_mem _ h)
  have hown : s.vm.findClass "JointSolidsModel" = some m.cls := findClass_of_methodNamed B.named
  have hlocks := B.notSynchronized
  subst hH0
  have hD := hD0.self (sz := s.heap.size)
  have hz := aA_z hD0 ha.2.2.2.2.2
  generalize hAe : va_A [(h, .inr (3, fs)), (arw, eI g 5 (rw0))] s.heap.size = A at hD hz ⊢
  have hA : ∀ q : Nat, s.heap.size ≤ q → A q := fun q h => by rw [← hAe]; exact Or.inr h
  have hS : va_S A s.heap s.heap [] := va_S.rf
  refine W.ofH hP hS (fun H locs hP hS => ?_)
  have hl := lv_entry ([.ref h, .int (kv), .int (v)]) (n := 3) (Nat.le_of_ble_eq_true rfl)
  rw [lg_entry_eq]
  generalize (lg_sl ([.ref h, .int (kv), .int (v)]) ++ List.replicate (3 - (lg_sl ([.ref h, .int (kv), .int (v)])).length) Slot.unset).toArray = ls at hl ⊢
  have hl : lv_has ls 3 [(0, .ref h), (1, .int (kv)), (2, .int (v))] := hl
  refine lv_aload_n hx hb d_M_row_0 rfl (lv_at hl 0 rfl) ?_
  refine lv_iload_n hx hb d_M_row_1 rfl (lv_at hl 1 rfl) ?_
  refine lv_iconst (v := (nI (0))) hx hb d_M_row_2 (by decide) ?_
  refine lv_iconst (v := (nI (4))) hx hb d_M_row_3 (by decide) ?_
  refine va_calli (va_runS (As := [.int (kv), .int (nI (0)), .int (nI (4))]) (rest := [.ref h]) ⟨hx, hb, hml, hown, htB⟩ (p_M_isIn l g z _ (kv) (nI (0)) (nI (4))) (va_cwS 3 htB (gS kw_509 kw_510 kw_3 g_M_isIn) rfl rfl rfl (by decide +kernel) ⟨by decide, by decide⟩) (pre_S hS hz ha trivial) rfl rfl hl.1 rfl (lv_room (Nat.le_of_ble_eq_true rfl)) d_M_row_4 ⟨by decide, by decide⟩) hS (fun q _ h => h.elim) (fun q h => h.elim) (fun r_1 u t H1 locs ht hvm hw hB hz1 hk1 hS => ?_)
  obtain rfl := hB.symm.trans ht
  subst hw
  by_cases c_2 : outI (kv) (nI (0)) (nI (4))
  · rw [if_pos c_2]
    refine lv_if_ne (tgt := 14) hx hb d_M_row_7 (by decide) (fun h => absurd h (by decide)) (fun _ => ?_)
    refine lv_iconst (v := (nI (1))) hx hb d_M_row_10 (by decide) ?_
    refine lv_goto (tgt := 30) hx hb d_M_row_11 (by decide) ?_
    refine va_put (D := g.1) (ci := 3) (v := .int (nI (1))) (ty := .int) (C := R_M) (T := F_M) (N := 19) hx hb htB in_M t_M t_M_ok n_M hown ha.1 hP hD hS 0 rfl rfl 0 (by decide) (htB _ kw_442) (fun _ h9 => h9) rfl (by decide +kernel) rfl rfl (by rw [hlen]; decide) d_M_row_30 (fun H locs hP hD hS => ?_)
    have hP : va_P g.1 cls [(h, .inr (3, (fs).set 0 (.int (nI (1))))), (arw, eI g 5 (rw0))] H := hP
    have hD : va_D A [(h, .inr (3, (fs).set 0 (.int (nI (1))))), (arw, eI g 5 (rw0))] := hD
    refine lv_aload_n hx hb d_M_row_33 rfl (lv_at hl 0 rfl) ?_
    refine va_get (D := g.1) (ci := 3) (v := .int (nI (1))) (C := R_M) (T := F_M) (N := 19) hx hb htB in_M hown ha.1 hP 0 rfl rfl 0 (by decide) (htB _ kw_442) (fun _ h9 => h9) (gset_eq hlen (by decide)) d_M_row_34 ?_
    refine lv_if_ne (tgt := 47) hx hb d_M_row_37 (by decide) (fun _ => ?_) (fun h => absurd h (by decide))
    have hP9 := hP.sub (ws' := [(h, .inr (3, (fs).set 0 (.int (nI (1))))), (arw, eI g 5 (rw0))]) [0, 1] rfl
    have hD9 := hD.sub (ws' := [(h, .inr (3, (fs).set 0 (.int (nI (1))))), (arw, eI g 5 (rw0))]) [0, 1] (by decide) rfl
    exact (W.widen (k := 0) (n := 0) (Nat.le_of_ble_eq_true rfl) (Nat.le_of_ble_eq_true rfl) (W.vret hx hb hr (fun t ht hW => ⟨⟨((fs).set 0 (.int (nI (1))), rw0), rfl, Or.inl ⟨c_2, rfl, rfl⟩, by rw [ht]; exact hP9, hD9.re [h, arw] rfl rfl⟩, hS.F ht⟩) hS.2.2 d_M_row_47))
  · rw [if_neg c_2]
    refine lv_if_ne (tgt := 14) hx hb d_M_row_7 (by decide) (fun _ => ?_) (fun h => absurd h (by decide))
    refine lv_iload_n hx hb d_M_row_14 rfl (lv_at hl 2 rfl) ?_
    refine lv_iconst (v := (nI (0))) hx hb d_M_row_15 (by decide) ?_
    refine lv_sipush (v := (nI (10000))) hx hb d_M_row_16 (by decide) ?_
    refine va_calli (va_runS (As := [.int (v), .int (nI (0)), .int (nI (10000))]) (rest := [.ref h]) ⟨hx, hb, hml, hown, htB⟩ (p_M_isIn l g z _ (v) (nI (0)) (nI (10000))) (va_cwS 3 htB (gS kw_509 kw_510 kw_3 g_M_isIn) rfl rfl rfl (by decide +kernel) ⟨by decide, by decide⟩) (pre_S hS hz ha trivial) rfl rfl hl.1 rfl (lv_room (Nat.le_of_ble_eq_true rfl)) d_M_row_19 ⟨by decide, by decide⟩) hS (fun q _ h => h.elim) (fun q h => h.elim) (fun r_6 u t H1 locs ht hvm hw hB hz1 hk1 hS => ?_)
    obtain rfl := hB.symm.trans ht
    subst hw
    by_cases c_7 : outI (v) (nI (0)) (nI (10000))
    · rw [if_pos c_7]
      refine lv_if_eq (tgt := 29) hx hb d_M_row_22 (by decide) (fun _ => ?_) (fun h => absurd h (by decide))
      refine lv_iconst (v := (nI (2))) hx hb d_M_row_29 (by decide) ?_
      refine va_put (D := g.1) (ci := 3) (v := .int (nI (2))) (ty := .int) (C := R_M) (T := F_M) (N := 19) hx hb htB in_M t_M t_M_ok n_M hown ha.1 hP hD hS 0 rfl rfl 0 (by decide) (htB _ kw_442) (fun _ h9 => h9) rfl (by decide +kernel) rfl rfl (by rw [hlen]; decide) d_M_row_30 (fun H locs hP hD hS => ?_)
      have hP : va_P g.1 cls [(h, .inr (3, (fs).set 0 (.int (nI (2))))), (arw, eI g 5 (rw0))] H := hP
      have hD : va_D A [(h, .inr (3, (fs).set 0 (.int (nI (2))))), (arw, eI g 5 (rw0))] := hD
      refine lv_aload_n hx hb d_M_row_33 rfl (lv_at hl 0 rfl) ?_
      refine va_get (D := g.1) (ci := 3) (v := .int (nI (2))) (C := R_M) (T := F_M) (N := 19) hx hb htB in_M hown ha.1 hP 0 rfl rfl 0 (by decide) (htB _ kw_442) (fun _ h9 => h9) (gset_eq hlen (by decide)) d_M_row_34 ?_
      refine lv_if_ne (tgt := 47) hx hb d_M_row_37 (by decide) (fun _ => ?_) (fun h => absurd h (by decide))
      have hP9 := hP.sub (ws' := [(h, .inr (3, (fs).set 0 (.int (nI (2))))), (arw, eI g 5 (rw0))]) [0, 1] rfl
      have hD9 := hD.sub (ws' := [(h, .inr (3, (fs).set 0 (.int (nI (2))))), (arw, eI g 5 (rw0))]) [0, 1] (by decide) rfl
      exact (W.widen (k := 0) (n := 0) (Nat.le_of_ble_eq_true rfl) (Nat.le_of_ble_eq_true rfl) (W.vret hx hb hr (fun t ht hW => ⟨⟨((fs).set 0 (.int (nI (2))), rw0), rfl, Or.inr (Or.inl ⟨c_2, c_7, rfl, rfl⟩), by rw [ht]; exact hP9, hD9.re [h, arw] rfl rfl⟩, hS.F ht⟩) hS.2.2 d_M_row_47))
    · rw [if_neg c_7]
      refine lv_if_eq (tgt := 29) hx hb d_M_row_22 (by decide) (fun h => absurd h (by decide)) (fun _ => ?_)
      refine lv_iconst (v := (nI (0))) hx hb d_M_row_25 (by decide) ?_
      refine lv_goto (tgt := 30) hx hb d_M_row_26 (by decide) ?_
      refine va_put (D := g.1) (ci := 3) (v := .int (nI (0))) (ty := .int) (C := R_M) (T := F_M) (N := 19) hx hb htB in_M t_M t_M_ok n_M hown ha.1 hP hD hS 0 rfl rfl 0 (by decide) (htB _ kw_442) (fun _ h9 => h9) rfl (by decide +kernel) rfl rfl (by rw [hlen]; decide) d_M_row_30 (fun H locs hP hD hS => ?_)
      have hP : va_P g.1 cls [(h, .inr (3, (fs).set 0 (.int (nI (0))))), (arw, eI g 5 (rw0))] H := hP
      have hD : va_D A [(h, .inr (3, (fs).set 0 (.int (nI (0))))), (arw, eI g 5 (rw0))] := hD
      refine lv_aload_n hx hb d_M_row_33 rfl (lv_at hl 0 rfl) ?_
      refine va_get (D := g.1) (ci := 3) (v := .int (nI (0))) (C := R_M) (T := F_M) (N := 19) hx hb htB in_M hown ha.1 hP 0 rfl rfl 0 (by decide) (htB _ kw_442) (fun _ h9 => h9) (gset_eq hlen (by decide)) d_M_row_34 ?_
      refine lv_if_ne (tgt := 47) hx hb d_M_row_37 (by decide) (fun h => absurd h (by decide)) (fun _ => ?_)
      obtain ⟨j, hj, rfl⟩ := out_not (n := 4) (by decide) c_2
      refine lv_aload_n hx hb d_M_row_40 rfl (lv_at hl 0 rfl) ?_
      refine va_get (D := g.1) (ci := 3) (v := .ref arw) (C := R_M) (T := F_M) (N := 19) hx hb htB in_M hown ha.1 hP 0 rfl rfl 18 (by decide) (htB _ kw_460) (fun _ h9 => h9) (gset_ne (by decide) hf18) d_M_row_41 ?_
      refine lv_iload_n hx hb d_M_row_44 rfl (lv_at hl 1 rfl) ?_
      refine lv_iload_n hx hb d_M_row_45 rfl (lv_at hl 2 rfl) ?_
      refine ja_ast (k := j) hx hb ha.1 hP hD hS 1 0 rfl rfl (by omega) (by omega) d_M_row_46 (fun H locs hP hD hS => ?_)
      have hP : va_P g.1 cls [(h, .inr (3, (fs).set 0 (.int (nI (0))))), (arw, eI g 5 (upd (rw0) (j) (v)))] H := hP
      have hD : va_D A [(h, .inr (3, (fs).set 0 (.int (nI (0))))), (arw, eI g 5 (upd (rw0) (j) (v)))] := hD
      have hP9 := hP.sub (ws' := [(h, .inr (3, (fs).set 0 (.int (nI (0))))), (arw, eI g 5 (upd (rw0) (j) (v)))]) [0, 1] rfl
      have hD9 := hD.sub (ws' := [(h, .inr (3, (fs).set 0 (.int (nI (0))))), (arw, eI g 5 (upd (rw0) (j) (v)))]) [0, 1] (by decide) rfl
      exact (W.widen (k := 0) (n := 0) (Nat.le_of_ble_eq_true rfl) (Nat.le_of_ble_eq_true rfl) (W.vret hx hb hr (fun t ht hW => ⟨⟨((fs).set 0 (.int (nI (0))), upd (rw0) (j) (v)), rfl, Or.inr (Or.inr ⟨j, hj, rfl, c_7, rfl, rfl⟩), by rw [ht]; exact hP9, hD9.re [h, arw] rfl rfl⟩, hS.F ht⟩) hS.2.2 d_M_row_47))
set_option maxHeartbeats 4000000 in
set_option maxRecDepth 100000 in
theorem m_M_pieces (l : Launch) (g : gT) (z : Nat) (H0 : Heap) (h : Nat) (fs : List Value) (am np : Nat) (mn : Nat → Int32) (v : Int32) : Met l y_M_pieces w_M_pieces ({ frames := 1, cells := 0, slots := 0, locals := 21 }) (va_Pc [.ref h, .int (v)] (pB g z H0 (va_P g.1 cls [(h, .inr (3, fs)), (am, eI g 8 (mn))] H0 ∧ va_D (zA z) [(h, .inr (3, fs)), (am, eI g 8 (mn))] ∧ (fs.length = 19 ∧ fs[1]? = some (.int (nI np)) ∧ np ≤ 8 ∧ fs[4]? = some (.ref am))))) (va_Qi (fun (rr : Int32) (u : List Value) => (noP v np ∧ u = fs.set 0 (.int (nI 1)) ∧ rr = nI 0) ∨ (∃ j : Nat, j < np ∧ v = nI j ∧ u = fs.set 0 (.int (nI 0)) ∧ rr = mn j)) (fun (u : List Value) t => va_P g.1 cls [(h, .inr (3, u)), (am, eI g 8 (mn))] t.heap ∧ va_D (va_A [(h, .inr (3, fs)), (am, eI g 8 (mn))] H0.size) [(h, .inr (3, u)), (am, eI g 8 (mn))]) (va_A [(h, .inr (3, fs)), (am, eI g 8 (mn))] H0.size)) 0 0 (va_A [(h, .inr (3, fs)), (am, eI g 8 (mn))] H0.size) := by
  refine Met.ofW (cc := c_M_pieces) (maxL := 2) (ret := (some .int)) (by decide) rfl ?_
  intro p e s m args below meth c s₁ B hml hv
  obtain ⟨rfl, hH0, ha, hP, hD0, hlen, hf1, hnp, hf4⟩ := hv
  have hx := B.exec
  have hb := B.bytes
  have hr := B.returns
  have htB : ∀ w ∈ tB, w.before _ s = true := fun w h => atoms_spec (ws := w_M_pieces) B.pre w (List.mem_cons_of_mem _ h)
  have hown : s.vm.findClass "JointSolidsModel" = some m.cls := findClass_of_methodNamed B.named
  have hlocks := B.notSynchronized
  subst hH0
  have hD := hD0.self (sz := s.heap.size)
  have hz := aA_z hD0 ha.2.2.2.2.2
  generalize hAe : va_A [(h, .inr (3, fs)), (am, eI g 8 (mn))] s.heap.size = A at hD hz ⊢
  have hA : ∀ q : Nat, s.heap.size ≤ q → A q := fun q h => by rw [← hAe]; exact Or.inr h
  have hS : va_S A s.heap s.heap [] := va_S.rf
  refine W.ofH hP hS (fun H locs hP hS => ?_)
  have hl := lv_entry ([.ref h, .int (v)]) (n := 2) (Nat.le_of_ble_eq_true rfl)
  rw [lg_entry_eq]
  generalize (lg_sl ([.ref h, .int (v)]) ++ List.replicate (2 - (lg_sl ([.ref h, .int (v)])).length) Slot.unset).toArray = ls at hl ⊢
  have hl : lv_has ls 2 [(0, .ref h), (1, .int (v))] := hl
  refine lv_aload_n hx hb d_M_pieces_0 rfl (lv_at hl 0 rfl) ?_
  refine lv_aload_n hx hb d_M_pieces_1 rfl (lv_at hl 0 rfl) ?_
  refine lv_iload_n hx hb d_M_pieces_2 rfl (lv_at hl 1 rfl) ?_
  refine va_calli (va_runV (As := [.int (v)]) (rest := [.ref h]) ⟨hx, hb, hml, hown, htB⟩ (p_M_noPart l g z _ h (fs) (np) (v)) (cwV 1 htB (gV kw_520 kw_522 ks_1_1 kw_3 g_M_noPart) rfl rfl rfl (by decide +kernel) ⟨by decide, by decide⟩) (pre_V hS hz ha (va_recv ha.1 hP (ci := 3) (q0 := 0) rfl rfl) ⟨va_one (hP 0 _ rfl), hf1⟩) rfl rfl hl.1 rfl (lv_room (Nat.le_of_ble_eq_true rfl)) d_M_pieces_3 ⟨by decide, by decide⟩) hS (fun q _ h => h.elim) (fun q h => h.elim) (fun r_1 u t H1 locs ht hvm hw hB hz1 hk1 hS => ?_)
  obtain rfl := hB.symm.trans ht
  subst hw
  by_cases c_2 : noP (v) (np)
  · rw [if_pos c_2]
    refine lv_if_eq (tgt := 13) hx hb d_M_pieces_6 (by decide) (fun h => absurd h (by decide)) (fun _ => ?_)
    refine lv_iconst (v := (nI (1))) hx hb d_M_pieces_9 (by decide) ?_
    refine lv_goto (tgt := 14) hx hb d_M_pieces_10 (by decide) ?_
    refine va_put (D := g.1) (ci := 3) (v := .int (nI (1))) (ty := .int) (C := R_M) (T := F_M) (N := 19) hx hb htB in_M t_M t_M_ok n_M hown ha.1 hP hD hS 0 rfl rfl 0 (by decide) (htB _ kw_442) (fun _ h9 => h9) rfl (by decide +kernel) rfl rfl (by rw [hlen]; decide) d_M_pieces_14 (fun H locs hP hD hS => ?_)
    have hP : va_P g.1 cls [(h, .inr (3, (fs).set 0 (.int (nI (1))))), (am, eI g 8 (mn))] H := hP
    have hD : va_D A [(h, .inr (3, (fs).set 0 (.int (nI (1))))), (am, eI g 8 (mn))] := hD
    refine lv_aload_n hx hb d_M_pieces_17 rfl (lv_at hl 0 rfl) ?_
    refine va_get (D := g.1) (ci := 3) (v := .int (nI (1))) (C := R_M) (T := F_M) (N := 19) hx hb htB in_M hown ha.1 hP 0 rfl rfl 0 (by decide) (htB _ kw_442) (fun _ h9 => h9) (gset_eq hlen (by decide)) d_M_pieces_18 ?_
    refine lv_if_le (tgt := 28) hx hb d_M_pieces_21 (by decide) (fun h => absurd h (by decide)) (fun _ => ?_)
    refine lv_iconst (v := (nI (0))) hx hb d_M_pieces_24 (by decide) ?_
    refine lv_goto (tgt := 34) hx hb d_M_pieces_25 (by decide) ?_
    have hP9 := hP.sub (ws' := [(h, .inr (3, (fs).set 0 (.int (nI (1))))), (am, eI g 8 (mn))]) [0, 1] rfl
    have hD9 := hD.sub (ws' := [(h, .inr (3, (fs).set 0 (.int (nI (1))))), (am, eI g 8 (mn))]) [0, 1] (by decide) rfl
    exact (W.widen (k := 0) (n := 0) (Nat.le_of_ble_eq_true rfl) (Nat.le_of_ble_eq_true rfl) (W.iret (v := (nI (0))) hx hb hr (fun t ht hW => ⟨⟨(nI (0)), (fs).set 0 (.int (nI (1))), rfl, Or.inl ⟨c_2, rfl, rfl⟩, by rw [ht]; exact hP9, hD9.re [h, am] rfl rfl⟩, hS.F ht⟩) hS.2.2 d_M_pieces_34))
  · rw [if_neg c_2]
    refine lv_if_eq (tgt := 13) hx hb d_M_pieces_6 (by decide) (fun _ => ?_) (fun h => absurd h (by decide))
    refine lv_iconst (v := (nI (0))) hx hb d_M_pieces_13 (by decide) ?_
    refine va_put (D := g.1) (ci := 3) (v := .int (nI (0))) (ty := .int) (C := R_M) (T := F_M) (N := 19) hx hb htB in_M t_M t_M_ok n_M hown ha.1 hP hD hS 0 rfl rfl 0 (by decide) (htB _ kw_442) (fun _ h9 => h9) rfl (by decide +kernel) rfl rfl (by rw [hlen]; decide) d_M_pieces_14 (fun H locs hP hD hS => ?_)
    have hP : va_P g.1 cls [(h, .inr (3, (fs).set 0 (.int (nI (0))))), (am, eI g 8 (mn))] H := hP
    have hD : va_D A [(h, .inr (3, (fs).set 0 (.int (nI (0))))), (am, eI g 8 (mn))] := hD
    refine lv_aload_n hx hb d_M_pieces_17 rfl (lv_at hl 0 rfl) ?_
    refine va_get (D := g.1) (ci := 3) (v := .int (nI (0))) (C := R_M) (T := F_M) (N := 19) hx hb htB in_M hown ha.1 hP 0 rfl rfl 0 (by decide) (htB _ kw_442) (fun _ h9 => h9) (gset_eq hlen (by decide)) d_M_pieces_18 ?_
    refine lv_if_le (tgt := 28) hx hb d_M_pieces_21 (by decide) (fun _ => ?_) (fun h => absurd h (by decide))
    obtain ⟨j, hj, rfl⟩ := noP_not (by omega) c_2
    refine lv_aload_n hx hb d_M_pieces_28 rfl (lv_at hl 0 rfl) ?_
    refine va_get (D := g.1) (ci := 3) (v := .ref am) (C := R_M) (T := F_M) (N := 19) hx hb htB in_M hown ha.1 hP 0 rfl rfl 4 (by decide) (htB _ kw_446) (fun _ h9 => h9) (gset_ne (by decide) hf4) d_M_pieces_29 ?_
    refine lv_iload_n hx hb d_M_pieces_32 rfl (lv_at hl 1 rfl) ?_
    refine ja_ald (k := j) hx hb ha.1 hP 1 0 rfl rfl (by omega) (by omega) d_M_pieces_33 ?_
    have hP9 := hP.sub (ws' := [(h, .inr (3, (fs).set 0 (.int (nI (0))))), (am, eI g 8 (mn))]) [0, 1] rfl
    have hD9 := hD.sub (ws' := [(h, .inr (3, (fs).set 0 (.int (nI (0))))), (am, eI g 8 (mn))]) [0, 1] (by decide) rfl
    exact (W.widen (k := 0) (n := 0) (Nat.le_of_ble_eq_true rfl) (Nat.le_of_ble_eq_true rfl) (W.iret (v := (mn (j))) hx hb hr (fun t ht hW => ⟨⟨(mn (j)), (fs).set 0 (.int (nI (0))), rfl, Or.inr ⟨j, hj, rfl, rfl, rfl⟩, by rw [ht]; exact hP9, hD9.re [h, am] rfl rfl⟩, hS.F ht⟩) hS.2.2 d_M_pieces_34))
set_option maxHeartbeats 4000000 in
set_option maxRecDepth 100000 in
theorem m_M_volume (l : Launch) (g : gT) (z : Nat) (H0 : Heap) (h : Nat) (fs : List Value) (ap am np : Nat) (f mn : Nat → Int32) (v : Int32) : Met l y_M_volume w_M_volume ({ frames := 1, cells := 0, slots := 0, locals := 25 }) (va_Pc [.ref h, .int (v)] (pB g z H0 (va_P g.1 cls [(h, .inr (3, fs)), (ap, eI g 1152 (f)), (am, eI g 8 (mn))] H0 ∧ va_D (zA z) [(h, .inr (3, fs)), (ap, eI g 1152 (f)), (am, eI g 8 (mn))] ∧ (fs.length = 19 ∧ fs[1]? = some (.int (nI np)) ∧ np ≤ 8 ∧ fs[3]? = some (.ref ap) ∧ fs[4]? = some (.ref am) ∧ (∀ j, j < np → ∃ n : Nat, n ≤ 24 ∧ mn j = nI n))))) (va_Ql (fun (rr : Int64) (u : List Value) => (noP v np ∧ u = fs.set 0 (.int (nI 1)) ∧ rr = 0) ∨ (∃ j n : Nat, j < np ∧ v = nI j ∧ n ≤ 24 ∧ mn j = nI n ∧ u = fs.set 0 (.int (nI 0)) ∧ rr = voM f j n)) (fun (u : List Value) t => va_P g.1 cls [(h, .inr (3, u)), (ap, eI g 1152 (f)), (am, eI g 8 (mn))] t.heap ∧ va_D (va_A [(h, .inr (3, fs)), (ap, eI g 1152 (f)), (am, eI g 8 (mn))] H0.size) [(h, .inr (3, u)), (ap, eI g 1152 (f)), (am, eI g 8 (mn))]) (va_A [(h, .inr (3, fs)), (ap, eI g 1152 (f)), (am, eI g 8 (mn))] H0.size)) 0 0 (va_A [(h, .inr (3, fs)), (ap, eI g 1152 (f)), (am, eI g 8 (mn))] H0.size) := by
  refine Met.ofW (cc := c_M_volume) (maxL := 2) (ret := (some .long)) (by decide) rfl ?_
  intro p e s m args below meth c s₁ B hml hv
  obtain ⟨rfl, hH0, ha, hP, hD0, hlen, hf1, hnp, hf3, hf4, hmn⟩ := hv
  have hx := B.exec
  have hb := B.bytes
  have hr := B.returns
  have htB : ∀ w ∈ tB, w.before _ s = true := fun w h => atoms_spec (ws := w_M_volume) B.pre w (List.mem_cons_of_mem _ h)
  have hown : s.vm.findClass "JointSolidsModel" = some m.cls := findClass_of_methodNamed B.named
  have hlocks := B.notSynchronized
  subst hH0
  have hD := hD0.self (sz := s.heap.size)
  have hz := aA_z hD0 ha.2.2.2.2.2
  generalize hAe : va_A [(h, .inr (3, fs)), (ap, eI g 1152 (f)), (am, eI g 8 (mn))] s.heap.size = A at hD hz ⊢
  have hA : ∀ q : Nat, s.heap.size ≤ q → A q := fun q h => by rw [← hAe]; exact Or.inr h
  have hS : va_S A s.heap s.heap [] := va_S.rf
  refine W.ofH hP hS (fun H locs hP hS => ?_)
  have hl := lv_entry ([.ref h, .int (v)]) (n := 2) (Nat.le_of_ble_eq_true rfl)
  rw [lg_entry_eq]
  generalize (lg_sl ([.ref h, .int (v)]) ++ List.replicate (2 - (lg_sl ([.ref h, .int (v)])).length) Slot.unset).toArray = ls at hl ⊢
  have hl : lv_has ls 2 [(0, .ref h), (1, .int (v))] := hl
  refine lv_aload_n hx hb d_M_volume_0 rfl (lv_at hl 0 rfl) ?_
  refine lv_aload_n hx hb d_M_volume_1 rfl (lv_at hl 0 rfl) ?_
  refine lv_iload_n hx hb d_M_volume_2 rfl (lv_at hl 1 rfl) ?_
  refine va_calli (va_runV (As := [.int (v)]) (rest := [.ref h]) ⟨hx, hb, hml, hown, htB⟩ (p_M_noPart l g z _ h (fs) (np) (v)) (cwV 1 htB (gV kw_520 kw_522 ks_1_1 kw_3 g_M_noPart) rfl rfl rfl (by decide +kernel) ⟨by decide, by decide⟩) (pre_V hS hz ha (va_recv ha.1 hP (ci := 3) (q0 := 0) rfl rfl) ⟨va_one (hP 0 _ rfl), hf1⟩) rfl rfl hl.1 rfl (lv_room (Nat.le_of_ble_eq_true rfl)) d_M_volume_3 ⟨by decide, by decide⟩) hS (fun q _ h => h.elim) (fun q h => h.elim) (fun r_1 u t H1 locs ht hvm hw hB hz1 hk1 hS => ?_)
  obtain rfl := hB.symm.trans ht
  subst hw
  by_cases c_2 : noP (v) (np)
  · rw [if_pos c_2]
    refine lv_if_eq (tgt := 13) hx hb d_M_volume_6 (by decide) (fun h => absurd h (by decide)) (fun _ => ?_)
    refine lv_iconst (v := (nI (1))) hx hb d_M_volume_9 (by decide) ?_
    refine lv_goto (tgt := 14) hx hb d_M_volume_10 (by decide) ?_
    refine va_put (D := g.1) (ci := 3) (v := .int (nI (1))) (ty := .int) (C := R_M) (T := F_M) (N := 19) hx hb htB in_M t_M t_M_ok n_M hown ha.1 hP hD hS 0 rfl rfl 0 (by decide) (htB _ kw_442) (fun _ h9 => h9) rfl (by decide +kernel) rfl rfl (by rw [hlen]; decide) d_M_volume_14 (fun H locs hP hD hS => ?_)
    have hP : va_P g.1 cls [(h, .inr (3, (fs).set 0 (.int (nI (1))))), (ap, eI g 1152 (f)), (am, eI g 8 (mn))] H := hP
    have hD : va_D A [(h, .inr (3, (fs).set 0 (.int (nI (1))))), (ap, eI g 1152 (f)), (am, eI g 8 (mn))] := hD
    refine lv_aload_n hx hb d_M_volume_17 rfl (lv_at hl 0 rfl) ?_
    refine va_get (D := g.1) (ci := 3) (v := .int (nI (1))) (C := R_M) (T := F_M) (N := 19) hx hb htB in_M hown ha.1 hP 0 rfl rfl 0 (by decide) (htB _ kw_442) (fun _ h9 => h9) (gset_eq hlen (by decide)) d_M_volume_18 ?_
    refine lv_if_le (tgt := 28) hx hb d_M_volume_21 (by decide) (fun h => absurd h (by decide)) (fun _ => ?_)
    refine lv_lconst (v := 0) hx hb d_M_volume_24 (by decide) ?_
    refine lv_goto (tgt := 33) hx hb d_M_volume_25 (by decide) ?_
    have hP9 := hP.sub (ws' := [(h, .inr (3, (fs).set 0 (.int (nI (1))))), (ap, eI g 1152 (f)), (am, eI g 8 (mn))]) [0, 1, 2] rfl
    have hD9 := hD.sub (ws' := [(h, .inr (3, (fs).set 0 (.int (nI (1))))), (ap, eI g 1152 (f)), (am, eI g 8 (mn))]) [0, 1, 2] (by decide) rfl
    exact (W.widen (k := 0) (n := 0) (Nat.le_of_ble_eq_true rfl) (Nat.le_of_ble_eq_true rfl) (W.lret (v := (0)) hx hb hr (fun t ht hW => ⟨⟨(0), (fs).set 0 (.int (nI (1))), rfl, Or.inl ⟨c_2, rfl, rfl⟩, by rw [ht]; exact hP9, hD9.re [h, ap, am] rfl rfl⟩, hS.F ht⟩) hS.2.2 d_M_volume_33))
  · rw [if_neg c_2]
    refine lv_if_eq (tgt := 13) hx hb d_M_volume_6 (by decide) (fun _ => ?_) (fun h => absurd h (by decide))
    refine lv_iconst (v := (nI (0))) hx hb d_M_volume_13 (by decide) ?_
    refine va_put (D := g.1) (ci := 3) (v := .int (nI (0))) (ty := .int) (C := R_M) (T := F_M) (N := 19) hx hb htB in_M t_M t_M_ok n_M hown ha.1 hP hD hS 0 rfl rfl 0 (by decide) (htB _ kw_442) (fun _ h9 => h9) rfl (by decide +kernel) rfl rfl (by rw [hlen]; decide) d_M_volume_14 (fun H locs hP hD hS => ?_)
    have hP : va_P g.1 cls [(h, .inr (3, (fs).set 0 (.int (nI (0))))), (ap, eI g 1152 (f)), (am, eI g 8 (mn))] H := hP
    have hD : va_D A [(h, .inr (3, (fs).set 0 (.int (nI (0))))), (ap, eI g 1152 (f)), (am, eI g 8 (mn))] := hD
    refine lv_aload_n hx hb d_M_volume_17 rfl (lv_at hl 0 rfl) ?_
    refine va_get (D := g.1) (ci := 3) (v := .int (nI (0))) (C := R_M) (T := F_M) (N := 19) hx hb htB in_M hown ha.1 hP 0 rfl rfl 0 (by decide) (htB _ kw_442) (fun _ h9 => h9) (gset_eq hlen (by decide)) d_M_volume_18 ?_
    refine lv_if_le (tgt := 28) hx hb d_M_volume_21 (by decide) (fun _ => ?_) (fun h => absurd h (by decide))
    obtain ⟨j, hj, rfl⟩ := noP_not (by omega) c_2
    obtain ⟨nj, hnj, hmj⟩ := hmn j hj
    refine lv_aload_n hx hb d_M_volume_28 rfl (lv_at hl 0 rfl) ?_
    refine lv_iload_n hx hb d_M_volume_29 rfl (lv_at hl 1 rfl) ?_
    refine va_calll (va_runV (As := [.int (nI (j))]) (rest := []) ⟨hx, hb, hml, hown, htB⟩ (p_M_volumeOf l g z _ h ((fs).set 0 (.int (nI (0)))) ap am (f) (mn) (j) nj) (cwV 1 htB (gV kw_573 kw_575 ks_1_10 kw_3 g_M_volumeOf) rfl rfl rfl (by decide +kernel) ⟨by decide, by decide⟩) (pre_V hS hz ha (va_recv ha.1 hP (ci := 3) (q0 := 0) rfl rfl) ⟨va_three (hP 0 _ rfl) (hP 1 _ rfl) (hP 2 _ rfl), (gset_ne (by decide) hf3), (gset_ne (by decide) hf4), by omega, hmj, hnj⟩) rfl rfl hl.1 rfl (lv_room (Nat.le_of_ble_eq_true rfl)) d_M_volume_30 ⟨by decide, by decide⟩) hS (fun q _ h => h.elim) (fun q h => h.elim) (fun r_7 u t H1 locs ht hvm hw hB hz1 hk1 hS => ?_)
    obtain rfl := hB.symm.trans ht
    subst hw
    have hP9 := hP.sub (ws' := [(h, .inr (3, (fs).set 0 (.int (nI (0))))), (ap, eI g 1152 (f)), (am, eI g 8 (mn))]) [0, 1, 2] rfl
    have hD9 := hD.sub (ws' := [(h, .inr (3, (fs).set 0 (.int (nI (0))))), (ap, eI g 1152 (f)), (am, eI g 8 (mn))]) [0, 1, 2] (by decide) rfl
    exact (W.widen (k := 0) (n := 0) (Nat.le_of_ble_eq_true rfl) (Nat.le_of_ble_eq_true rfl) (W.lret (v := (voM f (j) nj)) hx hb hr (fun t ht hW => ⟨⟨(voM f (j) nj), (fs).set 0 (.int (nI (0))), rfl, Or.inr ⟨j, nj, hj, rfl, hnj, hmj, rfl, rfl⟩, by rw [ht]; exact hP9, hD9.re [h, ap, am] rfl rfl⟩, hS.F ht⟩) hS.2.2 d_M_volume_33))
set_option maxHeartbeats 4000000 in
set_option maxRecDepth 100000 in
theorem m_M_overlap (l : Launch) (g : gT) (z : Nat) (H0 : Heap) (h : Nat) (fs : List Value) (ap am np : Nat) (f mn : Nat → Int32) (va vb : Int32) : Met l y_M_overlap w_M_overlap ({ frames := 3, cells := 0, slots := 0, locals := 73 }) (va_Pc [.ref h, .int (va), .int (vb)] (pB g z H0 (va_P g.1 cls [(h, .inr (3, fs)), (ap, eI g 1152 (f)), (am, eI g 8 (mn))] H0 ∧ va_D (zA z) [(h, .inr (3, fs)), (ap, eI g 1152 (f)), (am, eI g 8 (mn))] ∧ (fs.length = 19 ∧ fs[1]? = some (.int (nI np)) ∧ np ≤ 8 ∧ fs[3]? = some (.ref ap) ∧ fs[4]? = some (.ref am) ∧ (∀ j, j < np → ∃ n : Nat, n ≤ 24 ∧ mn j = nI n))))) (va_Ql (fun (rr : Int64) (u : List Value) => ((noP va np ∨ noP vb np) ∧ u = fs.set 0 (.int (nI 1)) ∧ rr = 0) ∨ (¬ (noP va np ∨ noP vb np) ∧ va = vb ∧ u = fs.set 0 (.int (nI 2)) ∧ rr = 0) ∨ (∃ ja na jb nb : Nat, ja < np ∧ jb < np ∧ va = nI ja ∧ vb = nI jb ∧ ¬ va = vb ∧ na ≤ 24 ∧ mn ja = nI na ∧ nb ≤ 24 ∧ mn jb = nI nb ∧ u = fs.set 0 (.int (nI 0)) ∧ rr = ovM f ja na jb nb)) (fun (u : List Value) t => va_P g.1 cls [(h, .inr (3, u)), (ap, eI g 1152 (f)), (am, eI g 8 (mn))] t.heap ∧ va_D (va_A [(h, .inr (3, fs)), (ap, eI g 1152 (f)), (am, eI g 8 (mn))] H0.size) [(h, .inr (3, u)), (ap, eI g 1152 (f)), (am, eI g 8 (mn))]) (va_A [(h, .inr (3, fs)), (ap, eI g 1152 (f)), (am, eI g 8 (mn))] H0.size)) 0 0 (va_A [(h, .inr (3, fs)), (ap, eI g 1152 (f)), (am, eI g 8 (mn))] H0.size) := by
  refine Met.ofW (cc := c_M_overlap) (maxL := 3) (ret := (some .long)) (by decide) rfl ?_
  intro p e s m args below meth c s₁ B hml hv
  obtain ⟨rfl, hH0, ha, hP, hD0, hlen, hf1, hnp, hf3, hf4, hmn⟩ := hv
  have hx := B.exec
  have hb := B.bytes
  have hr := B.returns
  have htB : ∀ w ∈ tB, w.before _ s = true := fun w h => atoms_spec (ws := w_M_overlap) B.pre w (List.mem_cons_of_mem _ h)
  have hown : s.vm.findClass "JointSolidsModel" = some m.cls := findClass_of_methodNamed B.named
  have hlocks := B.notSynchronized
  subst hH0
  have hD := hD0.self (sz := s.heap.size)
  have hz := aA_z hD0 ha.2.2.2.2.2
  generalize hAe : va_A [(h, .inr (3, fs)), (ap, eI g 1152 (f)), (am, eI g 8 (mn))] s.heap.size = A at hD hz ⊢
  have hA : ∀ q : Nat, s.heap.size ≤ q → A q := fun q h => by rw [← hAe]; exact Or.inr h
  have hS : va_S A s.heap s.heap [] := va_S.rf
  refine W.ofH hP hS (fun H locs hP hS => ?_)
  have hl := lv_entry ([.ref h, .int (va), .int (vb)]) (n := 3) (Nat.le_of_ble_eq_true rfl)
  rw [lg_entry_eq]
  generalize (lg_sl ([.ref h, .int (va), .int (vb)]) ++ List.replicate (3 - (lg_sl ([.ref h, .int (va), .int (vb)])).length) Slot.unset).toArray = ls at hl ⊢
  have hl : lv_has ls 3 [(0, .ref h), (1, .int (va)), (2, .int (vb))] := hl
  refine lv_aload_n hx hb d_M_overlap_0 rfl (lv_at hl 0 rfl) ?_
  refine lv_aload_n hx hb d_M_overlap_1 rfl (lv_at hl 0 rfl) ?_
  refine lv_iload_n hx hb d_M_overlap_2 rfl (lv_at hl 1 rfl) ?_
  refine lv_iload_n hx hb d_M_overlap_3 rfl (lv_at hl 2 rfl) ?_
  refine va_calli (va_runV (As := [.int (va), .int (vb)]) (rest := [.ref h]) ⟨hx, hb, hml, hown, htB⟩ (p_M_pair l g z _ h (fs) (np) (va) (vb)) (cwV 2 htB (gV kw_593 kw_595 ks_1_11 kw_3 g_M_pair) rfl rfl rfl (by decide +kernel) ⟨by decide, by decide⟩) (pre_V hS hz ha (va_recv ha.1 hP (ci := 3) (q0 := 0) rfl rfl) ⟨va_one (hP 0 _ rfl), hf1⟩) rfl rfl hl.1 rfl (lv_room (Nat.le_of_ble_eq_true rfl)) d_M_overlap_4 ⟨by decide, by decide⟩) hS (fun q _ h => h.elim) (fun q h => h.elim) (fun r_1 u t H1 locs ht hvm hw hB hz1 hk1 hS => ?_)
  obtain rfl := hB.symm.trans ht
  subst hw
  by_cases c_2 : noP (va) (np) ∨ noP (vb) (np)
  · rw [if_pos c_2]
    refine va_put (D := g.1) (ci := 3) (v := .int (nI (1))) (ty := .int) (C := R_M) (T := F_M) (N := 19) hx hb htB in_M t_M t_M_ok n_M hown ha.1 hP hD hS 0 rfl rfl 0 (by decide) (htB _ kw_442) (fun _ h9 => h9) rfl (by decide +kernel) rfl rfl (by rw [hlen]; decide) d_M_overlap_7 (fun H locs hP hD hS => ?_)
    have hP : va_P g.1 cls [(h, .inr (3, (fs).set 0 (.int (nI (1))))), (ap, eI g 1152 (f)), (am, eI g 8 (mn))] H := hP
    have hD : va_D A [(h, .inr (3, (fs).set 0 (.int (nI (1))))), (ap, eI g 1152 (f)), (am, eI g 8 (mn))] := hD
    refine lv_aload_n hx hb d_M_overlap_10 rfl (lv_at hl 0 rfl) ?_
    refine va_get (D := g.1) (ci := 3) (v := .int (nI (1))) (C := R_M) (T := F_M) (N := 19) hx hb htB in_M hown ha.1 hP 0 rfl rfl 0 (by decide) (htB _ kw_442) (fun _ h9 => h9) (gset_eq hlen (by decide)) d_M_overlap_11 ?_
    refine lv_if_le (tgt := 21) hx hb d_M_overlap_14 (by decide) (fun h => absurd h (by decide)) (fun _ => ?_)
    refine lv_lconst (v := 0) hx hb d_M_overlap_17 (by decide) ?_
    refine lv_goto (tgt := 27) hx hb d_M_overlap_18 (by decide) ?_
    have hP9 := hP.sub (ws' := [(h, .inr (3, (fs).set 0 (.int (nI (1))))), (ap, eI g 1152 (f)), (am, eI g 8 (mn))]) [0, 1, 2] rfl
    have hD9 := hD.sub (ws' := [(h, .inr (3, (fs).set 0 (.int (nI (1))))), (ap, eI g 1152 (f)), (am, eI g 8 (mn))]) [0, 1, 2] (by decide) rfl
    exact (W.widen (k := 0) (n := 0) (Nat.le_of_ble_eq_true rfl) (Nat.le_of_ble_eq_true rfl) (W.lret (v := (0)) hx hb hr (fun t ht hW => ⟨⟨(0), (fs).set 0 (.int (nI (1))), rfl, Or.inl ⟨c_2, rfl, rfl⟩, by rw [ht]; exact hP9, hD9.re [h, ap, am] rfl rfl⟩, hS.F ht⟩) hS.2.2 d_M_overlap_27))
  · rw [if_neg c_2]
    by_cases c_3 : (va) = (vb)
    · rw [if_pos c_3]
      refine va_put (D := g.1) (ci := 3) (v := .int (nI (2))) (ty := .int) (C := R_M) (T := F_M) (N := 19) hx hb htB in_M t_M t_M_ok n_M hown ha.1 hP hD hS 0 rfl rfl 0 (by decide) (htB _ kw_442) (fun _ h9 => h9) rfl (by decide +kernel) rfl rfl (by rw [hlen]; decide) d_M_overlap_7 (fun H locs hP hD hS => ?_)
      have hP : va_P g.1 cls [(h, .inr (3, (fs).set 0 (.int (nI (2))))), (ap, eI g 1152 (f)), (am, eI g 8 (mn))] H := hP
      have hD : va_D A [(h, .inr (3, (fs).set 0 (.int (nI (2))))), (ap, eI g 1152 (f)), (am, eI g 8 (mn))] := hD
      refine lv_aload_n hx hb d_M_overlap_10 rfl (lv_at hl 0 rfl) ?_
      refine va_get (D := g.1) (ci := 3) (v := .int (nI (2))) (C := R_M) (T := F_M) (N := 19) hx hb htB in_M hown ha.1 hP 0 rfl rfl 0 (by decide) (htB _ kw_442) (fun _ h9 => h9) (gset_eq hlen (by decide)) d_M_overlap_11 ?_
      refine lv_if_le (tgt := 21) hx hb d_M_overlap_14 (by decide) (fun h => absurd h (by decide)) (fun _ => ?_)
      refine lv_lconst (v := 0) hx hb d_M_overlap_17 (by decide) ?_
      refine lv_goto (tgt := 27) hx hb d_M_overlap_18 (by decide) ?_
      have hP9 := hP.sub (ws' := [(h, .inr (3, (fs).set 0 (.int (nI (2))))), (ap, eI g 1152 (f)), (am, eI g 8 (mn))]) [0, 1, 2] rfl
      have hD9 := hD.sub (ws' := [(h, .inr (3, (fs).set 0 (.int (nI (2))))), (ap, eI g 1152 (f)), (am, eI g 8 (mn))]) [0, 1, 2] (by decide) rfl
      exact (W.widen (k := 0) (n := 0) (Nat.le_of_ble_eq_true rfl) (Nat.le_of_ble_eq_true rfl) (W.lret (v := (0)) hx hb hr (fun t ht hW => ⟨⟨(0), (fs).set 0 (.int (nI (2))), rfl, Or.inr (Or.inl ⟨c_2, c_3, rfl, rfl⟩), by rw [ht]; exact hP9, hD9.re [h, ap, am] rfl rfl⟩, hS.F ht⟩) hS.2.2 d_M_overlap_27))
    · rw [if_neg c_3]
      refine va_put (D := g.1) (ci := 3) (v := .int (nI (0))) (ty := .int) (C := R_M) (T := F_M) (N := 19) hx hb htB in_M t_M t_M_ok n_M hown ha.1 hP hD hS 0 rfl rfl 0 (by decide) (htB _ kw_442) (fun _ h9 => h9) rfl (by decide +kernel) rfl rfl (by rw [hlen]; decide) d_M_overlap_7 (fun H locs hP hD hS => ?_)
      have hP : va_P g.1 cls [(h, .inr (3, (fs).set 0 (.int (nI (0))))), (ap, eI g 1152 (f)), (am, eI g 8 (mn))] H := hP
      have hD : va_D A [(h, .inr (3, (fs).set 0 (.int (nI (0))))), (ap, eI g 1152 (f)), (am, eI g 8 (mn))] := hD
      refine lv_aload_n hx hb d_M_overlap_10 rfl (lv_at hl 0 rfl) ?_
      refine va_get (D := g.1) (ci := 3) (v := .int (nI (0))) (C := R_M) (T := F_M) (N := 19) hx hb htB in_M hown ha.1 hP 0 rfl rfl 0 (by decide) (htB _ kw_442) (fun _ h9 => h9) (gset_eq hlen (by decide)) d_M_overlap_11 ?_
      refine lv_if_le (tgt := 21) hx hb d_M_overlap_14 (by decide) (fun _ => ?_) (fun h => absurd h (by decide))
      obtain ⟨ja, hja, rfl⟩ := noP_not (by omega) (fun q => c_2 (Or.inl q))
      obtain ⟨jb, hjb, rfl⟩ := noP_not (by omega) (fun q => c_2 (Or.inr q))
      obtain ⟨na, hna, hma⟩ := hmn ja hja
      obtain ⟨nb, hnb, hmb⟩ := hmn jb hjb
      refine lv_aload_n hx hb d_M_overlap_21 rfl (lv_at hl 0 rfl) ?_
      refine lv_iload_n hx hb d_M_overlap_22 rfl (lv_at hl 1 rfl) ?_
      refine lv_iload_n hx hb d_M_overlap_23 rfl (lv_at hl 2 rfl) ?_
      refine va_calll (va_runV (As := [.int (nI (ja)), .int (nI (jb))]) (rest := []) ⟨hx, hb, hml, hown, htB⟩ (p_M_overlapOf l g z _ h ((fs).set 0 (.int (nI (0)))) ap am (f) (mn) (ja) na (jb) nb) (cwV 2 htB (gV kw_597 kw_599 ks_1_12 kw_3 g_M_overlapOf) rfl rfl rfl (by decide +kernel) ⟨by decide, by decide⟩) (pre_V hS hz ha (va_recv ha.1 hP (ci := 3) (q0 := 0) rfl rfl) ⟨va_three (hP 0 _ rfl) (hP 1 _ rfl) (hP 2 _ rfl), (gset_ne (by decide) hf3), (gset_ne (by decide) hf4), by omega, by omega, hma, hmb, hna, hnb⟩) rfl rfl hl.1 rfl (lv_room (Nat.le_of_ble_eq_true rfl)) d_M_overlap_24 ⟨by decide, by decide⟩) hS (fun q _ h => h.elim) (fun q h => h.elim) (fun r_7 u t H1 locs ht hvm hw hB hz1 hk1 hS => ?_)
      obtain rfl := hB.symm.trans ht
      subst hw
      have hP9 := hP.sub (ws' := [(h, .inr (3, (fs).set 0 (.int (nI (0))))), (ap, eI g 1152 (f)), (am, eI g 8 (mn))]) [0, 1, 2] rfl
      have hD9 := hD.sub (ws' := [(h, .inr (3, (fs).set 0 (.int (nI (0))))), (ap, eI g 1152 (f)), (am, eI g 8 (mn))]) [0, 1, 2] (by decide) rfl
      exact (W.widen (k := 0) (n := 0) (Nat.le_of_ble_eq_true rfl) (Nat.le_of_ble_eq_true rfl) (W.lret (v := (ovM f (ja) na (jb) nb)) hx hb hr (fun t ht hW => ⟨⟨(ovM f (ja) na (jb) nb), (fs).set 0 (.int (nI (0))), rfl, Or.inr (Or.inr ⟨ja, na, jb, nb, hja, hjb, rfl, rfl, c_3, hna, hma, hnb, hmb, rfl, rfl⟩), by rw [ht]; exact hP9, hD9.re [h, ap, am] rfl rfl⟩, hS.F ht⟩) hS.2.2 d_M_overlap_27))
set_option maxHeartbeats 4000000 in
set_option maxRecDepth 100000 in
theorem m_M_touch (l : Launch) (g : gT) (z : Nat) (H0 : Heap) (h : Nat) (fs : List Value) (ap am np : Nat) (f mn : Nat → Int32) (va vb : Int32) : Met l y_M_touch w_M_touch ({ frames := 3, cells := 0, slots := 0, locals := 76 }) (va_Pc [.ref h, .int (va), .int (vb)] (pB g z H0 (va_P g.1 cls [(h, .inr (3, fs)), (ap, eI g 1152 (f)), (am, eI g 8 (mn))] H0 ∧ va_D (zA z) [(h, .inr (3, fs)), (ap, eI g 1152 (f)), (am, eI g 8 (mn))] ∧ (fs.length = 19 ∧ fs[1]? = some (.int (nI np)) ∧ np ≤ 8 ∧ fs[3]? = some (.ref ap) ∧ fs[4]? = some (.ref am) ∧ (∀ j, j < np → ∃ n : Nat, n ≤ 24 ∧ mn j = nI n))))) (va_Ql (fun (rr : Int64) (u : List Value) => ((noP va np ∨ noP vb np) ∧ u = fs.set 0 (.int (nI 1)) ∧ rr = 0) ∨ (¬ (noP va np ∨ noP vb np) ∧ va = vb ∧ u = fs.set 0 (.int (nI 2)) ∧ rr = 0) ∨ (∃ ja na jb nb : Nat, ja < np ∧ jb < np ∧ va = nI ja ∧ vb = nI jb ∧ ¬ va = vb ∧ na ≤ 24 ∧ mn ja = nI na ∧ nb ≤ 24 ∧ mn jb = nI nb ∧ u = fs.set 0 (.int (nI 0)) ∧ rr = toM f ja na jb nb)) (fun (u : List Value) t => va_P g.1 cls [(h, .inr (3, u)), (ap, eI g 1152 (f)), (am, eI g 8 (mn))] t.heap ∧ va_D (va_A [(h, .inr (3, fs)), (ap, eI g 1152 (f)), (am, eI g 8 (mn))] H0.size) [(h, .inr (3, u)), (ap, eI g 1152 (f)), (am, eI g 8 (mn))]) (va_A [(h, .inr (3, fs)), (ap, eI g 1152 (f)), (am, eI g 8 (mn))] H0.size)) 0 0 (va_A [(h, .inr (3, fs)), (ap, eI g 1152 (f)), (am, eI g 8 (mn))] H0.size) := by
  refine Met.ofW (cc := c_M_touch) (maxL := 3) (ret := (some .long)) (by decide) rfl ?_
  intro p e s m args below meth c s₁ B hml hv
  obtain ⟨rfl, hH0, ha, hP, hD0, hlen, hf1, hnp, hf3, hf4, hmn⟩ := hv
  have hx := B.exec
  have hb := B.bytes
  have hr := B.returns
  have htB : ∀ w ∈ tB, w.before _ s = true := fun w h => atoms_spec (ws := w_M_touch) B.pre w (List.mem_cons_of_mem _ h)
  have hown : s.vm.findClass "JointSolidsModel" = some m.cls := findClass_of_methodNamed B.named
  have hlocks := B.notSynchronized
  subst hH0
  have hD := hD0.self (sz := s.heap.size)
  have hz := aA_z hD0 ha.2.2.2.2.2
  generalize hAe : va_A [(h, .inr (3, fs)), (ap, eI g 1152 (f)), (am, eI g 8 (mn))] s.heap.size = A at hD hz ⊢
  have hA : ∀ q : Nat, s.heap.size ≤ q → A q := fun q h => by rw [← hAe]; exact Or.inr h
  have hS : va_S A s.heap s.heap [] := va_S.rf
  refine W.ofH hP hS (fun H locs hP hS => ?_)
  have hl := lv_entry ([.ref h, .int (va), .int (vb)]) (n := 3) (Nat.le_of_ble_eq_true rfl)
  rw [lg_entry_eq]
  generalize (lg_sl ([.ref h, .int (va), .int (vb)]) ++ List.replicate (3 - (lg_sl ([.ref h, .int (va), .int (vb)])).length) Slot.unset).toArray = ls at hl ⊢
  have hl : lv_has ls 3 [(0, .ref h), (1, .int (va)), (2, .int (vb))] := hl
  refine lv_aload_n hx hb d_M_touch_0 rfl (lv_at hl 0 rfl) ?_
  refine lv_aload_n hx hb d_M_touch_1 rfl (lv_at hl 0 rfl) ?_
  refine lv_iload_n hx hb d_M_touch_2 rfl (lv_at hl 1 rfl) ?_
  refine lv_iload_n hx hb d_M_touch_3 rfl (lv_at hl 2 rfl) ?_
  refine va_calli (va_runV (As := [.int (va), .int (vb)]) (rest := [.ref h]) ⟨hx, hb, hml, hown, htB⟩ (p_M_pair l g z _ h (fs) (np) (va) (vb)) (cwV 2 htB (gV kw_593 kw_595 ks_1_11 kw_3 g_M_pair) rfl rfl rfl (by decide +kernel) ⟨by decide, by decide⟩) (pre_V hS hz ha (va_recv ha.1 hP (ci := 3) (q0 := 0) rfl rfl) ⟨va_one (hP 0 _ rfl), hf1⟩) rfl rfl hl.1 rfl (lv_room (Nat.le_of_ble_eq_true rfl)) d_M_touch_4 ⟨by decide, by decide⟩) hS (fun q _ h => h.elim) (fun q h => h.elim) (fun r_1 u t H1 locs ht hvm hw hB hz1 hk1 hS => ?_)
  obtain rfl := hB.symm.trans ht
  subst hw
  by_cases c_2 : noP (va) (np) ∨ noP (vb) (np)
  · rw [if_pos c_2]
    refine va_put (D := g.1) (ci := 3) (v := .int (nI (1))) (ty := .int) (C := R_M) (T := F_M) (N := 19) hx hb htB in_M t_M t_M_ok n_M hown ha.1 hP hD hS 0 rfl rfl 0 (by decide) (htB _ kw_442) (fun _ h9 => h9) rfl (by decide +kernel) rfl rfl (by rw [hlen]; decide) d_M_touch_7 (fun H locs hP hD hS => ?_)
    have hP : va_P g.1 cls [(h, .inr (3, (fs).set 0 (.int (nI (1))))), (ap, eI g 1152 (f)), (am, eI g 8 (mn))] H := hP
    have hD : va_D A [(h, .inr (3, (fs).set 0 (.int (nI (1))))), (ap, eI g 1152 (f)), (am, eI g 8 (mn))] := hD
    refine lv_aload_n hx hb d_M_touch_10 rfl (lv_at hl 0 rfl) ?_
    refine va_get (D := g.1) (ci := 3) (v := .int (nI (1))) (C := R_M) (T := F_M) (N := 19) hx hb htB in_M hown ha.1 hP 0 rfl rfl 0 (by decide) (htB _ kw_442) (fun _ h9 => h9) (gset_eq hlen (by decide)) d_M_touch_11 ?_
    refine lv_if_le (tgt := 21) hx hb d_M_touch_14 (by decide) (fun h => absurd h (by decide)) (fun _ => ?_)
    refine lv_lconst (v := 0) hx hb d_M_touch_17 (by decide) ?_
    refine lv_goto (tgt := 27) hx hb d_M_touch_18 (by decide) ?_
    have hP9 := hP.sub (ws' := [(h, .inr (3, (fs).set 0 (.int (nI (1))))), (ap, eI g 1152 (f)), (am, eI g 8 (mn))]) [0, 1, 2] rfl
    have hD9 := hD.sub (ws' := [(h, .inr (3, (fs).set 0 (.int (nI (1))))), (ap, eI g 1152 (f)), (am, eI g 8 (mn))]) [0, 1, 2] (by decide) rfl
    exact (W.widen (k := 0) (n := 0) (Nat.le_of_ble_eq_true rfl) (Nat.le_of_ble_eq_true rfl) (W.lret (v := (0)) hx hb hr (fun t ht hW => ⟨⟨(0), (fs).set 0 (.int (nI (1))), rfl, Or.inl ⟨c_2, rfl, rfl⟩, by rw [ht]; exact hP9, hD9.re [h, ap, am] rfl rfl⟩, hS.F ht⟩) hS.2.2 d_M_touch_27))
  · rw [if_neg c_2]
    by_cases c_3 : (va) = (vb)
    · rw [if_pos c_3]
      refine va_put (D := g.1) (ci := 3) (v := .int (nI (2))) (ty := .int) (C := R_M) (T := F_M) (N := 19) hx hb htB in_M t_M t_M_ok n_M hown ha.1 hP hD hS 0 rfl rfl 0 (by decide) (htB _ kw_442) (fun _ h9 => h9) rfl (by decide +kernel) rfl rfl (by rw [hlen]; decide) d_M_touch_7 (fun H locs hP hD hS => ?_)
      have hP : va_P g.1 cls [(h, .inr (3, (fs).set 0 (.int (nI (2))))), (ap, eI g 1152 (f)), (am, eI g 8 (mn))] H := hP
      have hD : va_D A [(h, .inr (3, (fs).set 0 (.int (nI (2))))), (ap, eI g 1152 (f)), (am, eI g 8 (mn))] := hD
      refine lv_aload_n hx hb d_M_touch_10 rfl (lv_at hl 0 rfl) ?_
      refine va_get (D := g.1) (ci := 3) (v := .int (nI (2))) (C := R_M) (T := F_M) (N := 19) hx hb htB in_M hown ha.1 hP 0 rfl rfl 0 (by decide) (htB _ kw_442) (fun _ h9 => h9) (gset_eq hlen (by decide)) d_M_touch_11 ?_
      refine lv_if_le (tgt := 21) hx hb d_M_touch_14 (by decide) (fun h => absurd h (by decide)) (fun _ => ?_)
      refine lv_lconst (v := 0) hx hb d_M_touch_17 (by decide) ?_
      refine lv_goto (tgt := 27) hx hb d_M_touch_18 (by decide) ?_
      have hP9 := hP.sub (ws' := [(h, .inr (3, (fs).set 0 (.int (nI (2))))), (ap, eI g 1152 (f)), (am, eI g 8 (mn))]) [0, 1, 2] rfl
      have hD9 := hD.sub (ws' := [(h, .inr (3, (fs).set 0 (.int (nI (2))))), (ap, eI g 1152 (f)), (am, eI g 8 (mn))]) [0, 1, 2] (by decide) rfl
      exact (W.widen (k := 0) (n := 0) (Nat.le_of_ble_eq_true rfl) (Nat.le_of_ble_eq_true rfl) (W.lret (v := (0)) hx hb hr (fun t ht hW => ⟨⟨(0), (fs).set 0 (.int (nI (2))), rfl, Or.inr (Or.inl ⟨c_2, c_3, rfl, rfl⟩), by rw [ht]; exact hP9, hD9.re [h, ap, am] rfl rfl⟩, hS.F ht⟩) hS.2.2 d_M_touch_27))
    · rw [if_neg c_3]
      refine va_put (D := g.1) (ci := 3) (v := .int (nI (0))) (ty := .int) (C := R_M) (T := F_M) (N := 19) hx hb htB in_M t_M t_M_ok n_M hown ha.1 hP hD hS 0 rfl rfl 0 (by decide) (htB _ kw_442) (fun _ h9 => h9) rfl (by decide +kernel) rfl rfl (by rw [hlen]; decide) d_M_touch_7 (fun H locs hP hD hS => ?_)
      have hP : va_P g.1 cls [(h, .inr (3, (fs).set 0 (.int (nI (0))))), (ap, eI g 1152 (f)), (am, eI g 8 (mn))] H := hP
      have hD : va_D A [(h, .inr (3, (fs).set 0 (.int (nI (0))))), (ap, eI g 1152 (f)), (am, eI g 8 (mn))] := hD
      refine lv_aload_n hx hb d_M_touch_10 rfl (lv_at hl 0 rfl) ?_
      refine va_get (D := g.1) (ci := 3) (v := .int (nI (0))) (C := R_M) (T := F_M) (N := 19) hx hb htB in_M hown ha.1 hP 0 rfl rfl 0 (by decide) (htB _ kw_442) (fun _ h9 => h9) (gset_eq hlen (by decide)) d_M_touch_11 ?_
      refine lv_if_le (tgt := 21) hx hb d_M_touch_14 (by decide) (fun _ => ?_) (fun h => absurd h (by decide))
      obtain ⟨ja, hja, rfl⟩ := noP_not (by omega) (fun q => c_2 (Or.inl q))
      obtain ⟨jb, hjb, rfl⟩ := noP_not (by omega) (fun q => c_2 (Or.inr q))
      obtain ⟨na, hna, hma⟩ := hmn ja hja
      obtain ⟨nb, hnb, hmb⟩ := hmn jb hjb
      refine lv_aload_n hx hb d_M_touch_21 rfl (lv_at hl 0 rfl) ?_
      refine lv_iload_n hx hb d_M_touch_22 rfl (lv_at hl 1 rfl) ?_
      refine lv_iload_n hx hb d_M_touch_23 rfl (lv_at hl 2 rfl) ?_
      refine va_calll (va_runV (As := [.int (nI (ja)), .int (nI (jb))]) (rest := []) ⟨hx, hb, hml, hown, htB⟩ (p_M_touchOf l g z _ h ((fs).set 0 (.int (nI (0)))) ap am (f) (mn) (ja) na (jb) nb) (cwV 2 htB (gV kw_609 kw_611 ks_1_14 kw_3 g_M_touchOf) rfl rfl rfl (by decide +kernel) ⟨by decide, by decide⟩) (pre_V hS hz ha (va_recv ha.1 hP (ci := 3) (q0 := 0) rfl rfl) ⟨va_three (hP 0 _ rfl) (hP 1 _ rfl) (hP 2 _ rfl), (gset_ne (by decide) hf3), (gset_ne (by decide) hf4), by omega, by omega, hma, hmb, hna, hnb⟩) rfl rfl hl.1 rfl (lv_room (Nat.le_of_ble_eq_true rfl)) d_M_touch_24 ⟨by decide, by decide⟩) hS (fun q _ h => h.elim) (fun q h => h.elim) (fun r_7 u t H1 locs ht hvm hw hB hz1 hk1 hS => ?_)
      obtain rfl := hB.symm.trans ht
      subst hw
      have hP9 := hP.sub (ws' := [(h, .inr (3, (fs).set 0 (.int (nI (0))))), (ap, eI g 1152 (f)), (am, eI g 8 (mn))]) [0, 1, 2] rfl
      have hD9 := hD.sub (ws' := [(h, .inr (3, (fs).set 0 (.int (nI (0))))), (ap, eI g 1152 (f)), (am, eI g 8 (mn))]) [0, 1, 2] (by decide) rfl
      exact (W.widen (k := 0) (n := 0) (Nat.le_of_ble_eq_true rfl) (Nat.le_of_ble_eq_true rfl) (W.lret (v := (toM f (ja) na (jb) nb)) hx hb hr (fun t ht hW => ⟨⟨(toM f (ja) na (jb) nb), (fs).set 0 (.int (nI (0))), rfl, Or.inr (Or.inr ⟨ja, na, jb, nb, hja, hjb, rfl, rfl, c_3, hna, hma, hnb, hmb, rfl, rfl⟩), by rw [ht]; exact hP9, hD9.re [h, ap, am] rfl rfl⟩, hS.F ht⟩) hS.2.2 d_M_touch_27))
