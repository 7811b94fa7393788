theorem gset_ne {fs : List Value} {i j : Nat} {v w : Value} (h : i ≠ j) (e : fs[j]? = some w) : (fs.set i v)[j]? = some w := by rw [List.getElem?_set_ne h]; exact e
theorem gset_eq {fs : List Value} {i n : Nat} {v : Value} (e : fs.length = n) (h : i < n) : (fs.set i v)[i]? = some v := by rw [List.getElem?_set_self (by omega)]
theorem glen {fs : List Value} {i n : Nat} {v : Value} (e : fs.length = n) : (fs.set i v).length = n := by rw [List.length_set]; exact e
set_option maxHeartbeats 4000000 in
set_option maxRecDepth 100000 in
theorem p_M_thrown (l : Launch) (g : gT) (z : Nat) (H0 : Heap) (h : Nat) (fs : List Value) (th : Int32) : Met l y_M_thrown w_M_thrown ({ frames := 0, cells := 0, slots := 0, locals := 0 }) (va_Pc [.ref h] (pB g z H0 (va_P g.1 cls [(h, .inr (3, fs))] H0 ∧ fs[0]? = some (.int th)))) (qI (th) H0) 0 0 nA := by
  refine Met.ofW (cc := c_M_thrown) (maxL := 1) (ret := (some .int)) (by decide) rfl ?_
  intro p e s m args below meth c s₁ B hml hv
  obtain ⟨rfl, hH0, ha, hP, hf0⟩ := hv
  have hx := B.exec
  have hb := B.bytes
  have hr := B.returns
  have htB : ∀ w ∈ tB, w.before _ s = true := fun w h => atoms_spec (ws := w_M_thrown) B.pre w (List.mem_cons_of_mem _ h)
  have hown : s.vm.findClass "JointSolidsModel" = some m.cls := findClass_of_methodNamed B.named
  have hlocks := B.notSynchronized
  subst hH0
  have hz : ∀ q, nA q → z ≤ q := nA_z
  have hS : va_S nA s.heap s.heap [] := va_S.rf
  have hl := lv_entry ([.ref h]) (n := 1) (Nat.le_of_ble_eq_true rfl)
  rw [lg_entry_eq]
  generalize (lg_sl ([.ref h]) ++ List.replicate (1 - (lg_sl ([.ref h])).length) Slot.unset).toArray = ls at hl ⊢
  have hl : lv_has ls 1 [(0, .ref h)] := hl
  refine lv_aload_n hx hb d_M_thrown_0 rfl (lv_at hl 0 rfl) ?_
  refine va_get (D := g.1) (ci := 3) (v := .int (th)) (C := R_M) (T := F_M) (N := 19) hx hb htB in_M hown ha.1 hP 0 rfl rfl 0 (by decide) (htB _ kw_442) (fun _ h9 => h9) hf0 d_M_thrown_1 ?_
  exact W.iret (v := (th)) hx hb hr (fun t ht hW => ⟨⟨(th), (), rfl, rfl, ht⟩, hS.F ht⟩) hS.2.2 d_M_thrown_4
set_option maxHeartbeats 4000000 in
set_option maxRecDepth 100000 in
theorem m_M_clear (l : Launch) (g : gT) (z : Nat) (H0 : Heap) (h : Nat) (fs : List Value) (cl v : Int32) : Met l y_M_clear w_M_clear ({ frames := 1, cells := 0, slots := 0, locals := 22 }) (va_Pc [.ref h, .int (v)] (pB g z H0 (va_P g.1 cls [(h, .inr (3, fs))] H0 ∧ va_D (zA z) [(h, .inr (3, fs))] ∧ (fs.length = 19 ∧ fs[10]? = some (.int cl))))) (va_Qv (fun (u : List Value) => (outI v (nI 0) (nI 100) ∧ u = (fs.set 0 (.int (nI 1))).set 10 (.int cl)) ∨ (¬ outI v (nI 0) (nI 100) ∧ u = (fs.set 0 (.int (nI 0))).set 10 (.int v))) (fun (u : List Value) t => va_P g.1 cls [(h, .inr (3, u))] t.heap ∧ va_D (va_A [(h, .inr (3, fs))] H0.size) [(h, .inr (3, u))]) (va_A [(h, .inr (3, fs))] H0.size)) 0 0 (va_A [(h, .inr (3, fs))] H0.size) := by
  refine Met.ofW (cc := c_M_clear) (maxL := 2) (ret := none) (by decide) rfl ?_
  intro p e s m args below meth c s₁ B hml hv
  obtain ⟨rfl, hH0, ha, hP, hD0, hlen, hf10⟩ := hv
  have hx := B.exec
  have hb := B.bytes
  have hr := B.returns
  have htB : ∀ w ∈ tB, w.before _ s = true := fun w h => atoms_spec (ws := w_M_clear) B.pre w (List.mem_cons_of_mem _ h)
  have hown : s.vm.findClass "JointSolidsModel" = some m.cls := findClass_of_methodNamed B.named
  have hlocks := B.notSynchronized
  subst hH0
  have hD := hD0.self (sz := s.heap.size)
  have hz := aA_z hD0 ha.2.2.2.2.2
  generalize hAe : va_A [(h, .inr (3, fs))] s.heap.size = A at hD hz ⊢
  have hA : ∀ q : Nat, s.heap.size ≤ q → A q := fun q h => by rw [← hAe]; exact Or.inr h
  have hS : va_S A s.heap s.heap [] := va_S.rf
  refine W.ofH hP hS (fun H locs hP hS => ?_)
  have hl := lv_entry ([.ref h, .int (v)]) (n := 2) (Nat.le_of_ble_eq_true rfl)
  rw [lg_entry_eq]
  generalize (lg_sl ([.ref h, .int (v)]) ++ List.replicate (2 - (lg_sl ([.ref h, .int (v)])).length) Slot.unset).toArray = ls at hl ⊢
  have hl : lv_has ls 2 [(0, .ref h), (1, .int (v))] := hl
  refine lv_aload_n hx hb d_M_clear_0 rfl (lv_at hl 0 rfl) ?_
  refine lv_iload_n hx hb d_M_clear_1 rfl (lv_at hl 1 rfl) ?_
  refine lv_iconst (v := (nI (0))) hx hb d_M_clear_2 (by decide) ?_
  refine lv_bipush (v := (nI (100))) hx hb d_M_clear_3 (by decide) ?_
  refine va_calli (va_runS (As := [.int (v), .int (nI (0)), .int (nI (100))]) (rest := [.ref h]) ⟨hx, hb, hml, hown, htB⟩ (p_M_isIn l g z _ (v) (nI (0)) (nI (100))) (va_cwS 3 htB (gS kw_509 kw_510 kw_3 g_M_isIn) rfl rfl rfl (by decide +kernel) ⟨by decide, by decide⟩) (pre_S hS hz ha trivial) rfl rfl hl.1 rfl (lv_room (Nat.le_of_ble_eq_true rfl)) d_M_clear_5 ⟨by decide, by decide⟩) hS (fun q _ h => h.elim) (fun q h => h.elim) (fun r_1 u t H1 locs ht hvm hw hB hz1 hk1 hS => ?_)
  obtain rfl := hB.symm.trans ht
  subst hw
  by_cases c_2 : outI (v) (nI (0)) (nI (100))
  · rw [if_pos c_2]
    refine lv_if_eq (tgt := 15) hx hb d_M_clear_8 (by decide) (fun _ => ?_) (fun h => absurd h (by decide))
    refine lv_iconst (v := (nI (1))) hx hb d_M_clear_15 (by decide) ?_
    refine va_put (D := g.1) (ci := 3) (v := .int (nI (1))) (ty := .int) (C := R_M) (T := F_M) (N := 19) hx hb htB in_M t_M t_M_ok n_M hown ha.1 hP hD hS 0 rfl rfl 0 (by decide) (htB _ kw_442) (fun _ h9 => h9) rfl (by decide +kernel) rfl rfl (by rw [hlen]; decide) d_M_clear_16 (fun H locs hP hD hS => ?_)
    have hP : va_P g.1 cls [(h, .inr (3, (fs).set 0 (.int (nI (1)))))] H := hP
    have hD : va_D A [(h, .inr (3, (fs).set 0 (.int (nI (1)))))] := hD
    refine lv_aload_n hx hb d_M_clear_19 rfl (lv_at hl 0 rfl) ?_
    refine lv_aload_n hx hb d_M_clear_20 rfl (lv_at hl 0 rfl) ?_
    refine va_get (D := g.1) (ci := 3) (v := .int (nI (1))) (C := R_M) (T := F_M) (N := 19) hx hb htB in_M hown ha.1 hP 0 rfl rfl 0 (by decide) (htB _ kw_442) (fun _ h9 => h9) (gset_eq hlen (by decide)) d_M_clear_21 ?_
    refine lv_if_le (tgt := 34) hx hb d_M_clear_24 (by decide) (fun h => absurd h (by decide)) (fun _ => ?_)
    refine lv_aload_n hx hb d_M_clear_27 rfl (lv_at hl 0 rfl) ?_
    refine va_get (D := g.1) (ci := 3) (v := .int (cl)) (C := R_M) (T := F_M) (N := 19) hx hb htB in_M hown ha.1 hP 0 rfl rfl 10 (by decide) (htB _ kw_452) (fun _ h9 => h9) (gset_ne (by decide) hf10) d_M_clear_28 ?_
    refine lv_goto (tgt := 35) hx hb d_M_clear_31 (by decide) ?_
    refine va_put (D := g.1) (ci := 3) (v := .int (cl)) (ty := .int) (C := R_M) (T := F_M) (N := 19) hx hb htB in_M t_M t_M_ok n_M hown ha.1 hP hD hS 0 rfl rfl 10 (by decide) (htB _ kw_452) (fun _ h9 => h9) rfl (by decide +kernel) rfl rfl (by rw [(glen hlen)]; decide) d_M_clear_35 (fun H locs hP hD hS => ?_)
    have hP : va_P g.1 cls [(h, .inr (3, ((fs).set 0 (.int (nI (1)))).set 10 (.int (cl))))] H := hP
    have hD : va_D A [(h, .inr (3, ((fs).set 0 (.int (nI (1)))).set 10 (.int (cl))))] := hD
    have hP9 := hP.sub (ws' := [(h, .inr (3, ((fs).set 0 (.int (nI (1)))).set 10 (.int (cl))))]) [0] rfl
    have hD9 := hD.sub (ws' := [(h, .inr (3, ((fs).set 0 (.int (nI (1)))).set 10 (.int (cl))))]) [0] (by decide) rfl
    exact (W.widen (k := 0) (n := 0) (Nat.le_of_ble_eq_true rfl) (Nat.le_of_ble_eq_true rfl) (W.vret hx hb hr (fun t ht hW => ⟨⟨((fs).set 0 (.int (nI (1)))).set 10 (.int (cl)), rfl, Or.inl ⟨c_2, rfl⟩, by rw [ht]; exact hP9, hD9.re [h] rfl rfl⟩, hS.F ht⟩) hS.2.2 d_M_clear_38))
  · rw [if_neg c_2]
    refine lv_if_eq (tgt := 15) hx hb d_M_clear_8 (by decide) (fun h => absurd h (by decide)) (fun _ => ?_)
    refine lv_iconst (v := (nI (0))) hx hb d_M_clear_11 (by decide) ?_
    refine lv_goto (tgt := 16) hx hb d_M_clear_12 (by decide) ?_
    refine va_put (D := g.1) (ci := 3) (v := .int (nI (0))) (ty := .int) (C := R_M) (T := F_M) (N := 19) hx hb htB in_M t_M t_M_ok n_M hown ha.1 hP hD hS 0 rfl rfl 0 (by decide) (htB _ kw_442) (fun _ h9 => h9) rfl (by decide +kernel) rfl rfl (by rw [hlen]; decide) d_M_clear_16 (fun H locs hP hD hS => ?_)
    have hP : va_P g.1 cls [(h, .inr (3, (fs).set 0 (.int (nI (0)))))] H := hP
    have hD : va_D A [(h, .inr (3, (fs).set 0 (.int (nI (0)))))] := hD
    refine lv_aload_n hx hb d_M_clear_19 rfl (lv_at hl 0 rfl) ?_
    refine lv_aload_n hx hb d_M_clear_20 rfl (lv_at hl 0 rfl) ?_
    refine va_get (D := g.1) (ci := 3) (v := .int (nI (0))) (C := R_M) (T := F_M) (N := 19) hx hb htB in_M hown ha.1 hP 0 rfl rfl 0 (by decide) (htB _ kw_442) (fun _ h9 => h9) (gset_eq hlen (by decide)) d_M_clear_21 ?_
    refine lv_if_le (tgt := 34) hx hb d_M_clear_24 (by decide) (fun _ => ?_) (fun h => absurd h (by decide))
    refine lv_iload_n hx hb d_M_clear_34 rfl (lv_at hl 1 rfl) ?_
    refine va_put (D := g.1) (ci := 3) (v := .int (v)) (ty := .int) (C := R_M) (T := F_M) (N := 19) hx hb htB in_M t_M t_M_ok n_M hown ha.1 hP hD hS 0 rfl rfl 10 (by decide) (htB _ kw_452) (fun _ h9 => h9) rfl (by decide +kernel) rfl rfl (by rw [(glen hlen)]; decide) d_M_clear_35 (fun H locs hP hD hS => ?_)
    have hP : va_P g.1 cls [(h, .inr (3, ((fs).set 0 (.int (nI (0)))).set 10 (.int (v))))] H := hP
    have hD : va_D A [(h, .inr (3, ((fs).set 0 (.int (nI (0)))).set 10 (.int (v))))] := hD
    have hP9 := hP.sub (ws' := [(h, .inr (3, ((fs).set 0 (.int (nI (0)))).set 10 (.int (v))))]) [0] rfl
    have hD9 := hD.sub (ws' := [(h, .inr (3, ((fs).set 0 (.int (nI (0)))).set 10 (.int (v))))]) [0] (by decide) rfl
    exact (W.widen (k := 0) (n := 0) (Nat.le_of_ble_eq_true rfl) (Nat.le_of_ble_eq_true rfl) (W.vret hx hb hr (fun t ht hW => ⟨⟨((fs).set 0 (.int (nI (0)))).set 10 (.int (v)), rfl, Or.inr ⟨c_2, rfl⟩, by rw [ht]; exact hP9, hD9.re [h] rfl rfl⟩, hS.F ht⟩) hS.2.2 d_M_clear_38))
