set_option maxHeartbeats 4000000 in
set_option maxRecDepth 100000 in
theorem m_M_load (l : Launch) (g : gT) (z : Nat) (H0 : Heap) (h : Nat) (fs : List Value) (ap am ad adm : Nat) (f mn fd dm : Nat → Int32) (sd a na : Nat) : Met l y_M_load w_M_load ({ frames := 0, cells := 0, slots := 0, locals := 0 }) (va_Pc [.ref h, .int (nI (sd)), .int (nI (a))] (pB g z H0 (va_P g.1 cls [(h, .inr (3, fs)), (ap, eI g 1152 (f)), (am, eI g 8 (mn)), (ad, eI g 288 (fd)), (adm, eI g 2 (dm))] H0 ∧ va_D (zA z) [(h, .inr (3, fs)), (ap, eI g 1152 (f)), (am, eI g 8 (mn)), (ad, eI g 288 (fd)), (adm, eI g 2 (dm))] ∧ (fs[3]? = some (.ref ap) ∧ fs[4]? = some (.ref am) ∧ fs[5]? = some (.ref ad) ∧ fs[6]? = some (.ref adm) ∧ sd < 2 ∧ a < 8 ∧ na ≤ 24 ∧ mn a = nI na)))) (va_Qv (fun (_ : Unit) => True) (fun (_ : Unit) t => va_P g.1 cls [(h, .inr (3, fs)), (ap, eI g 1152 (f)), (am, eI g 8 (mn)), (ad, eI g 288 (va_cpy f fd (144 * a) (144 * sd) (6 * na))), (adm, eI g 2 (upd dm sd (nI na)))] t.heap ∧ va_D (va_A [(h, .inr (3, fs)), (ap, eI g 1152 (f)), (am, eI g 8 (mn)), (ad, eI g 288 (fd)), (adm, eI g 2 (dm))] H0.size) [(h, .inr (3, fs)), (ap, eI g 1152 (f)), (am, eI g 8 (mn)), (ad, eI g 288 (va_cpy f fd (144 * a) (144 * sd) (6 * na))), (adm, eI g 2 (upd dm sd (nI na)))]) (va_A [(h, .inr (3, fs)), (ap, eI g 1152 (f)), (am, eI g 8 (mn)), (ad, eI g 288 (fd)), (adm, eI g 2 (dm))] H0.size)) 0 0 (va_A [(h, .inr (3, fs)), (ap, eI g 1152 (f)), (am, eI g 8 (mn)), (ad, eI g 288 (fd)), (adm, eI g 2 (dm))] H0.size) := by
  refine Met.ofW (cc := c_M_load) (maxL := 4) (ret := none) (by decide) rfl ?_
  intro p e s m args below meth c s₁ B hml hv
  obtain ⟨rfl, hH0, ha, hP, hD0, hf3, hf4, hf5, hf6, hsd, ha8, hna, hma⟩ := hv
  have hx := B.exec
  have hb := B.bytes
  have hr := B.returns
  have htB : ∀ w ∈ tB, w.before _ s = true := fun w h => atoms_spec (ws := w_M_load) B.pre w (List.mem_cons_of_mem _ h)
  have hown : s.vm.findClass "JointSolidsModel" = some m.cls := findClass_of_methodNamed B.named
  have hlocks := B.notSynchronized
  subst hH0
  have hD := hD0.self (sz := s.heap.size)
  have hz := aA_z hD0 ha.2.2.2.2.2
  generalize hAe : va_A [(h, .inr (3, fs)), (ap, eI g 1152 (f)), (am, eI g 8 (mn)), (ad, eI g 288 (fd)), (adm, eI g 2 (dm))] s.heap.size = A at hD hz ⊢
  have hA : ∀ q : Nat, s.heap.size ≤ q → A q := fun q h => by rw [← hAe]; exact Or.inr h
  have hS : va_S A s.heap s.heap [] := va_S.rf
  refine W.ofH hP hS (fun H locs hP hS => ?_)
  have hl := lv_entry ([.ref h, .int (nI (sd)), .int (nI (a))]) (n := 4) (Nat.le_of_ble_eq_true rfl)
  rw [lg_entry_eq]
  generalize (lg_sl ([.ref h, .int (nI (sd)), .int (nI (a))]) ++ List.replicate (4 - (lg_sl ([.ref h, .int (nI (sd)), .int (nI (a))])).length) Slot.unset).toArray = ls at hl ⊢
  have hl : lv_has ls 4 [(0, .ref h), (1, .int (nI (sd))), (2, .int (nI (a)))] := hl
  refine lv_aload_n hx hb d_M_load_0 rfl (lv_at hl 0 rfl) ?_
  refine va_get (D := g.1) (ci := 3) (v := .ref adm) (C := R_M) (T := F_M) (N := 19) hx hb htB in_M hown ha.1 hP 0 rfl rfl 6 (by decide) (htB _ kw_448) (fun _ h9 => h9) hf6 d_M_load_1 ?_
  refine lv_iload_n hx hb d_M_load_4 rfl (lv_at hl 1 rfl) ?_
  refine lv_aload_n hx hb d_M_load_5 rfl (lv_at hl 0 rfl) ?_
  refine va_get (D := g.1) (ci := 3) (v := .ref am) (C := R_M) (T := F_M) (N := 19) hx hb htB in_M hown ha.1 hP 0 rfl rfl 4 (by decide) (htB _ kw_446) (fun _ h9 => h9) hf4 d_M_load_6 ?_
  refine lv_iload_n hx hb d_M_load_9 rfl (lv_at hl 2 rfl) ?_
  refine ja_ald (k := a) hx hb ha.1 hP 2 0 rfl rfl (by omega) (by omega) d_M_load_10 ?_
  rw [hma]
  refine ja_ast (k := sd) hx hb ha.1 hP hD hS 4 0 rfl rfl (by omega) (by omega) d_M_load_11 (fun H locs hP hD hS => ?_)
  have hP : va_P g.1 cls [(h, .inr (3, fs)), (ap, eI g 1152 (f)), (am, eI g 8 (mn)), (ad, eI g 288 (fd)), (adm, eI g 2 (upd (dm) (sd) (nI (na))))] H := hP
  have hD : va_D A [(h, .inr (3, fs)), (ap, eI g 1152 (f)), (am, eI g 8 (mn)), (ad, eI g 288 (fd)), (adm, eI g 2 (upd (dm) (sd) (nI (na))))] := hD
  refine lv_iconst (v := (nI (0))) hx hb d_M_load_12 (by decide) ?_
  refine lv_istore_n (lv' := [(3, .int (nI (0))), (0, .ref h), (1, .int (nI (sd))), (2, .int (nI (a)))]) hx hb d_M_load_13 rfl hl (by decide) rfl (fun ls hl => ?_)
  rw [← cpy_zero f fd (144 * a) (144 * sd)] at hP
  have hP : va_P g.1 cls [(h, .inr (3, fs)), (ap, eI g 1152 (f)), (am, eI g 8 (mn)), (ad, eI g 288 (va_cpy f fd (144 * a) (144 * sd) 0)), (adm, eI g 2 (upd (dm) (sd) (nI (na))))] H := hP
  refine W.loop (N := 6 * na) (X := fun i ls locs H => lv_has ls 4 [(0, .ref h), (1, .int (nI (sd))), (2, .int (nI (a))), (3, .int (nI (i)))] ∧ i ≤ 6 * na ∧ va_P g.1 cls [(h, .inr (3, fs)), (ap, eI g 1152 (f)), (am, eI g 8 (mn)), (ad, eI g 288 (va_cpy f fd (144 * a) (144 * sd) i)), (adm, eI g 2 (upd (dm) (sd) (nI (na))))] H ∧ va_D A [(h, .inr (3, fs)), (ap, eI g 1152 (f)), (am, eI g 8 (mn)), (ad, eI g 288 (va_cpy f fd (144 * a) (144 * sd) i)), (adm, eI g 2 (upd (dm) (sd) (nI (na))))] ∧ va_S A s.heap H locs) 0 ⟨lv_sub hl [1, 2, 3, 0] rfl, Nat.zero_le _, hP, hD.re [h, ap, am, ad, adm] rfl rfl, hS⟩ (fun n_1 ih_2 i ls locs H hn_i hi_i hX => ?_) (fun _ _ _ _ hX => hX.2.1)
  obtain ⟨hl, -, hP, hD, hS⟩ := hX
  refine lv_iload_n hx hb d_M_load_14 rfl (lv_at hl 3 rfl) ?_
  refine lv_bipush (v := (nI (6))) hx hb d_M_load_15 (by decide) ?_
  refine lv_aload_n hx hb d_M_load_17 rfl (lv_at hl 0 rfl) ?_
  refine va_get (D := g.1) (ci := 3) (v := .ref am) (C := R_M) (T := F_M) (N := 19) hx hb htB in_M hown ha.1 hP 0 rfl rfl 4 (by decide) (htB _ kw_446) (fun _ h9 => h9) hf4 d_M_load_18 ?_
  refine lv_iload_n hx hb d_M_load_21 rfl (lv_at hl 2 rfl) ?_
  refine ja_ald (k := a) hx hb ha.1 hP 2 0 rfl rfl (by omega) (by omega) d_M_load_22 ?_
  rw [hma]
  refine jv_imul hx hb d_M_load_23 ?_
  refine jv_icmp_ge (tgt := 57) hx hb (by omega) (by omega) d_M_load_24 (by decide) (fun c_3 => ?_) (fun c_3 => ?_)
  · have hP9 := hP.sub (ws' := [(h, .inr (3, fs)), (ap, eI g 1152 (f)), (am, eI g 8 (mn)), (ad, eI g 288 (va_cpy f fd (144 * a) (144 * sd) i)), (adm, eI g 2 (upd (dm) (sd) (nI (na))))]) [0, 1, 2, 3, 4] rfl
    have hD9 := hD.sub (ws' := [(h, .inr (3, fs)), (ap, eI g 1152 (f)), (am, eI g 8 (mn)), (ad, eI g 288 (va_cpy f fd (144 * a) (144 * sd) i)), (adm, eI g 2 (upd (dm) (sd) (nI (na))))]) [0, 1, 2, 3, 4] (by decide) rfl
    exact (W.widen (k := 0) (n := 0) (Nat.le_of_ble_eq_true rfl) (Nat.le_of_ble_eq_true rfl) (W.vret hx hb hr (fun t ht hW => ⟨⟨(), rfl, trivial, by rw [ht, show 6 * na = i from by omega]; exact hP9, hD9.re [h, ap, am, ad, adm] rfl rfl⟩, hS.F ht⟩) hS.2.2 d_M_load_57))
  · refine lv_aload_n hx hb d_M_load_27 rfl (lv_at hl 0 rfl) ?_
    refine va_get (D := g.1) (ci := 3) (v := .ref ad) (C := R_M) (T := F_M) (N := 19) hx hb htB in_M hown ha.1 hP 0 rfl rfl 5 (by decide) (htB _ kw_447) (fun _ h9 => h9) hf5 d_M_load_28 ?_
    refine lv_sipush (v := (nI (144))) hx hb d_M_load_31 (by decide) ?_
    refine lv_iload_n hx hb d_M_load_34 rfl (lv_at hl 1 rfl) ?_
    refine jv_imul hx hb d_M_load_35 ?_
    refine lv_iload_n hx hb d_M_load_36 rfl (lv_at hl 3 rfl) ?_
    refine jv_iadd hx hb d_M_load_37 ?_
    refine lv_aload_n hx hb d_M_load_38 rfl (lv_at hl 0 rfl) ?_
    refine va_get (D := g.1) (ci := 3) (v := .ref ap) (C := R_M) (T := F_M) (N := 19) hx hb htB in_M hown ha.1 hP 0 rfl rfl 3 (by decide) (htB _ kw_445) (fun _ h9 => h9) hf3 d_M_load_39 ?_
    refine lv_sipush (v := (nI (144))) hx hb d_M_load_42 (by decide) ?_
    refine lv_iload_n hx hb d_M_load_45 rfl (lv_at hl 2 rfl) ?_
    refine jv_imul hx hb d_M_load_46 ?_
    refine lv_iload_n hx hb d_M_load_47 rfl (lv_at hl 3 rfl) ?_
    refine jv_iadd hx hb d_M_load_48 ?_
    refine ja_ald (k := (144 * a) + i) hx hb ha.1 hP 1 0 rfl rfl (by omega) (by omega) d_M_load_49 ?_
    refine ja_ast (k := (144 * sd) + i) hx hb ha.1 hP hD hS 3 0 rfl rfl (by omega) (by omega) d_M_load_50 (fun H locs hP hD hS => ?_)
    have hP : va_P g.1 cls [(h, .inr (3, fs)), (ap, eI g 1152 (f)), (am, eI g 8 (mn)), (ad, eI g 288 (upd (va_cpy f fd (144 * a) (144 * sd) i) ((144 * sd) + i) (f ((144 * a) + i)))), (adm, eI g 2 (upd (dm) (sd) (nI (na))))] H := hP
    have hD : va_D A [(h, .inr (3, fs)), (ap, eI g 1152 (f)), (am, eI g 8 (mn)), (ad, eI g 288 (upd (va_cpy f fd (144 * a) (144 * sd) i) ((144 * sd) + i) (f ((144 * a) + i)))), (adm, eI g 2 (upd (dm) (sd) (nI (na))))] := hD
    refine lv_iinc (v := nI (i + 1)) (lv' := [(3, .int (nI (i + 1))), (0, .ref h), (1, .int (nI (sd))), (2, .int (nI (a)))]) hx hb d_M_load_51 hl (k := 3) rfl (nI_add _ 1) (by decide) rfl (fun ls hl => ?_)
    refine lv_goto (tgt := 14) hx hb d_M_load_54 (by decide) ?_
    rw [cpy_step] at hP
    have hD : va_D A [(h, .inr (3, fs)), (ap, eI g 1152 (f)), (am, eI g 8 (mn)), (ad, eI g 288 (va_cpy f fd (144 * a) (144 * sd) (i + 1))), (adm, eI g 2 (upd (dm) (sd) (nI (na))))] := hD.re [h, ap, am, ad, adm] rfl rfl
    exact ih_2 (i + 1) ls locs H (by omega) ⟨lv_sub (l' := [(0, .ref h), (1, .int (nI (sd))), (2, .int (nI (a))), (3, .int (nI ((i + 1))))]) hl [1, 2, 3, 0] rfl, by omega, hP.sub (ws' := [(h, .inr (3, fs)), (ap, eI g 1152 (f)), (am, eI g 8 (mn)), (ad, eI g 288 (va_cpy f fd (144 * a) (144 * sd) (i + 1))), (adm, eI g 2 (upd (dm) (sd) (nI (na))))]) [0, 1, 2, 3, 4] rfl, (hD.sub (ws' := [(h, .inr (3, fs)), (ap, eI g 1152 (f)), (am, eI g 8 (mn)), (ad, eI g 288 (va_cpy f fd (144 * a) (144 * sd) (i + 1))), (adm, eI g 2 (upd (dm) (sd) (nI (na))))]) [0, 1, 2, 3, 4] (by decide) rfl).re [h, ap, am, ad, adm] rfl rfl, hS⟩
set_option maxHeartbeats 4000000 in
set_option maxRecDepth 100000 in
theorem m_M_store (l : Launch) (g : gT) (z : Nat) (H0 : Heap) (h : Nat) (fs : List Value) (ap am ad adm : Nat) (f mn fd dm : Nat → Int32) (sd a na : Nat) : Met l y_M_store w_M_store ({ frames := 0, cells := 0, slots := 0, locals := 0 }) (va_Pc [.ref h, .int (nI (sd)), .int (nI (a))] (pB g z H0 (va_P g.1 cls [(h, .inr (3, fs)), (ap, eI g 1152 (f)), (am, eI g 8 (mn)), (ad, eI g 288 (fd)), (adm, eI g 2 (dm))] H0 ∧ va_D (zA z) [(h, .inr (3, fs)), (ap, eI g 1152 (f)), (am, eI g 8 (mn)), (ad, eI g 288 (fd)), (adm, eI g 2 (dm))] ∧ (fs[3]? = some (.ref ap) ∧ fs[4]? = some (.ref am) ∧ fs[5]? = some (.ref ad) ∧ fs[6]? = some (.ref adm) ∧ sd < 2 ∧ a < 8 ∧ na ≤ 24 ∧ dm sd = nI na)))) (va_Qv (fun (_ : Unit) => True) (fun (_ : Unit) t => va_P g.1 cls [(h, .inr (3, fs)), (ap, eI g 1152 (va_cpy fd f (144 * sd) (144 * a) (6 * na))), (am, eI g 8 (upd mn a (nI na))), (ad, eI g 288 (fd)), (adm, eI g 2 (dm))] t.heap ∧ va_D (va_A [(h, .inr (3, fs)), (ap, eI g 1152 (f)), (am, eI g 8 (mn)), (ad, eI g 288 (fd)), (adm, eI g 2 (dm))] H0.size) [(h, .inr (3, fs)), (ap, eI g 1152 (va_cpy fd f (144 * sd) (144 * a) (6 * na))), (am, eI g 8 (upd mn a (nI na))), (ad, eI g 288 (fd)), (adm, eI g 2 (dm))]) (va_A [(h, .inr (3, fs)), (ap, eI g 1152 (f)), (am, eI g 8 (mn)), (ad, eI g 288 (fd)), (adm, eI g 2 (dm))] H0.size)) 0 0 (va_A [(h, .inr (3, fs)), (ap, eI g 1152 (f)), (am, eI g 8 (mn)), (ad, eI g 288 (fd)), (adm, eI g 2 (dm))] H0.size) := by
  refine Met.ofW (cc := c_M_store) (maxL := 4) (ret := none) (by decide) rfl ?_
  intro p e s m args below meth c s₁ B hml hv
  obtain ⟨rfl, hH0, ha, hP, hD0, hf3, hf4, hf5, hf6, hsd, ha8, hna, hmd⟩ := hv
  have hx := B.exec
  have hb := B.bytes
  have hr := B.returns
  have htB : ∀ w ∈ tB, w.before _ s = true := fun w h => atoms_spec (ws := w_M_store) B.pre w (List.mem_cons_of_mem _ h)
  have hown : s.vm.findClass "JointSolidsModel" = some m.cls := findClass_of_methodNamed B.named
  have hlocks := B.notSynchronized
  subst hH0
  have hD := hD0.self (sz := s.heap.size)
  have hz := aA_z hD0 ha.2.2.2.2.2
  generalize hAe : va_A [(h, .inr (3, fs)), (ap, eI g 1152 (f)), (am, eI g 8 (mn)), (ad, eI g 288 (fd)), (adm, eI g 2 (dm))] s.heap.size = A at hD hz ⊢
  have hA : ∀ q : Nat, s.heap.size ≤ q → A q := fun q h => by rw [← hAe]; exact Or.inr h
  have hS : va_S A s.heap s.heap [] := va_S.rf
  refine W.ofH hP hS (fun H locs hP hS => ?_)
  have hl := lv_entry ([.ref h, .int (nI (sd)), .int (nI (a))]) (n := 4) (Nat.le_of_ble_eq_true rfl)
  rw [lg_entry_eq]
  generalize (lg_sl ([.ref h, .int (nI (sd)), .int (nI (a))]) ++ List.replicate (4 - (lg_sl ([.ref h, .int (nI (sd)), .int (nI (a))])).length) Slot.unset).toArray = ls at hl ⊢
  have hl : lv_has ls 4 [(0, .ref h), (1, .int (nI (sd))), (2, .int (nI (a)))] := hl
  refine lv_aload_n hx hb d_M_store_0 rfl (lv_at hl 0 rfl) ?_
  refine va_get (D := g.1) (ci := 3) (v := .ref am) (C := R_M) (T := F_M) (N := 19) hx hb htB in_M hown ha.1 hP 0 rfl rfl 4 (by decide) (htB _ kw_446) (fun _ h9 => h9) hf4 d_M_store_1 ?_
  refine lv_iload_n hx hb d_M_store_4 rfl (lv_at hl 2 rfl) ?_
  refine lv_aload_n hx hb d_M_store_5 rfl (lv_at hl 0 rfl) ?_
  refine va_get (D := g.1) (ci := 3) (v := .ref adm) (C := R_M) (T := F_M) (N := 19) hx hb htB in_M hown ha.1 hP 0 rfl rfl 6 (by decide) (htB _ kw_448) (fun _ h9 => h9) hf6 d_M_store_6 ?_
  refine lv_iload_n hx hb d_M_store_9 rfl (lv_at hl 1 rfl) ?_
  refine ja_ald (k := sd) hx hb ha.1 hP 4 0 rfl rfl (by omega) (by omega) d_M_store_10 ?_
  rw [hmd]
  refine ja_ast (k := a) hx hb ha.1 hP hD hS 2 0 rfl rfl (by omega) (by omega) d_M_store_11 (fun H locs hP hD hS => ?_)
  have hP : va_P g.1 cls [(h, .inr (3, fs)), (ap, eI g 1152 (f)), (am, eI g 8 (upd (mn) (a) (nI (na)))), (ad, eI g 288 (fd)), (adm, eI g 2 (dm))] H := hP
  have hD : va_D A [(h, .inr (3, fs)), (ap, eI g 1152 (f)), (am, eI g 8 (upd (mn) (a) (nI (na)))), (ad, eI g 288 (fd)), (adm, eI g 2 (dm))] := hD
  refine lv_iconst (v := (nI (0))) hx hb d_M_store_12 (by decide) ?_
  refine lv_istore_n (lv' := [(3, .int (nI (0))), (0, .ref h), (1, .int (nI (sd))), (2, .int (nI (a)))]) hx hb d_M_store_13 rfl hl (by decide) rfl (fun ls hl => ?_)
  rw [← cpy_zero fd f (144 * sd) (144 * a)] at hP
  have hP : va_P g.1 cls [(h, .inr (3, fs)), (ap, eI g 1152 (va_cpy fd f (144 * sd) (144 * a) 0)), (am, eI g 8 (upd (mn) (a) (nI (na)))), (ad, eI g 288 (fd)), (adm, eI g 2 (dm))] H := hP
  refine W.loop (N := 6 * na) (X := fun i ls locs H => lv_has ls 4 [(0, .ref h), (1, .int (nI (sd))), (2, .int (nI (a))), (3, .int (nI (i)))] ∧ i ≤ 6 * na ∧ va_P g.1 cls [(h, .inr (3, fs)), (ap, eI g 1152 (va_cpy fd f (144 * sd) (144 * a) i)), (am, eI g 8 (upd (mn) (a) (nI (na)))), (ad, eI g 288 (fd)), (adm, eI g 2 (dm))] H ∧ va_D A [(h, .inr (3, fs)), (ap, eI g 1152 (va_cpy fd f (144 * sd) (144 * a) i)), (am, eI g 8 (upd (mn) (a) (nI (na)))), (ad, eI g 288 (fd)), (adm, eI g 2 (dm))] ∧ va_S A s.heap H locs) 0 ⟨lv_sub hl [1, 2, 3, 0] rfl, Nat.zero_le _, hP, hD.re [h, ap, am, ad, adm] rfl rfl, hS⟩ (fun n_1 ih_2 i ls locs H hn_i hi_i hX => ?_) (fun _ _ _ _ hX => hX.2.1)
  obtain ⟨hl, -, hP, hD, hS⟩ := hX
  refine lv_iload_n hx hb d_M_store_14 rfl (lv_at hl 3 rfl) ?_
  refine lv_bipush (v := (nI (6))) hx hb d_M_store_15 (by decide) ?_
  refine lv_aload_n hx hb d_M_store_17 rfl (lv_at hl 0 rfl) ?_
  refine va_get (D := g.1) (ci := 3) (v := .ref am) (C := R_M) (T := F_M) (N := 19) hx hb htB in_M hown ha.1 hP 0 rfl rfl 4 (by decide) (htB _ kw_446) (fun _ h9 => h9) hf4 d_M_store_18 ?_
  refine lv_iload_n hx hb d_M_store_21 rfl (lv_at hl 2 rfl) ?_
  refine ja_ald (k := a) hx hb ha.1 hP 2 0 rfl rfl (by omega) (by omega) d_M_store_22 ?_
  rw [show upd mn a (nI na) a = nI na from pk_us]
  refine jv_imul hx hb d_M_store_23 ?_
  refine jv_icmp_ge (tgt := 57) hx hb (by omega) (by omega) d_M_store_24 (by decide) (fun c_3 => ?_) (fun c_3 => ?_)
  · have hP9 := hP.sub (ws' := [(h, .inr (3, fs)), (ap, eI g 1152 (va_cpy fd f (144 * sd) (144 * a) i)), (am, eI g 8 (upd (mn) (a) (nI (na)))), (ad, eI g 288 (fd)), (adm, eI g 2 (dm))]) [0, 1, 2, 3, 4] rfl
    have hD9 := hD.sub (ws' := [(h, .inr (3, fs)), (ap, eI g 1152 (va_cpy fd f (144 * sd) (144 * a) i)), (am, eI g 8 (upd (mn) (a) (nI (na)))), (ad, eI g 288 (fd)), (adm, eI g 2 (dm))]) [0, 1, 2, 3, 4] (by decide) rfl
    exact (W.widen (k := 0) (n := 0) (Nat.le_of_ble_eq_true rfl) (Nat.le_of_ble_eq_true rfl) (W.vret hx hb hr (fun t ht hW => ⟨⟨(), rfl, trivial, by rw [ht, show 6 * na = i from by omega]; exact hP9, hD9.re [h, ap, am, ad, adm] rfl rfl⟩, hS.F ht⟩) hS.2.2 d_M_store_57))
  · refine lv_aload_n hx hb d_M_store_27 rfl (lv_at hl 0 rfl) ?_
    refine va_get (D := g.1) (ci := 3) (v := .ref ap) (C := R_M) (T := F_M) (N := 19) hx hb htB in_M hown ha.1 hP 0 rfl rfl 3 (by decide) (htB _ kw_445) (fun _ h9 => h9) hf3 d_M_store_28 ?_
    refine lv_sipush (v := (nI (144))) hx hb d_M_store_31 (by decide) ?_
    refine lv_iload_n hx hb d_M_store_34 rfl (lv_at hl 2 rfl) ?_
    refine jv_imul hx hb d_M_store_35 ?_
    refine lv_iload_n hx hb d_M_store_36 rfl (lv_at hl 3 rfl) ?_
    refine jv_iadd hx hb d_M_store_37 ?_
    refine lv_aload_n hx hb d_M_store_38 rfl (lv_at hl 0 rfl) ?_
    refine va_get (D := g.1) (ci := 3) (v := .ref ad) (C := R_M) (T := F_M) (N := 19) hx hb htB in_M hown ha.1 hP 0 rfl rfl 5 (by decide) (htB _ kw_447) (fun _ h9 => h9) hf5 d_M_store_39 ?_
    refine lv_sipush (v := (nI (144))) hx hb d_M_store_42 (by decide) ?_
    refine lv_iload_n hx hb d_M_store_45 rfl (lv_at hl 1 rfl) ?_
    refine jv_imul hx hb d_M_store_46 ?_
    refine lv_iload_n hx hb d_M_store_47 rfl (lv_at hl 3 rfl) ?_
    refine jv_iadd hx hb d_M_store_48 ?_
    refine ja_ald (k := (144 * sd) + i) hx hb ha.1 hP 3 0 rfl rfl (by omega) (by omega) d_M_store_49 ?_
    refine ja_ast (k := (144 * a) + i) hx hb ha.1 hP hD hS 1 0 rfl rfl (by omega) (by omega) d_M_store_50 (fun H locs hP hD hS => ?_)
    have hP : va_P g.1 cls [(h, .inr (3, fs)), (ap, eI g 1152 (upd (va_cpy fd f (144 * sd) (144 * a) i) ((144 * a) + i) (fd ((144 * sd) + i)))), (am, eI g 8 (upd (mn) (a) (nI (na)))), (ad, eI g 288 (fd)), (adm, eI g 2 (dm))] H := hP
    have hD : va_D A [(h, .inr (3, fs)), (ap, eI g 1152 (upd (va_cpy fd f (144 * sd) (144 * a) i) ((144 * a) + i) (fd ((144 * sd) + i)))), (am, eI g 8 (upd (mn) (a) (nI (na)))), (ad, eI g 288 (fd)), (adm, eI g 2 (dm))] := hD
    refine lv_iinc (v := nI (i + 1)) (lv' := [(3, .int (nI (i + 1))), (0, .ref h), (1, .int (nI (sd))), (2, .int (nI (a)))]) hx hb d_M_store_51 hl (k := 3) rfl (nI_add _ 1) (by decide) rfl (fun ls hl => ?_)
    refine lv_goto (tgt := 14) hx hb d_M_store_54 (by decide) ?_
    rw [cpy_step] at hP
    have hD : va_D A [(h, .inr (3, fs)), (ap, eI g 1152 (va_cpy fd f (144 * sd) (144 * a) (i + 1))), (am, eI g 8 (upd (mn) (a) (nI (na)))), (ad, eI g 288 (fd)), (adm, eI g 2 (dm))] := hD.re [h, ap, am, ad, adm] rfl rfl
    exact ih_2 (i + 1) ls locs H (by omega) ⟨lv_sub (l' := [(0, .ref h), (1, .int (nI (sd))), (2, .int (nI (a))), (3, .int (nI ((i + 1))))]) hl [1, 2, 3, 0] rfl, by omega, hP.sub (ws' := [(h, .inr (3, fs)), (ap, eI g 1152 (va_cpy fd f (144 * sd) (144 * a) (i + 1))), (am, eI g 8 (upd (mn) (a) (nI (na)))), (ad, eI g 288 (fd)), (adm, eI g 2 (dm))]) [0, 1, 2, 3, 4] rfl, (hD.sub (ws' := [(h, .inr (3, fs)), (ap, eI g 1152 (va_cpy fd f (144 * sd) (144 * a) (i + 1))), (am, eI g 8 (upd (mn) (a) (nI (na)))), (ad, eI g 288 (fd)), (adm, eI g 2 (dm))]) [0, 1, 2, 3, 4] (by decide) rfl).re [h, ap, am, ad, adm] rfl rfl, hS⟩
abbrev mtA (f : Nat → Int32) (o : Nat) (b : Nat → Int32) (k : Nat) : Prop := ¬ b (3 + k) ≤ f (o + k) ∧ ¬ f ((o + 3) + k) ≤ b k
/-- a box of the draft meets the tool's box -/
abbrev mtS (f : Nat → Int32) (o : Nat) (b : Nat → Int32) : Prop := mtA f o b 0 ∧ mtA f o b 1 ∧ mtA f o b 2
set_option maxHeartbeats 4000000 in
set_option maxRecDepth 100000 in
theorem p_M_meets (l : Launch) (g : gT) (z : Nat) (H0 : Heap) (h : Nat) (fs : List Value) (ad ab : Nat) (fd bx : Nat → Int32) (o : Nat) : Met l y_M_meets w_M_meets ({ frames := 0, cells := 0, slots := 0, locals := 0 }) (va_Pc [.ref h, .int (nI (o))] (pB g z H0 (va_P g.1 cls [(h, .inr (3, fs)), (ad, eI g 288 fd), (ab, eI g 6 bx)] H0 ∧ fs[5]? = some (.ref ad) ∧ fs[8]? = some (.ref ab) ∧ o + 6 ≤ 288))) (qI (if mtS fd o bx then nI 1 else nI 0) H0) 0 0 nA := by
  refine Met.ofW (cc := c_M_meets) (maxL := 4) (ret := (some .boolean)) (by decide) rfl ?_
  intro p e s m args below meth c s₁ B hml hv
  obtain ⟨rfl, hH0, ha, hP, hf5, hf8, ho⟩ := hv
  have hx := B.exec
  have hb := B.bytes
  have hr := B.returns
  have htB : ∀ w ∈ tB, w.before _ s = true := fun w h => atoms_spec (ws := w_M_meets) B.pre w (List.mem_cons_of_mem _ h)
  have hown : s.vm.findClass "JointSolidsModel" = some m.cls := findClass_of_methodNamed B.named
  have hlocks := B.notSynchronized
  subst hH0
  have hz : ∀ q, nA q → z ≤ q := nA_z
  have hS : va_S nA s.heap s.heap [] := va_S.rf
  have hl := lv_entry ([.ref h, .int (nI (o))]) (n := 4) (Nat.le_of_ble_eq_true rfl)
  rw [lg_entry_eq]
  generalize (lg_sl ([.ref h, .int (nI (o))]) ++ List.replicate (4 - (lg_sl ([.ref h, .int (nI (o))])).length) Slot.unset).toArray = ls at hl ⊢
  have hl : lv_has ls 4 [(0, .ref h), (1, .int (nI (o)))] := hl
  refine lv_iconst (v := (nI (1))) hx hb d_M_meets_0 (by decide) ?_
  refine lv_istore_n (lv' := [(2, .int (nI (1))), (0, .ref h), (1, .int (nI (o)))]) hx hb d_M_meets_1 rfl hl (by decide) rfl (fun ls hl => ?_)
  refine lv_iconst (v := (nI (0))) hx hb d_M_meets_2 (by decide) ?_
  refine lv_istore_n (lv' := [(3, .int (nI (0))), (2, .int (nI (1))), (0, .ref h), (1, .int (nI (o)))]) hx hb d_M_meets_3 rfl hl (by decide) rfl (fun ls hl => ?_)
  refine lv_iload_n hx hb d_M_meets_4 rfl (lv_at hl 0 rfl) ?_
  refine lv_iconst (v := (nI (3))) hx hb d_M_meets_5 (by decide) ?_
  refine jv_icmp_ge (tgt := 63) hx hb (by omega) (by omega) d_M_meets_6 (by decide) (fun h => absurd h (by decide)) (fun _ => ?_)
  refine lv_iload_n hx hb d_M_meets_9 rfl (lv_at hl 1 rfl) ?_
  refine lv_if_eq (tgt := 55) hx hb d_M_meets_10 (by decide) (fun h => absurd h (by decide)) (fun _ => ?_)
  refine lv_aload_n hx hb d_M_meets_13 rfl (lv_at hl 2 rfl) ?_
  refine va_get (D := g.1) (ci := 3) (v := .ref ad) (C := R_M) (T := F_M) (N := 19) hx hb htB in_M hown ha.1 hP 0 rfl rfl 5 (by decide) (htB _ kw_447) (fun _ h9 => h9) hf5 d_M_meets_14 ?_
  refine lv_iload_n hx hb d_M_meets_17 rfl (lv_at hl 3 rfl) ?_
  refine lv_iload_n hx hb d_M_meets_18 rfl (lv_at hl 0 rfl) ?_
  refine jv_iadd hx hb d_M_meets_19 ?_
  refine ja_ald (k := o + 0) hx hb ha.1 hP 1 0 rfl rfl (by omega) (by omega) d_M_meets_20 ?_
  refine lv_aload_n hx hb d_M_meets_21 rfl (lv_at hl 2 rfl) ?_
  refine va_get (D := g.1) (ci := 3) (v := .ref ab) (C := R_M) (T := F_M) (N := 19) hx hb htB in_M hown ha.1 hP 0 rfl rfl 8 (by decide) (htB _ kw_450) (fun _ h9 => h9) hf8 d_M_meets_22 ?_
  refine lv_iconst (v := (nI (3))) hx hb d_M_meets_25 (by decide) ?_
  refine lv_iload_n hx hb d_M_meets_26 rfl (lv_at hl 0 rfl) ?_
  refine jv_iadd hx hb d_M_meets_27 ?_
  refine ja_ald (k := 3) hx hb ha.1 hP 2 0 rfl rfl (by omega) (by omega) d_M_meets_28 ?_
  refine lv_icmp_ge (tgt := 55) hx hb d_M_meets_29 (by decide) (fun c_2 => ?_) (fun c_2 => ?_)
  · refine lv_iconst (v := (nI (0))) hx hb d_M_meets_55 (by decide) ?_
    refine lv_istore_n (lv' := [(2, .int (nI (0))), (3, .int (nI (0))), (0, .ref h), (1, .int (nI (o)))]) hx hb d_M_meets_56 rfl hl (by decide) rfl (fun ls hl => ?_)
    refine lv_iinc (v := nI (1)) (lv' := [(3, .int (nI (1))), (2, .int (nI (0))), (0, .ref h), (1, .int (nI (o)))]) hx hb d_M_meets_57 hl (k := 1) rfl (nI_add _ 1) (by decide) rfl (fun ls hl => ?_)
    refine lv_goto (tgt := 4) hx hb d_M_meets_60 (by decide) ?_
    refine lv_iload_n hx hb d_M_meets_4 rfl (lv_at hl 0 rfl) ?_
    refine lv_iconst (v := (nI (3))) hx hb d_M_meets_5 (by decide) ?_
    refine jv_icmp_ge (tgt := 63) hx hb (by omega) (by omega) d_M_meets_6 (by decide) (fun h => absurd h (by decide)) (fun _ => ?_)
    refine lv_iload_n hx hb d_M_meets_9 rfl (lv_at hl 1 rfl) ?_
    refine lv_if_eq (tgt := 55) hx hb d_M_meets_10 (by decide) (fun _ => ?_) (fun h => absurd h (by decide))
    refine lv_iconst (v := (nI (0))) hx hb d_M_meets_55 (by decide) ?_
    refine lv_istore_n (lv' := [(2, .int (nI (0))), (3, .int (nI (1))), (0, .ref h), (1, .int (nI (o)))]) hx hb d_M_meets_56 rfl hl (by decide) rfl (fun ls hl => ?_)
    refine lv_iinc (v := nI (2)) (lv' := [(3, .int (nI (2))), (2, .int (nI (0))), (0, .ref h), (1, .int (nI (o)))]) hx hb d_M_meets_57 hl (k := 1) rfl (nI_add _ 1) (by decide) rfl (fun ls hl => ?_)
    refine lv_goto (tgt := 4) hx hb d_M_meets_60 (by decide) ?_
    refine lv_iload_n hx hb d_M_meets_4 rfl (lv_at hl 0 rfl) ?_
    refine lv_iconst (v := (nI (3))) hx hb d_M_meets_5 (by decide) ?_
    refine jv_icmp_ge (tgt := 63) hx hb (by omega) (by omega) d_M_meets_6 (by decide) (fun h => absurd h (by decide)) (fun _ => ?_)
    refine lv_iload_n hx hb d_M_meets_9 rfl (lv_at hl 1 rfl) ?_
    refine lv_if_eq (tgt := 55) hx hb d_M_meets_10 (by decide) (fun _ => ?_) (fun h => absurd h (by decide))
    refine lv_iconst (v := (nI (0))) hx hb d_M_meets_55 (by decide) ?_
    refine lv_istore_n (lv' := [(2, .int (nI (0))), (3, .int (nI (2))), (0, .ref h), (1, .int (nI (o)))]) hx hb d_M_meets_56 rfl hl (by decide) rfl (fun ls hl => ?_)
    refine lv_iinc (v := nI (3)) (lv' := [(3, .int (nI (3))), (2, .int (nI (0))), (0, .ref h), (1, .int (nI (o)))]) hx hb d_M_meets_57 hl (k := 1) rfl (nI_add _ 1) (by decide) rfl (fun ls hl => ?_)
    refine lv_goto (tgt := 4) hx hb d_M_meets_60 (by decide) ?_
    refine lv_iload_n hx hb d_M_meets_4 rfl (lv_at hl 0 rfl) ?_
    refine lv_iconst (v := (nI (3))) hx hb d_M_meets_5 (by decide) ?_
    refine jv_icmp_ge (tgt := 63) hx hb (by omega) (by omega) d_M_meets_6 (by decide) (fun _ => ?_) (fun h => absurd h (by decide))
    refine lv_iload_n hx hb d_M_meets_63 rfl (lv_at hl 1 rfl) ?_
    exact W.zret (v := (nI (0))) hx hb hr (by decide) (fun t ht hW => ⟨⟨(nI (0)), (), rfl, (if_neg (fun h => h.1.1 c_2)).symm, ht⟩, hS.F ht⟩) hS.2.2 d_M_meets_64
  · refine lv_aload_n hx hb d_M_meets_32 rfl (lv_at hl 2 rfl) ?_
    refine va_get (D := g.1) (ci := 3) (v := .ref ab) (C := R_M) (T := F_M) (N := 19) hx hb htB in_M hown ha.1 hP 0 rfl rfl 8 (by decide) (htB _ kw_450) (fun _ h9 => h9) hf8 d_M_meets_33 ?_
    refine lv_iload_n hx hb d_M_meets_36 rfl (lv_at hl 0 rfl) ?_
    refine ja_ald (k := 0) hx hb ha.1 hP 2 0 rfl rfl (by omega) (by omega) d_M_meets_37 ?_
    refine lv_aload_n hx hb d_M_meets_38 rfl (lv_at hl 2 rfl) ?_
    refine va_get (D := g.1) (ci := 3) (v := .ref ad) (C := R_M) (T := F_M) (N := 19) hx hb htB in_M hown ha.1 hP 0 rfl rfl 5 (by decide) (htB _ kw_447) (fun _ h9 => h9) hf5 d_M_meets_39 ?_
    refine lv_iload_n hx hb d_M_meets_42 rfl (lv_at hl 3 rfl) ?_
    refine lv_iconst (v := (nI (3))) hx hb d_M_meets_43 (by decide) ?_
    refine jv_iadd hx hb d_M_meets_44 ?_
    refine lv_iload_n hx hb d_M_meets_45 rfl (lv_at hl 0 rfl) ?_
    refine jv_iadd hx hb d_M_meets_46 ?_
    refine ja_ald (k := (o + 3) + 0) hx hb ha.1 hP 1 0 rfl rfl (by omega) (by omega) d_M_meets_47 ?_
    refine lv_icmp_ge (tgt := 55) hx hb d_M_meets_48 (by decide) (fun c_5 => ?_) (fun c_5 => ?_)
    · refine lv_iconst (v := (nI (0))) hx hb d_M_meets_55 (by decide) ?_
      refine lv_istore_n (lv' := [(2, .int (nI (0))), (3, .int (nI (0))), (0, .ref h), (1, .int (nI (o)))]) hx hb d_M_meets_56 rfl hl (by decide) rfl (fun ls hl => ?_)
      refine lv_iinc (v := nI (1)) (lv' := [(3, .int (nI (1))), (2, .int (nI (0))), (0, .ref h), (1, .int (nI (o)))]) hx hb d_M_meets_57 hl (k := 1) rfl (nI_add _ 1) (by decide) rfl (fun ls hl => ?_)
      refine lv_goto (tgt := 4) hx hb d_M_meets_60 (by decide) ?_
      refine lv_iload_n hx hb d_M_meets_4 rfl (lv_at hl 0 rfl) ?_
      refine lv_iconst (v := (nI (3))) hx hb d_M_meets_5 (by decide) ?_
      refine jv_icmp_ge (tgt := 63) hx hb (by omega) (by omega) d_M_meets_6 (by decide) (fun h => absurd h (by decide)) (fun _ => ?_)
      refine lv_iload_n hx hb d_M_meets_9 rfl (lv_at hl 1 rfl) ?_
      refine lv_if_eq (tgt := 55) hx hb d_M_meets_10 (by decide) (fun _ => ?_) (fun h => absurd h (by decide))
      refine lv_iconst (v := (nI (0))) hx hb d_M_meets_55 (by decide) ?_
      refine lv_istore_n (lv' := [(2, .int (nI (0))), (3, .int (nI (1))), (0, .ref h), (1, .int (nI (o)))]) hx hb d_M_meets_56 rfl hl (by decide) rfl (fun ls hl => ?_)
      refine lv_iinc (v := nI (2)) (lv' := [(3, .int (nI (2))), (2, .int (nI (0))), (0, .ref h), (1, .int (nI (o)))]) hx hb d_M_meets_57 hl (k := 1) rfl (nI_add _ 1) (by decide) rfl (fun ls hl => ?_)
      refine lv_goto (tgt := 4) hx hb d_M_meets_60 (by decide) ?_
      refine lv_iload_n hx hb d_M_meets_4 rfl (lv_at hl 0 rfl) ?_
      refine lv_iconst (v := (nI (3))) hx hb d_M_meets_5 (by decide) ?_
      refine jv_icmp_ge (tgt := 63) hx hb (by omega) (by omega) d_M_meets_6 (by decide) (fun h => absurd h (by decide)) (fun _ => ?_)
      refine lv_iload_n hx hb d_M_meets_9 rfl (lv_at hl 1 rfl) ?_
      refine lv_if_eq (tgt := 55) hx hb d_M_meets_10 (by decide) (fun _ => ?_) (fun h => absurd h (by decide))
      refine lv_iconst (v := (nI (0))) hx hb d_M_meets_55 (by decide) ?_
      refine lv_istore_n (lv' := [(2, .int (nI (0))), (3, .int (nI (2))), (0, .ref h), (1, .int (nI (o)))]) hx hb d_M_meets_56 rfl hl (by decide) rfl (fun ls hl => ?_)
      refine lv_iinc (v := nI (3)) (lv' := [(3, .int (nI (3))), (2, .int (nI (0))), (0, .ref h), (1, .int (nI (o)))]) hx hb d_M_meets_57 hl (k := 1) rfl (nI_add _ 1) (by decide) rfl (fun ls hl => ?_)
      refine lv_goto (tgt := 4) hx hb d_M_meets_60 (by decide) ?_
      refine lv_iload_n hx hb d_M_meets_4 rfl (lv_at hl 0 rfl) ?_
      refine lv_iconst (v := (nI (3))) hx hb d_M_meets_5 (by decide) ?_
      refine jv_icmp_ge (tgt := 63) hx hb (by omega) (by omega) d_M_meets_6 (by decide) (fun _ => ?_) (fun h => absurd h (by decide))
      refine lv_iload_n hx hb d_M_meets_63 rfl (lv_at hl 1 rfl) ?_
      exact W.zret (v := (nI (0))) hx hb hr (by decide) (fun t ht hW => ⟨⟨(nI (0)), (), rfl, (if_neg (fun h => h.1.2 c_5)).symm, ht⟩, hS.F ht⟩) hS.2.2 d_M_meets_64
    · refine lv_iconst (v := (nI (1))) hx hb d_M_meets_51 (by decide) ?_
      refine lv_goto (tgt := 56) hx hb d_M_meets_52 (by decide) ?_
      refine lv_istore_n (lv' := [(2, .int (nI (1))), (3, .int (nI (0))), (0, .ref h), (1, .int (nI (o)))]) hx hb d_M_meets_56 rfl hl (by decide) rfl (fun ls hl => ?_)
      refine lv_iinc (v := nI (1)) (lv' := [(3, .int (nI (1))), (2, .int (nI (1))), (0, .ref h), (1, .int (nI (o)))]) hx hb d_M_meets_57 hl (k := 1) rfl (nI_add _ 1) (by decide) rfl (fun ls hl => ?_)
      refine lv_goto (tgt := 4) hx hb d_M_meets_60 (by decide) ?_
      refine lv_iload_n hx hb d_M_meets_4 rfl (lv_at hl 0 rfl) ?_
      refine lv_iconst (v := (nI (3))) hx hb d_M_meets_5 (by decide) ?_
      refine jv_icmp_ge (tgt := 63) hx hb (by omega) (by omega) d_M_meets_6 (by decide) (fun h => absurd h (by decide)) (fun _ => ?_)
      refine lv_iload_n hx hb d_M_meets_9 rfl (lv_at hl 1 rfl) ?_
      refine lv_if_eq (tgt := 55) hx hb d_M_meets_10 (by decide) (fun h => absurd h (by decide)) (fun _ => ?_)
      refine lv_aload_n hx hb d_M_meets_13 rfl (lv_at hl 2 rfl) ?_
      refine va_get (D := g.1) (ci := 3) (v := .ref ad) (C := R_M) (T := F_M) (N := 19) hx hb htB in_M hown ha.1 hP 0 rfl rfl 5 (by decide) (htB _ kw_447) (fun _ h9 => h9) hf5 d_M_meets_14 ?_
      refine lv_iload_n hx hb d_M_meets_17 rfl (lv_at hl 3 rfl) ?_
      refine lv_iload_n hx hb d_M_meets_18 rfl (lv_at hl 0 rfl) ?_
      refine jv_iadd hx hb d_M_meets_19 ?_
      refine ja_ald (k := o + 1) hx hb ha.1 hP 1 0 rfl rfl (by omega) (by omega) d_M_meets_20 ?_
      refine lv_aload_n hx hb d_M_meets_21 rfl (lv_at hl 2 rfl) ?_
      refine va_get (D := g.1) (ci := 3) (v := .ref ab) (C := R_M) (T := F_M) (N := 19) hx hb htB in_M hown ha.1 hP 0 rfl rfl 8 (by decide) (htB _ kw_450) (fun _ h9 => h9) hf8 d_M_meets_22 ?_
      refine lv_iconst (v := (nI (3))) hx hb d_M_meets_25 (by decide) ?_
      refine lv_iload_n hx hb d_M_meets_26 rfl (lv_at hl 0 rfl) ?_
      refine jv_iadd hx hb d_M_meets_27 ?_
      refine ja_ald (k := 4) hx hb ha.1 hP 2 0 rfl rfl (by omega) (by omega) d_M_meets_28 ?_
      refine lv_icmp_ge (tgt := 55) hx hb d_M_meets_29 (by decide) (fun c_9 => ?_) (fun c_9 => ?_)
      · refine lv_iconst (v := (nI (0))) hx hb d_M_meets_55 (by decide) ?_
        refine lv_istore_n (lv' := [(2, .int (nI (0))), (3, .int (nI (1))), (0, .ref h), (1, .int (nI (o)))]) hx hb d_M_meets_56 rfl hl (by decide) rfl (fun ls hl => ?_)
        refine lv_iinc (v := nI (2)) (lv' := [(3, .int (nI (2))), (2, .int (nI (0))), (0, .ref h), (1, .int (nI (o)))]) hx hb d_M_meets_57 hl (k := 1) rfl (nI_add _ 1) (by decide) rfl (fun ls hl => ?_)
        refine lv_goto (tgt := 4) hx hb d_M_meets_60 (by decide) ?_
        refine lv_iload_n hx hb d_M_meets_4 rfl (lv_at hl 0 rfl) ?_
        refine lv_iconst (v := (nI (3))) hx hb d_M_meets_5 (by decide) ?_
        refine jv_icmp_ge (tgt := 63) hx hb (by omega) (by omega) d_M_meets_6 (by decide) (fun h => absurd h (by decide)) (fun _ => ?_)
        refine lv_iload_n hx hb d_M_meets_9 rfl (lv_at hl 1 rfl) ?_
        refine lv_if_eq (tgt := 55) hx hb d_M_meets_10 (by decide) (fun _ => ?_) (fun h => absurd h (by decide))
        refine lv_iconst (v := (nI (0))) hx hb d_M_meets_55 (by decide) ?_
        refine lv_istore_n (lv' := [(2, .int (nI (0))), (3, .int (nI (2))), (0, .ref h), (1, .int (nI (o)))]) hx hb d_M_meets_56 rfl hl (by decide) rfl (fun ls hl => ?_)
        refine lv_iinc (v := nI (3)) (lv' := [(3, .int (nI (3))), (2, .int (nI (0))), (0, .ref h), (1, .int (nI (o)))]) hx hb d_M_meets_57 hl (k := 1) rfl (nI_add _ 1) (by decide) rfl (fun ls hl => ?_)
        refine lv_goto (tgt := 4) hx hb d_M_meets_60 (by decide) ?_
        refine lv_iload_n hx hb d_M_meets_4 rfl (lv_at hl 0 rfl) ?_
        refine lv_iconst (v := (nI (3))) hx hb d_M_meets_5 (by decide) ?_
        refine jv_icmp_ge (tgt := 63) hx hb (by omega) (by omega) d_M_meets_6 (by decide) (fun _ => ?_) (fun h => absurd h (by decide))
        refine lv_iload_n hx hb d_M_meets_63 rfl (lv_at hl 1 rfl) ?_
        exact W.zret (v := (nI (0))) hx hb hr (by decide) (fun t ht hW => ⟨⟨(nI (0)), (), rfl, (if_neg (fun h => h.2.1.1 c_9)).symm, ht⟩, hS.F ht⟩) hS.2.2 d_M_meets_64
      · refine lv_aload_n hx hb d_M_meets_32 rfl (lv_at hl 2 rfl) ?_
        refine va_get (D := g.1) (ci := 3) (v := .ref ab) (C := R_M) (T := F_M) (N := 19) hx hb htB in_M hown ha.1 hP 0 rfl rfl 8 (by decide) (htB _ kw_450) (fun _ h9 => h9) hf8 d_M_meets_33 ?_
        refine lv_iload_n hx hb d_M_meets_36 rfl (lv_at hl 0 rfl) ?_
        refine ja_ald (k := 1) hx hb ha.1 hP 2 0 rfl rfl (by omega) (by omega) d_M_meets_37 ?_
        refine lv_aload_n hx hb d_M_meets_38 rfl (lv_at hl 2 rfl) ?_
        refine va_get (D := g.1) (ci := 3) (v := .ref ad) (C := R_M) (T := F_M) (N := 19) hx hb htB in_M hown ha.1 hP 0 rfl rfl 5 (by decide) (htB _ kw_447) (fun _ h9 => h9) hf5 d_M_meets_39 ?_
        refine lv_iload_n hx hb d_M_meets_42 rfl (lv_at hl 3 rfl) ?_
        refine lv_iconst (v := (nI (3))) hx hb d_M_meets_43 (by decide) ?_
        refine jv_iadd hx hb d_M_meets_44 ?_
        refine lv_iload_n hx hb d_M_meets_45 rfl (lv_at hl 0 rfl) ?_
        refine jv_iadd hx hb d_M_meets_46 ?_
        refine ja_ald (k := (o + 3) + 1) hx hb ha.1 hP 1 0 rfl rfl (by omega) (by omega) d_M_meets_47 ?_
        refine lv_icmp_ge (tgt := 55) hx hb d_M_meets_48 (by decide) (fun c_11 => ?_) (fun c_11 => ?_)
        · refine lv_iconst (v := (nI (0))) hx hb d_M_meets_55 (by decide) ?_
          refine lv_istore_n (lv' := [(2, .int (nI (0))), (3, .int (nI (1))), (0, .ref h), (1, .int (nI (o)))]) hx hb d_M_meets_56 rfl hl (by decide) rfl (fun ls hl => ?_)
          refine lv_iinc (v := nI (2)) (lv' := [(3, .int (nI (2))), (2, .int (nI (0))), (0, .ref h), (1, .int (nI (o)))]) hx hb d_M_meets_57 hl (k := 1) rfl (nI_add _ 1) (by decide) rfl (fun ls hl => ?_)
          refine lv_goto (tgt := 4) hx hb d_M_meets_60 (by decide) ?_
          refine lv_iload_n hx hb d_M_meets_4 rfl (lv_at hl 0 rfl) ?_
          refine lv_iconst (v := (nI (3))) hx hb d_M_meets_5 (by decide) ?_
          refine jv_icmp_ge (tgt := 63) hx hb (by omega) (by omega) d_M_meets_6 (by decide) (fun h => absurd h (by decide)) (fun _ => ?_)
          refine lv_iload_n hx hb d_M_meets_9 rfl (lv_at hl 1 rfl) ?_
          refine lv_if_eq (tgt := 55) hx hb d_M_meets_10 (by decide) (fun _ => ?_) (fun h => absurd h (by decide))
          refine lv_iconst (v := (nI (0))) hx hb d_M_meets_55 (by decide) ?_
          refine lv_istore_n (lv' := [(2, .int (nI (0))), (3, .int (nI (2))), (0, .ref h), (1, .int (nI (o)))]) hx hb d_M_meets_56 rfl hl (by decide) rfl (fun ls hl => ?_)
          refine lv_iinc (v := nI (3)) (lv' := [(3, .int (nI (3))), (2, .int (nI (0))), (0, .ref h), (1, .int (nI (o)))]) hx hb d_M_meets_57 hl (k := 1) rfl (nI_add _ 1) (by decide) rfl (fun ls hl => ?_)
          refine lv_goto (tgt := 4) hx hb d_M_meets_60 (by decide) ?_
          refine lv_iload_n hx hb d_M_meets_4 rfl (lv_at hl 0 rfl) ?_
          refine lv_iconst (v := (nI (3))) hx hb d_M_meets_5 (by decide) ?_
          refine jv_icmp_ge (tgt := 63) hx hb (by omega) (by omega) d_M_meets_6 (by decide) (fun _ => ?_) (fun h => absurd h (by decide))
          refine lv_iload_n hx hb d_M_meets_63 rfl (lv_at hl 1 rfl) ?_
          exact W.zret (v := (nI (0))) hx hb hr (by decide) (fun t ht hW => ⟨⟨(nI (0)), (), rfl, (if_neg (fun h => h.2.1.2 c_11)).symm, ht⟩, hS.F ht⟩) hS.2.2 d_M_meets_64
        · refine lv_iconst (v := (nI (1))) hx hb d_M_meets_51 (by decide) ?_
          refine lv_goto (tgt := 56) hx hb d_M_meets_52 (by decide) ?_
          refine lv_istore_n (lv' := [(2, .int (nI (1))), (3, .int (nI (1))), (0, .ref h), (1, .int (nI (o)))]) hx hb d_M_meets_56 rfl hl (by decide) rfl (fun ls hl => ?_)
          refine lv_iinc (v := nI (2)) (lv' := [(3, .int (nI (2))), (2, .int (nI (1))), (0, .ref h), (1, .int (nI (o)))]) hx hb d_M_meets_57 hl (k := 1) rfl (nI_add _ 1) (by decide) rfl (fun ls hl => ?_)
          refine lv_goto (tgt := 4) hx hb d_M_meets_60 (by decide) ?_
          refine lv_iload_n hx hb d_M_meets_4 rfl (lv_at hl 0 rfl) ?_
          refine lv_iconst (v := (nI (3))) hx hb d_M_meets_5 (by decide) ?_
          refine jv_icmp_ge (tgt := 63) hx hb (by omega) (by omega) d_M_meets_6 (by decide) (fun h => absurd h (by decide)) (fun _ => ?_)
          refine lv_iload_n hx hb d_M_meets_9 rfl (lv_at hl 1 rfl) ?_
          refine lv_if_eq (tgt := 55) hx hb d_M_meets_10 (by decide) (fun h => absurd h (by decide)) (fun _ => ?_)
          refine lv_aload_n hx hb d_M_meets_13 rfl (lv_at hl 2 rfl) ?_
          refine va_get (D := g.1) (ci := 3) (v := .ref ad) (C := R_M) (T := F_M) (N := 19) hx hb htB in_M hown ha.1 hP 0 rfl rfl 5 (by decide) (htB _ kw_447) (fun _ h9 => h9) hf5 d_M_meets_14 ?_
          refine lv_iload_n hx hb d_M_meets_17 rfl (lv_at hl 3 rfl) ?_
          refine lv_iload_n hx hb d_M_meets_18 rfl (lv_at hl 0 rfl) ?_
          refine jv_iadd hx hb d_M_meets_19 ?_
          refine ja_ald (k := o + 2) hx hb ha.1 hP 1 0 rfl rfl (by omega) (by omega) d_M_meets_20 ?_
          refine lv_aload_n hx hb d_M_meets_21 rfl (lv_at hl 2 rfl) ?_
          refine va_get (D := g.1) (ci := 3) (v := .ref ab) (C := R_M) (T := F_M) (N := 19) hx hb htB in_M hown ha.1 hP 0 rfl rfl 8 (by decide) (htB _ kw_450) (fun _ h9 => h9) hf8 d_M_meets_22 ?_
          refine lv_iconst (v := (nI (3))) hx hb d_M_meets_25 (by decide) ?_
          refine lv_iload_n hx hb d_M_meets_26 rfl (lv_at hl 0 rfl) ?_
          refine jv_iadd hx hb d_M_meets_27 ?_
          refine ja_ald (k := 5) hx hb ha.1 hP 2 0 rfl rfl (by omega) (by omega) d_M_meets_28 ?_
          refine lv_icmp_ge (tgt := 55) hx hb d_M_meets_29 (by decide) (fun c_14 => ?_) (fun c_14 => ?_)
          · refine lv_iconst (v := (nI (0))) hx hb d_M_meets_55 (by decide) ?_
            refine lv_istore_n (lv' := [(2, .int (nI (0))), (3, .int (nI (2))), (0, .ref h), (1, .int (nI (o)))]) hx hb d_M_meets_56 rfl hl (by decide) rfl (fun ls hl => ?_)
            refine lv_iinc (v := nI (3)) (lv' := [(3, .int (nI (3))), (2, .int (nI (0))), (0, .ref h), (1, .int (nI (o)))]) hx hb d_M_meets_57 hl (k := 1) rfl (nI_add _ 1) (by decide) rfl (fun ls hl => ?_)
            refine lv_goto (tgt := 4) hx hb d_M_meets_60 (by decide) ?_
            refine lv_iload_n hx hb d_M_meets_4 rfl (lv_at hl 0 rfl) ?_
            refine lv_iconst (v := (nI (3))) hx hb d_M_meets_5 (by decide) ?_
            refine jv_icmp_ge (tgt := 63) hx hb (by omega) (by omega) d_M_meets_6 (by decide) (fun _ => ?_) (fun h => absurd h (by decide))
            refine lv_iload_n hx hb d_M_meets_63 rfl (lv_at hl 1 rfl) ?_
            exact W.zret (v := (nI (0))) hx hb hr (by decide) (fun t ht hW => ⟨⟨(nI (0)), (), rfl, (if_neg (fun h => h.2.2.1 c_14)).symm, ht⟩, hS.F ht⟩) hS.2.2 d_M_meets_64
          · refine lv_aload_n hx hb d_M_meets_32 rfl (lv_at hl 2 rfl) ?_
            refine va_get (D := g.1) (ci := 3) (v := .ref ab) (C := R_M) (T := F_M) (N := 19) hx hb htB in_M hown ha.1 hP 0 rfl rfl 8 (by decide) (htB _ kw_450) (fun _ h9 => h9) hf8 d_M_meets_33 ?_
            refine lv_iload_n hx hb d_M_meets_36 rfl (lv_at hl 0 rfl) ?_
            refine ja_ald (k := 2) hx hb ha.1 hP 2 0 rfl rfl (by omega) (by omega) d_M_meets_37 ?_
            refine lv_aload_n hx hb d_M_meets_38 rfl (lv_at hl 2 rfl) ?_
            refine va_get (D := g.1) (ci := 3) (v := .ref ad) (C := R_M) (T := F_M) (N := 19) hx hb htB in_M hown ha.1 hP 0 rfl rfl 5 (by decide) (htB _ kw_447) (fun _ h9 => h9) hf5 d_M_meets_39 ?_
            refine lv_iload_n hx hb d_M_meets_42 rfl (lv_at hl 3 rfl) ?_
            refine lv_iconst (v := (nI (3))) hx hb d_M_meets_43 (by decide) ?_
            refine jv_iadd hx hb d_M_meets_44 ?_
            refine lv_iload_n hx hb d_M_meets_45 rfl (lv_at hl 0 rfl) ?_
            refine jv_iadd hx hb d_M_meets_46 ?_
            refine ja_ald (k := (o + 3) + 2) hx hb ha.1 hP 1 0 rfl rfl (by omega) (by omega) d_M_meets_47 ?_
            refine lv_icmp_ge (tgt := 55) hx hb d_M_meets_48 (by decide) (fun c_15 => ?_) (fun c_15 => ?_)
            · refine lv_iconst (v := (nI (0))) hx hb d_M_meets_55 (by decide) ?_
              refine lv_istore_n (lv' := [(2, .int (nI (0))), (3, .int (nI (2))), (0, .ref h), (1, .int (nI (o)))]) hx hb d_M_meets_56 rfl hl (by decide) rfl (fun ls hl => ?_)
              refine lv_iinc (v := nI (3)) (lv' := [(3, .int (nI (3))), (2, .int (nI (0))), (0, .ref h), (1, .int (nI (o)))]) hx hb d_M_meets_57 hl (k := 1) rfl (nI_add _ 1) (by decide) rfl (fun ls hl => ?_)
              refine lv_goto (tgt := 4) hx hb d_M_meets_60 (by decide) ?_
              refine lv_iload_n hx hb d_M_meets_4 rfl (lv_at hl 0 rfl) ?_
              refine lv_iconst (v := (nI (3))) hx hb d_M_meets_5 (by decide) ?_
              refine jv_icmp_ge (tgt := 63) hx hb (by omega) (by omega) d_M_meets_6 (by decide) (fun _ => ?_) (fun h => absurd h (by decide))
              refine lv_iload_n hx hb d_M_meets_63 rfl (lv_at hl 1 rfl) ?_
              exact W.zret (v := (nI (0))) hx hb hr (by decide) (fun t ht hW => ⟨⟨(nI (0)), (), rfl, (if_neg (fun h => h.2.2.2 c_15)).symm, ht⟩, hS.F ht⟩) hS.2.2 d_M_meets_64
            · refine lv_iconst (v := (nI (1))) hx hb d_M_meets_51 (by decide) ?_
              refine lv_goto (tgt := 56) hx hb d_M_meets_52 (by decide) ?_
              refine lv_istore_n (lv' := [(2, .int (nI (1))), (3, .int (nI (2))), (0, .ref h), (1, .int (nI (o)))]) hx hb d_M_meets_56 rfl hl (by decide) rfl (fun ls hl => ?_)
              refine lv_iinc (v := nI (3)) (lv' := [(3, .int (nI (3))), (2, .int (nI (1))), (0, .ref h), (1, .int (nI (o)))]) hx hb d_M_meets_57 hl (k := 1) rfl (nI_add _ 1) (by decide) rfl (fun ls hl => ?_)
              refine lv_goto (tgt := 4) hx hb d_M_meets_60 (by decide) ?_
              refine lv_iload_n hx hb d_M_meets_4 rfl (lv_at hl 0 rfl) ?_
              refine lv_iconst (v := (nI (3))) hx hb d_M_meets_5 (by decide) ?_
              refine jv_icmp_ge (tgt := 63) hx hb (by omega) (by omega) d_M_meets_6 (by decide) (fun _ => ?_) (fun h => absurd h (by decide))
              refine lv_iload_n hx hb d_M_meets_63 rfl (lv_at hl 1 rfl) ?_
              exact W.zret (v := (nI (1))) hx hb hr (by decide) (fun t ht hW => ⟨⟨(nI (1)), (), rfl, (if_pos ⟨⟨c_2, c_5⟩, ⟨c_9, c_11⟩, ⟨c_14, c_15⟩⟩).symm, ht⟩, hS.F ht⟩) hS.2.2 d_M_meets_64
