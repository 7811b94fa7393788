set_option maxHeartbeats 4000000 in
set_option maxRecDepth 100000 in
theorem m_M_has (l : Launch) (g : gT) (z : Nat) (H0 : Heap) (h : Nat) (fs : List Value) (ap am np : Nat) (f mn : Nat → Int32) (v x y zz : Int32) : Met l y_M_has w_M_has ({ frames := 1, cells := 0, slots := 0, locals := 22 }) (va_Pc [.ref h, .int (v), .int (x), .int (y), .int (zz)] (pB g z H0 (va_P g.1 cls [(h, .inr (3, fs)), (ap, eI g 1152 (f)), (am, eI g 8 (mn))] H0 ∧ va_D (zA z) [(h, .inr (3, fs)), (ap, eI g 1152 (f)), (am, eI g 8 (mn))] ∧ (fs.length = 19 ∧ fs[1]? = some (.int (nI np)) ∧ np ≤ 8 ∧ fs[3]? = some (.ref ap) ∧ fs[4]? = some (.ref am) ∧ (∀ j, j < np → ∃ n : Nat, n ≤ 24 ∧ mn j = nI n))))) (va_Qi (fun (rr : Int32) (u : List Value) => (noP v np ∧ u = fs.set 0 (.int (nI 1)) ∧ rr = nI 0) ∨ (∃ j n : Nat, j < np ∧ v = nI j ∧ n ≤ 24 ∧ mn j = nI n ∧ u = fs.set 0 (.int (nI 0)) ∧ rr = (if anyB (fun u => inB f (oM j u) x y zz) n = true then nI 1 else nI 0))) (fun (u : List Value) t => va_P g.1 cls [(h, .inr (3, u)), (ap, eI g 1152 (f)), (am, eI g 8 (mn))] t.heap ∧ va_D (va_A [(h, .inr (3, fs)), (ap, eI g 1152 (f)), (am, eI g 8 (mn))] H0.size) [(h, .inr (3, u)), (ap, eI g 1152 (f)), (am, eI g 8 (mn))]) (va_A [(h, .inr (3, fs)), (ap, eI g 1152 (f)), (am, eI g 8 (mn))] H0.size)) 0 0 (va_A [(h, .inr (3, fs)), (ap, eI g 1152 (f)), (am, eI g 8 (mn))] H0.size) := by
  refine Met.ofW (cc := c_M_has) (maxL := 8) (ret := (some .boolean)) (by decide) rfl ?_
  intro p e s m args below meth c s₁ B hml hv
  obtain ⟨rfl, hH0, ha, hP, hD0, hlen, hf1, hnp, hf3, hf4, hmn⟩ := hv
  have hx := B.exec
  have hb := B.bytes
  have hr := B.returns
  have htB : ∀ w ∈ tB, w.before _ s = true := fun w h => atoms_spec (ws := w_M_has) B.pre w (List.mem_cons_of_mem _ h)
  have hown : s.vm.findClass "JointSolidsModel" = some m.cls := findClass_of_methodNamed B.named
  have hlocks := B.notSynchronized
  subst hH0
  have hD := hD0.self (sz := s.heap.size)
  have hz := aA_z hD0 ha.2.2.2.2.2
  generalize hAe : va_A [(h, .inr (3, fs)), (ap, eI g 1152 (f)), (am, eI g 8 (mn))] s.heap.size = A at hD hz ⊢
  have hA : ∀ q : Nat, s.heap.size ≤ q → A q := fun q h => by rw [← hAe]; exact Or.inr h
  have hS : va_S A s.heap s.heap [] := va_S.rf
  refine W.ofH hP hS (fun H locs hP hS => ?_)
  have hl := lv_entry ([.ref h, .int (v), .int (x), .int (y), .int (zz)]) (n := 8) (Nat.le_of_ble_eq_true rfl)
  rw [lg_entry_eq]
  generalize (lg_sl ([.ref h, .int (v), .int (x), .int (y), .int (zz)]) ++ List.replicate (8 - (lg_sl ([.ref h, .int (v), .int (x), .int (y), .int (zz)])).length) Slot.unset).toArray = ls at hl ⊢
  have hl : lv_has ls 8 [(0, .ref h), (1, .int (v)), (2, .int (x)), (3, .int (y)), (4, .int (zz))] := hl
  refine lv_aload_n hx hb d_M_has_0 rfl (lv_at hl 0 rfl) ?_
  refine lv_aload_n hx hb d_M_has_1 rfl (lv_at hl 0 rfl) ?_
  refine lv_iload_n hx hb d_M_has_2 rfl (lv_at hl 1 rfl) ?_
  refine va_calli (va_runV (As := [.int (v)]) (rest := [.ref h]) ⟨hx, hb, hml, hown, htB⟩ (p_M_noPart l g z _ h (fs) (np) (v)) (cwV 1 htB (gV kw_520 kw_522 ks_1_1 kw_3 g_M_noPart) rfl rfl rfl (by decide +kernel) ⟨by decide, by decide⟩) (pre_V hS hz ha (va_recv ha.1 hP (ci := 3) (q0 := 0) rfl rfl) ⟨va_one (hP 0 _ rfl), hf1⟩) rfl rfl hl.1 rfl (lv_room (Nat.le_of_ble_eq_true rfl)) d_M_has_3 ⟨by decide, by decide⟩) hS (fun q _ h => h.elim) (fun q h => h.elim) (fun r_1 u t H1 locs ht hvm hw hB hz1 hk1 hS => ?_)
  obtain rfl := hB.symm.trans ht
  subst hw
  by_cases c_2 : noP (v) (np)
  · rw [if_pos c_2]
    refine lv_if_eq (tgt := 13) hx hb d_M_has_6 (by decide) (fun h => absurd h (by decide)) (fun _ => ?_)
    refine lv_iconst (v := (nI (1))) hx hb d_M_has_9 (by decide) ?_
    refine lv_goto (tgt := 14) hx hb d_M_has_10 (by decide) ?_
    refine va_put (D := g.1) (ci := 3) (v := .int (nI (1))) (ty := .int) (C := R_M) (T := F_M) (N := 19) hx hb htB in_M t_M t_M_ok n_M hown ha.1 hP hD hS 0 rfl rfl 0 (by decide) (htB _ kw_442) (fun _ h9 => h9) rfl (by decide +kernel) rfl rfl (by rw [hlen]; decide) d_M_has_14 (fun H locs hP hD hS => ?_)
    have hP : va_P g.1 cls [(h, .inr (3, (fs).set 0 (.int (nI (1))))), (ap, eI g 1152 (f)), (am, eI g 8 (mn))] H := hP
    have hD : va_D A [(h, .inr (3, (fs).set 0 (.int (nI (1))))), (ap, eI g 1152 (f)), (am, eI g 8 (mn))] := hD
    refine lv_iconst (v := (nI (0))) hx hb d_M_has_17 (by decide) ?_
    refine lv_istore (lv' := [(5, .int (nI (0))), (0, .ref h), (1, .int (v)), (2, .int (x)), (3, .int (y)), (4, .int (zz))]) hx hb d_M_has_18 hl (by decide) rfl (fun ls hl => ?_)
    refine lv_iconst (v := (nI (0))) hx hb d_M_has_20 (by decide) ?_
    refine lv_istore (lv' := [(6, .int (nI (0))), (5, .int (nI (0))), (0, .ref h), (1, .int (v)), (2, .int (x)), (3, .int (y)), (4, .int (zz))]) hx hb d_M_has_21 hl (by decide) rfl (fun ls hl => ?_)
    refine lv_aload_n hx hb d_M_has_23 rfl (lv_at hl 2 rfl) ?_
    refine va_get (D := g.1) (ci := 3) (v := .int (nI (1))) (C := R_M) (T := F_M) (N := 19) hx hb htB in_M hown ha.1 hP 0 rfl rfl 0 (by decide) (htB _ kw_442) (fun _ h9 => h9) (gset_eq hlen (by decide)) d_M_has_24 ?_
    refine lv_if_ne (tgt := 146) hx hb d_M_has_27 (by decide) (fun _ => ?_) (fun h => absurd h (by decide))
    refine lv_iload hx hb d_M_has_146 (lv_at hl 1 rfl) ?_
    have hP9 := hP.sub (ws' := [(h, .inr (3, (fs).set 0 (.int (nI (1))))), (ap, eI g 1152 (f)), (am, eI g 8 (mn))]) [0, 1, 2] rfl
    have hD9 := hD.sub (ws' := [(h, .inr (3, (fs).set 0 (.int (nI (1))))), (ap, eI g 1152 (f)), (am, eI g 8 (mn))]) [0, 1, 2] (by decide) rfl
    exact (W.widen (k := 0) (n := 0) (Nat.le_of_ble_eq_true rfl) (Nat.le_of_ble_eq_true rfl) (W.zret (v := (nI (0))) hx hb hr (by decide) (fun t ht hW => ⟨⟨(nI (0)), (fs).set 0 (.int (nI (1))), rfl, Or.inl ⟨c_2, rfl, rfl⟩, by rw [ht]; exact hP9, hD9.re [h, ap, am] rfl rfl⟩, hS.F ht⟩) hS.2.2 d_M_has_148))
  · rw [if_neg c_2]
    refine lv_if_eq (tgt := 13) hx hb d_M_has_6 (by decide) (fun _ => ?_) (fun h => absurd h (by decide))
    refine lv_iconst (v := (nI (0))) hx hb d_M_has_13 (by decide) ?_
    refine va_put (D := g.1) (ci := 3) (v := .int (nI (0))) (ty := .int) (C := R_M) (T := F_M) (N := 19) hx hb htB in_M t_M t_M_ok n_M hown ha.1 hP hD hS 0 rfl rfl 0 (by decide) (htB _ kw_442) (fun _ h9 => h9) rfl (by decide +kernel) rfl rfl (by rw [hlen]; decide) d_M_has_14 (fun H locs hP hD hS => ?_)
    have hP : va_P g.1 cls [(h, .inr (3, (fs).set 0 (.int (nI (0))))), (ap, eI g 1152 (f)), (am, eI g 8 (mn))] H := hP
    have hD : va_D A [(h, .inr (3, (fs).set 0 (.int (nI (0))))), (ap, eI g 1152 (f)), (am, eI g 8 (mn))] := hD
    obtain ⟨j, hj, rfl⟩ := noP_not (by omega) c_2
    obtain ⟨nj, hnj, hmj⟩ := hmn j hj
    refine lv_iconst (v := (nI (0))) hx hb d_M_has_17 (by decide) ?_
    refine lv_istore (lv' := [(5, .int (nI (0))), (0, .ref h), (1, .int (nI (j))), (2, .int (x)), (3, .int (y)), (4, .int (zz))]) hx hb d_M_has_18 hl (by decide) rfl (fun ls hl => ?_)
    refine lv_iconst (v := (nI (0))) hx hb d_M_has_20 (by decide) ?_
    refine lv_istore (lv' := [(6, .int (nI (0))), (5, .int (nI (0))), (0, .ref h), (1, .int (nI (j))), (2, .int (x)), (3, .int (y)), (4, .int (zz))]) hx hb d_M_has_21 hl (by decide) rfl (fun ls hl => ?_)
    refine W.loop (N := nj) (X := fun i ls locs H => i ≤ nj ∧ ∃ (du : Unit), True ∧ lv_has ls 8 [(0, .ref h), (1, .int (nI (j))), (2, .int (x)), (3, .int (y)), (4, .int (zz)), (5, .int (if anyB (fun u => inB f (oM j u) x y zz) i = true then nI 1 else nI 0)), (6, .int (nI (i)))] ∧ va_P g.1 cls [(h, .inr (3, (fs).set 0 (.int (nI (0))))), (ap, eI g 1152 (f)), (am, eI g 8 (mn))] H ∧ va_D A [(h, .inr (3, (fs).set 0 (.int (nI (0))))), (ap, eI g 1152 (f)), (am, eI g 8 (mn))] ∧ va_S A s.heap H locs) 0 ⟨Nat.zero_le _, (), trivial, lv_sub hl [2, 3, 4, 5, 6, 1, 0] rfl, hP, hD.re [h, ap, am] rfl rfl, hS⟩ (fun n_6 ih_7 i ls locs H hn_i hi_i hX => ?_) (fun _ _ _ _ hX => hX.1)
    obtain ⟨-, du, heq, hl, hP, hD, hS⟩ := hX
    refine lv_aload_n hx hb d_M_has_23 rfl (lv_at hl 0 rfl) ?_
    refine va_get (D := g.1) (ci := 3) (v := .int (nI (0))) (C := R_M) (T := F_M) (N := 19) hx hb htB in_M hown ha.1 hP 0 rfl rfl 0 (by decide) (htB _ kw_442) (fun _ h9 => h9) (gset_eq hlen (by decide)) d_M_has_24 ?_
    refine lv_if_ne (tgt := 146) hx hb d_M_has_27 (by decide) (fun h => absurd h (by decide)) (fun _ => ?_)
    refine lv_iload hx hb d_M_has_30 (lv_at hl 6 rfl) ?_
    refine lv_aload_n hx hb d_M_has_32 rfl (lv_at hl 0 rfl) ?_
    refine va_get (D := g.1) (ci := 3) (v := .ref am) (C := R_M) (T := F_M) (N := 19) hx hb htB in_M hown ha.1 hP 0 rfl rfl 4 (by decide) (htB _ kw_446) (fun _ h9 => h9) (gset_ne (by decide) hf4) d_M_has_33 ?_
    refine lv_iload_n hx hb d_M_has_36 rfl (lv_at hl 1 rfl) ?_
    refine ja_ald (k := j) hx hb ha.1 hP 2 0 rfl rfl (by omega) (by omega) d_M_has_37 ?_
    rw [hmj]
    refine jv_icmp_ge (tgt := 146) hx hb (by omega) (by omega) d_M_has_38 (by decide) (fun c_9 => ?_) (fun c_9 => ?_)
    · obtain rfl : i = nj := by omega
      cases hAn : anyB (fun u => inB f (oM j u) x y zz) i with
      | true =>
        rw [hAn] at hl
        have hl : lv_has ls 8 [(0, .ref h), (1, .int (nI (j))), (2, .int (x)), (3, .int (y)), (4, .int (zz)), (5, .int (nI (1))), (6, .int (nI (i)))] := hl
        refine lv_iload hx hb d_M_has_146 (lv_at hl 5 rfl) ?_
        have hP9 := hP.sub (ws' := [(h, .inr (3, (fs).set 0 (.int (nI (0))))), (ap, eI g 1152 (f)), (am, eI g 8 (mn))]) [0, 1, 2] rfl
        have hD9 := hD.sub (ws' := [(h, .inr (3, (fs).set 0 (.int (nI (0))))), (ap, eI g 1152 (f)), (am, eI g 8 (mn))]) [0, 1, 2] (by decide) rfl
        exact (W.widen (k := 0) (n := 0) (Nat.le_of_ble_eq_true rfl) (Nat.le_of_ble_eq_true rfl) (W.zret (v := (nI (1))) hx hb hr (by decide) (fun t ht hW => ⟨⟨(nI (1)), (fs).set 0 (.int (nI (0))), rfl, Or.inr ⟨j, i, hj, rfl, hnj, hmj, rfl, (if_pos hAn).symm⟩, by rw [ht]; exact hP9, hD9.re [h, ap, am] rfl rfl⟩, hS.F ht⟩) hS.2.2 d_M_has_148))
      | false =>
        rw [hAn] at hl
        have hl : lv_has ls 8 [(0, .ref h), (1, .int (nI (j))), (2, .int (x)), (3, .int (y)), (4, .int (zz)), (5, .int (nI (0))), (6, .int (nI (i)))] := hl
        refine lv_iload hx hb d_M_has_146 (lv_at hl 5 rfl) ?_
        have hP9 := hP.sub (ws' := [(h, .inr (3, (fs).set 0 (.int (nI (0))))), (ap, eI g 1152 (f)), (am, eI g 8 (mn))]) [0, 1, 2] rfl
        have hD9 := hD.sub (ws' := [(h, .inr (3, (fs).set 0 (.int (nI (0))))), (ap, eI g 1152 (f)), (am, eI g 8 (mn))]) [0, 1, 2] (by decide) rfl
        exact (W.widen (k := 0) (n := 0) (Nat.le_of_ble_eq_true rfl) (Nat.le_of_ble_eq_true rfl) (W.zret (v := (nI (0))) hx hb hr (by decide) (fun t ht hW => ⟨⟨(nI (0)), (fs).set 0 (.int (nI (0))), rfl, Or.inr ⟨j, i, hj, rfl, hnj, hmj, rfl, (if_neg (by rw [hAn]; exact Bool.false_ne_true)).symm⟩, by rw [ht]; exact hP9, hD9.re [h, ap, am] rfl rfl⟩, hS.F ht⟩) hS.2.2 d_M_has_148))
    · refine lv_sipush (v := (nI (144))) hx hb d_M_has_41 (by decide) ?_
      refine lv_iload_n hx hb d_M_has_44 rfl (lv_at hl 1 rfl) ?_
      refine jv_imul hx hb d_M_has_45 ?_
      refine lv_bipush (v := (nI (6))) hx hb d_M_has_46 (by decide) ?_
      refine lv_iload hx hb d_M_has_48 (lv_at hl 6 rfl) ?_
      refine jv_imul hx hb d_M_has_50 ?_
      refine jv_iadd hx hb d_M_has_51 ?_
      refine lv_istore (lv' := [(7, .int (nI ((144 * j) + (6 * i)))), (0, .ref h), (1, .int (nI (j))), (2, .int (x)), (3, .int (y)), (4, .int (zz)), (5, .int (if anyB (fun u => inB f (oM j u) x y zz) i = true then nI 1 else nI 0)), (6, .int (nI (i)))]) hx hb d_M_has_52 hl (by decide) rfl (fun ls hl => ?_)
      cases hAn : anyB (fun u => inB f (oM j u) x y zz) i with
      | true =>
        rw [hAn] at hl
        have hl : lv_has ls 8 [(7, .int (nI ((144 * j) + (6 * i)))), (0, .ref h), (1, .int (nI (j))), (2, .int (x)), (3, .int (y)), (4, .int (zz)), (5, .int (nI (1))), (6, .int (nI (i)))] := hl
        refine lv_iload hx hb d_M_has_54 (lv_at hl 6 rfl) ?_
        refine lv_if_ne (tgt := 133) hx hb d_M_has_56 (by decide) (fun _ => ?_) (fun h => absurd h (by decide))
        refine lv_iconst (v := (nI (1))) hx hb d_M_has_133 (by decide) ?_
        refine lv_goto (tgt := 138) hx hb d_M_has_134 (by decide) ?_
        refine lv_istore (lv' := [(5, .int (nI (1))), (7, .int (nI ((144 * j) + (6 * i)))), (0, .ref h), (1, .int (nI (j))), (2, .int (x)), (3, .int (y)), (4, .int (zz)), (6, .int (nI (i)))]) hx hb d_M_has_138 hl (by decide) rfl (fun ls hl => ?_)
        refine lv_iinc (v := nI (i + 1)) (lv' := [(6, .int (nI (i + 1))), (5, .int (nI (1))), (7, .int (nI ((144 * j) + (6 * i)))), (0, .ref h), (1, .int (nI (j))), (2, .int (x)), (3, .int (y)), (4, .int (zz))]) hx hb d_M_has_140 hl (k := 7) rfl (nI_add _ 1) (by decide) rfl (fun ls hl => ?_)
        refine lv_goto (tgt := 23) hx hb d_M_has_143 (by decide) ?_
        rw [show nI 1 = (if anyB (fun u => inB f (oM j u) x y zz) (i + 1) = true then nI 1 else nI 0) from (if_pos (show (anyB (fun u => inB f (oM j u) x y zz) i || _) = true by rw [hAn, Bool.true_or])).symm] at hl
        exact ih_7 (i + 1) ls locs H (by omega) ⟨by omega, (), trivial, lv_sub (l' := [(0, .ref h), (1, .int (nI (j))), (2, .int (x)), (3, .int (y)), (4, .int (zz)), (5, .int (if anyB (fun u => inB f (oM j u) x y zz) (i + 1) = true then nI 1 else nI 0)), (6, .int (nI (i + 1)))]) hl [3, 4, 5, 6, 7, 1, 0] rfl, hP.sub (ws' := [(h, .inr (3, (fs).set 0 (.int (nI (0))))), (ap, eI g 1152 (f)), (am, eI g 8 (mn))]) [0, 1, 2] rfl, (hD.sub (ws' := [(h, .inr (3, (fs).set 0 (.int (nI (0))))), (ap, eI g 1152 (f)), (am, eI g 8 (mn))]) [0, 1, 2] (by decide) rfl).re [h, ap, am] rfl rfl, hS⟩
      | false =>
        rw [hAn] at hl
        have hl : lv_has ls 8 [(7, .int (nI ((144 * j) + (6 * i)))), (0, .ref h), (1, .int (nI (j))), (2, .int (x)), (3, .int (y)), (4, .int (zz)), (5, .int (nI (0))), (6, .int (nI (i)))] := hl
        refine lv_iload hx hb d_M_has_54 (lv_at hl 6 rfl) ?_
        refine lv_if_ne (tgt := 133) hx hb d_M_has_56 (by decide) (fun h => absurd h (by decide)) (fun _ => ?_)
        refine lv_iload_n hx hb d_M_has_59 rfl (lv_at hl 3 rfl) ?_
        refine lv_aload_n hx hb d_M_has_60 rfl (lv_at hl 1 rfl) ?_
        refine va_get (D := g.1) (ci := 3) (v := .ref ap) (C := R_M) (T := F_M) (N := 19) hx hb htB in_M hown ha.1 hP 0 rfl rfl 3 (by decide) (htB _ kw_445) (fun _ h9 => h9) (gset_ne (by decide) hf3) d_M_has_61 ?_
        refine lv_iload hx hb d_M_has_64 (lv_at hl 0 rfl) ?_
        refine ja_ald (k := (144 * j) + (6 * i)) hx hb ha.1 hP 1 0 rfl rfl (by omega) (by omega) d_M_has_66 ?_
        refine lv_aload_n hx hb d_M_has_67 rfl (lv_at hl 1 rfl) ?_
        refine va_get (D := g.1) (ci := 3) (v := .ref ap) (C := R_M) (T := F_M) (N := 19) hx hb htB in_M hown ha.1 hP 0 rfl rfl 3 (by decide) (htB _ kw_445) (fun _ h9 => h9) (gset_ne (by decide) hf3) d_M_has_68 ?_
        refine lv_iload hx hb d_M_has_71 (lv_at hl 0 rfl) ?_
        refine lv_iconst (v := (nI (3))) hx hb d_M_has_73 (by decide) ?_
        refine jv_iadd hx hb d_M_has_74 ?_
        refine ja_ald (k := ((144 * j) + (6 * i)) + 3) hx hb ha.1 hP 1 0 rfl rfl (by omega) (by omega) d_M_has_75 ?_
        refine va_calli (va_runS (As := [.int (x), .int (f ((144 * j) + (6 * i))), .int (f (((144 * j) + (6 * i)) + 3))]) (rest := []) ⟨hx, hb, hml, hown, htB⟩ (p_M_isIn l g z _ (x) (f ((144 * j) + (6 * i))) (f (((144 * j) + (6 * i)) + 3))) (va_cwS 3 htB (gS kw_509 kw_510 kw_3 g_M_isIn) rfl rfl rfl (by decide +kernel) ⟨by decide, by decide⟩) (pre_S hS hz ha trivial) rfl rfl hl.1 rfl (lv_room (Nat.le_of_ble_eq_true rfl)) d_M_has_76 ⟨by decide, by decide⟩) hS (fun q _ h => h.elim) (fun q h => h.elim) (fun r_12 u t H1 locs ht hvm hw hB hz1 hk1 hS => ?_)
        obtain rfl := hB.symm.trans ht
        subst hw
        by_cases c_13 : outI (x) (f ((144 * j) + (6 * i))) (f (((144 * j) + (6 * i)) + 3))
        · rw [if_pos c_13]
          refine lv_if_eq (tgt := 137) hx hb d_M_has_79 (by decide) (fun _ => ?_) (fun h => absurd h (by decide))
          refine lv_iconst (v := (nI (0))) hx hb d_M_has_137 (by decide) ?_
          refine lv_istore (lv' := [(5, .int (nI (0))), (7, .int (nI ((144 * j) + (6 * i)))), (0, .ref h), (1, .int (nI (j))), (2, .int (x)), (3, .int (y)), (4, .int (zz)), (6, .int (nI (i)))]) hx hb d_M_has_138 hl (by decide) rfl (fun ls hl => ?_)
          refine lv_iinc (v := nI (i + 1)) (lv' := [(6, .int (nI (i + 1))), (5, .int (nI (0))), (7, .int (nI ((144 * j) + (6 * i)))), (0, .ref h), (1, .int (nI (j))), (2, .int (x)), (3, .int (y)), (4, .int (zz))]) hx hb d_M_has_140 hl (k := 7) rfl (nI_add _ 1) (by decide) rfl (fun ls hl => ?_)
          refine lv_goto (tgt := 23) hx hb d_M_has_143 (by decide) ?_
          rw [show nI 0 = (if anyB (fun u => inB f (oM j u) x y zz) (i + 1) = true then nI 1 else nI 0) from (if_neg (by rw [show anyB (fun u => inB f (oM j u) x y zz) (i + 1) = false from (anyB_no hAn (inB_no (Or.inl c_13)))]; exact Bool.false_ne_true)).symm] at hl
          exact ih_7 (i + 1) ls locs H (by omega) ⟨by omega, (), trivial, lv_sub (l' := [(0, .ref h), (1, .int (nI (j))), (2, .int (x)), (3, .int (y)), (4, .int (zz)), (5, .int (if anyB (fun u => inB f (oM j u) x y zz) (i + 1) = true then nI 1 else nI 0)), (6, .int (nI (i + 1)))]) hl [3, 4, 5, 6, 7, 1, 0] rfl, hP.sub (ws' := [(h, .inr (3, (fs).set 0 (.int (nI (0))))), (ap, eI g 1152 (f)), (am, eI g 8 (mn))]) [0, 1, 2] rfl, (hD.sub (ws' := [(h, .inr (3, (fs).set 0 (.int (nI (0))))), (ap, eI g 1152 (f)), (am, eI g 8 (mn))]) [0, 1, 2] (by decide) rfl).re [h, ap, am] rfl rfl, hS⟩
        · rw [if_neg c_13]
          refine lv_if_eq (tgt := 137) hx hb d_M_has_79 (by decide) (fun h => absurd h (by decide)) (fun _ => ?_)
          refine lv_iload_n hx hb d_M_has_82 rfl (lv_at hl 4 rfl) ?_
          refine lv_aload_n hx hb d_M_has_83 rfl (lv_at hl 1 rfl) ?_
          refine va_get (D := g.1) (ci := 3) (v := .ref ap) (C := R_M) (T := F_M) (N := 19) hx hb htB in_M hown ha.1 hP 0 rfl rfl 3 (by decide) (htB _ kw_445) (fun _ h9 => h9) (gset_ne (by decide) hf3) d_M_has_84 ?_
          refine lv_iload hx hb d_M_has_87 (lv_at hl 0 rfl) ?_
          refine lv_iconst (v := (nI (1))) hx hb d_M_has_89 (by decide) ?_
          refine jv_iadd hx hb d_M_has_90 ?_
          refine ja_ald (k := ((144 * j) + (6 * i)) + 1) hx hb ha.1 hP 1 0 rfl rfl (by omega) (by omega) d_M_has_91 ?_
          refine lv_aload_n hx hb d_M_has_92 rfl (lv_at hl 1 rfl) ?_
          refine va_get (D := g.1) (ci := 3) (v := .ref ap) (C := R_M) (T := F_M) (N := 19) hx hb htB in_M hown ha.1 hP 0 rfl rfl 3 (by decide) (htB _ kw_445) (fun _ h9 => h9) (gset_ne (by decide) hf3) d_M_has_93 ?_
          refine lv_iload hx hb d_M_has_96 (lv_at hl 0 rfl) ?_
          refine lv_iconst (v := (nI (4))) hx hb d_M_has_98 (by decide) ?_
          refine jv_iadd hx hb d_M_has_99 ?_
          refine ja_ald (k := ((144 * j) + (6 * i)) + 4) hx hb ha.1 hP 1 0 rfl rfl (by omega) (by omega) d_M_has_100 ?_
          refine va_calli (va_runS (As := [.int (y), .int (f (((144 * j) + (6 * i)) + 1)), .int (f (((144 * j) + (6 * i)) + 4))]) (rest := []) ⟨hx, hb, hml, hown, htB⟩ (p_M_isIn l g z _ (y) (f (((144 * j) + (6 * i)) + 1)) (f (((144 * j) + (6 * i)) + 4))) (va_cwS 3 htB (gS kw_509 kw_510 kw_3 g_M_isIn) rfl rfl rfl (by decide +kernel) ⟨by decide, by decide⟩) (pre_S hS hz ha trivial) rfl rfl hl.1 rfl (lv_room (Nat.le_of_ble_eq_true rfl)) d_M_has_101 ⟨by decide, by decide⟩) hS (fun q _ h => h.elim) (fun q h => h.elim) (fun r_16 u t H1 locs ht hvm hw hB hz1 hk1 hS => ?_)
          obtain rfl := hB.symm.trans ht
          subst hw
          by_cases c_17 : outI (y) (f (((144 * j) + (6 * i)) + 1)) (f (((144 * j) + (6 * i)) + 4))
          · rw [if_pos c_17]
            refine lv_if_eq (tgt := 137) hx hb d_M_has_104 (by decide) (fun _ => ?_) (fun h => absurd h (by decide))
            refine lv_iconst (v := (nI (0))) hx hb d_M_has_137 (by decide) ?_
            refine lv_istore (lv' := [(5, .int (nI (0))), (7, .int (nI ((144 * j) + (6 * i)))), (0, .ref h), (1, .int (nI (j))), (2, .int (x)), (3, .int (y)), (4, .int (zz)), (6, .int (nI (i)))]) hx hb d_M_has_138 hl (by decide) rfl (fun ls hl => ?_)
            refine lv_iinc (v := nI (i + 1)) (lv' := [(6, .int (nI (i + 1))), (5, .int (nI (0))), (7, .int (nI ((144 * j) + (6 * i)))), (0, .ref h), (1, .int (nI (j))), (2, .int (x)), (3, .int (y)), (4, .int (zz))]) hx hb d_M_has_140 hl (k := 7) rfl (nI_add _ 1) (by decide) rfl (fun ls hl => ?_)
            refine lv_goto (tgt := 23) hx hb d_M_has_143 (by decide) ?_
            rw [show nI 0 = (if anyB (fun u => inB f (oM j u) x y zz) (i + 1) = true then nI 1 else nI 0) from (if_neg (by rw [show anyB (fun u => inB f (oM j u) x y zz) (i + 1) = false from (anyB_no hAn (inB_no (Or.inr (Or.inl c_17))))]; exact Bool.false_ne_true)).symm] at hl
            exact ih_7 (i + 1) ls locs H (by omega) ⟨by omega, (), trivial, lv_sub (l' := [(0, .ref h), (1, .int (nI (j))), (2, .int (x)), (3, .int (y)), (4, .int (zz)), (5, .int (if anyB (fun u => inB f (oM j u) x y zz) (i + 1) = true then nI 1 else nI 0)), (6, .int (nI (i + 1)))]) hl [3, 4, 5, 6, 7, 1, 0] rfl, hP.sub (ws' := [(h, .inr (3, (fs).set 0 (.int (nI (0))))), (ap, eI g 1152 (f)), (am, eI g 8 (mn))]) [0, 1, 2] rfl, (hD.sub (ws' := [(h, .inr (3, (fs).set 0 (.int (nI (0))))), (ap, eI g 1152 (f)), (am, eI g 8 (mn))]) [0, 1, 2] (by decide) rfl).re [h, ap, am] rfl rfl, hS⟩
          · rw [if_neg c_17]
            refine lv_if_eq (tgt := 137) hx hb d_M_has_104 (by decide) (fun h => absurd h (by decide)) (fun _ => ?_)
            refine lv_iload hx hb d_M_has_107 (lv_at hl 5 rfl) ?_
            refine lv_aload_n hx hb d_M_has_109 rfl (lv_at hl 1 rfl) ?_
            refine va_get (D := g.1) (ci := 3) (v := .ref ap) (C := R_M) (T := F_M) (N := 19) hx hb htB in_M hown ha.1 hP 0 rfl rfl 3 (by decide) (htB _ kw_445) (fun _ h9 => h9) (gset_ne (by decide) hf3) d_M_has_110 ?_
            refine lv_iload hx hb d_M_has_113 (lv_at hl 0 rfl) ?_
            refine lv_iconst (v := (nI (2))) hx hb d_M_has_115 (by decide) ?_
            refine jv_iadd hx hb d_M_has_116 ?_
            refine ja_ald (k := ((144 * j) + (6 * i)) + 2) hx hb ha.1 hP 1 0 rfl rfl (by omega) (by omega) d_M_has_117 ?_
            refine lv_aload_n hx hb d_M_has_118 rfl (lv_at hl 1 rfl) ?_
            refine va_get (D := g.1) (ci := 3) (v := .ref ap) (C := R_M) (T := F_M) (N := 19) hx hb htB in_M hown ha.1 hP 0 rfl rfl 3 (by decide) (htB _ kw_445) (fun _ h9 => h9) (gset_ne (by decide) hf3) d_M_has_119 ?_
            refine lv_iload hx hb d_M_has_122 (lv_at hl 0 rfl) ?_
            refine lv_iconst (v := (nI (5))) hx hb d_M_has_124 (by decide) ?_
            refine jv_iadd hx hb d_M_has_125 ?_
            refine ja_ald (k := ((144 * j) + (6 * i)) + 5) hx hb ha.1 hP 1 0 rfl rfl (by omega) (by omega) d_M_has_126 ?_
            refine va_calli (va_runS (As := [.int (zz), .int (f (((144 * j) + (6 * i)) + 2)), .int (f (((144 * j) + (6 * i)) + 5))]) (rest := []) ⟨hx, hb, hml, hown, htB⟩ (p_M_isIn l g z _ (zz) (f (((144 * j) + (6 * i)) + 2)) (f (((144 * j) + (6 * i)) + 5))) (va_cwS 3 htB (gS kw_509 kw_510 kw_3 g_M_isIn) rfl rfl rfl (by decide +kernel) ⟨by decide, by decide⟩) (pre_S hS hz ha trivial) rfl rfl hl.1 rfl (lv_room (Nat.le_of_ble_eq_true rfl)) d_M_has_127 ⟨by decide, by decide⟩) hS (fun q _ h => h.elim) (fun q h => h.elim) (fun r_20 u t H1 locs ht hvm hw hB hz1 hk1 hS => ?_)
            obtain rfl := hB.symm.trans ht
            subst hw
            by_cases c_21 : outI (zz) (f (((144 * j) + (6 * i)) + 2)) (f (((144 * j) + (6 * i)) + 5))
            · rw [if_pos c_21]
              refine lv_if_eq (tgt := 137) hx hb d_M_has_130 (by decide) (fun _ => ?_) (fun h => absurd h (by decide))
              refine lv_iconst (v := (nI (0))) hx hb d_M_has_137 (by decide) ?_
              refine lv_istore (lv' := [(5, .int (nI (0))), (7, .int (nI ((144 * j) + (6 * i)))), (0, .ref h), (1, .int (nI (j))), (2, .int (x)), (3, .int (y)), (4, .int (zz)), (6, .int (nI (i)))]) hx hb d_M_has_138 hl (by decide) rfl (fun ls hl => ?_)
              refine lv_iinc (v := nI (i + 1)) (lv' := [(6, .int (nI (i + 1))), (5, .int (nI (0))), (7, .int (nI ((144 * j) + (6 * i)))), (0, .ref h), (1, .int (nI (j))), (2, .int (x)), (3, .int (y)), (4, .int (zz))]) hx hb d_M_has_140 hl (k := 7) rfl (nI_add _ 1) (by decide) rfl (fun ls hl => ?_)
              refine lv_goto (tgt := 23) hx hb d_M_has_143 (by decide) ?_
              rw [show nI 0 = (if anyB (fun u => inB f (oM j u) x y zz) (i + 1) = true then nI 1 else nI 0) from (if_neg (by rw [show anyB (fun u => inB f (oM j u) x y zz) (i + 1) = false from (anyB_no hAn (inB_no (Or.inr (Or.inr c_21))))]; exact Bool.false_ne_true)).symm] at hl
              exact ih_7 (i + 1) ls locs H (by omega) ⟨by omega, (), trivial, lv_sub (l' := [(0, .ref h), (1, .int (nI (j))), (2, .int (x)), (3, .int (y)), (4, .int (zz)), (5, .int (if anyB (fun u => inB f (oM j u) x y zz) (i + 1) = true then nI 1 else nI 0)), (6, .int (nI (i + 1)))]) hl [3, 4, 5, 6, 7, 1, 0] rfl, hP.sub (ws' := [(h, .inr (3, (fs).set 0 (.int (nI (0))))), (ap, eI g 1152 (f)), (am, eI g 8 (mn))]) [0, 1, 2] rfl, (hD.sub (ws' := [(h, .inr (3, (fs).set 0 (.int (nI (0))))), (ap, eI g 1152 (f)), (am, eI g 8 (mn))]) [0, 1, 2] (by decide) rfl).re [h, ap, am] rfl rfl, hS⟩
            · rw [if_neg c_21]
              refine lv_if_eq (tgt := 137) hx hb d_M_has_130 (by decide) (fun h => absurd h (by decide)) (fun _ => ?_)
              refine lv_iconst (v := (nI (1))) hx hb d_M_has_133 (by decide) ?_
              refine lv_goto (tgt := 138) hx hb d_M_has_134 (by decide) ?_
              refine lv_istore (lv' := [(5, .int (nI (1))), (7, .int (nI ((144 * j) + (6 * i)))), (0, .ref h), (1, .int (nI (j))), (2, .int (x)), (3, .int (y)), (4, .int (zz)), (6, .int (nI (i)))]) hx hb d_M_has_138 hl (by decide) rfl (fun ls hl => ?_)
              refine lv_iinc (v := nI (i + 1)) (lv' := [(6, .int (nI (i + 1))), (5, .int (nI (1))), (7, .int (nI ((144 * j) + (6 * i)))), (0, .ref h), (1, .int (nI (j))), (2, .int (x)), (3, .int (y)), (4, .int (zz))]) hx hb d_M_has_140 hl (k := 7) rfl (nI_add _ 1) (by decide) rfl (fun ls hl => ?_)
              refine lv_goto (tgt := 23) hx hb d_M_has_143 (by decide) ?_
              rw [show nI 1 = (if anyB (fun u => inB f (oM j u) x y zz) (i + 1) = true then nI 1 else nI 0) from (if_pos (anyB_of (P := (fun u => inB f (oM j u) x y zz)) (i := i) (Nat.lt_succ_self i) (inB_yes c_13 c_17 c_21))).symm] at hl
              exact ih_7 (i + 1) ls locs H (by omega) ⟨by omega, (), trivial, lv_sub (l' := [(0, .ref h), (1, .int (nI (j))), (2, .int (x)), (3, .int (y)), (4, .int (zz)), (5, .int (if anyB (fun u => inB f (oM j u) x y zz) (i + 1) = true then nI 1 else nI 0)), (6, .int (nI (i + 1)))]) hl [3, 4, 5, 6, 7, 1, 0] rfl, hP.sub (ws' := [(h, .inr (3, (fs).set 0 (.int (nI (0))))), (ap, eI g 1152 (f)), (am, eI g 8 (mn))]) [0, 1, 2] rfl, (hD.sub (ws' := [(h, .inr (3, (fs).set 0 (.int (nI (0))))), (ap, eI g 1152 (f)), (am, eI g 8 (mn))]) [0, 1, 2] (by decide) rfl).re [h, ap, am] rfl rfl, hS⟩
