set_option maxHeartbeats 4000000 in
set_option maxRecDepth 100000 in
theorem m_M_part (l : Launch) (g : gT) (z : Nat) (H0 : Heap) (h : Nat) (fs : List Value) (ak ap am ab np : Nat) (sk f mn bx : Nat → Int32) (x y zz w hh dd : Int32) : Met l y_M_part w_M_part ({ frames := 1, cells := 0, slots := 0, locals := 26 }) (va_Pc [.ref h, .int (x), .int (y), .int (zz), .int (w), .int (hh), .int (dd)] (pB g z H0 (va_P g.1 cls [(h, .inr (3, fs)), (ak, eI g 48 (sk)), (ap, eI g 1152 (f)), (am, eI g 8 (mn)), (ab, eI g 6 (bx))] H0 ∧ va_D (zA z) [(h, .inr (3, fs)), (ak, eI g 48 (sk)), (ap, eI g 1152 (f)), (am, eI g 8 (mn)), (ab, eI g 6 (bx))] ∧ (fs.length = 19 ∧ fs[1]? = some (.int (nI np)) ∧ np ≤ 8 ∧ fs[2]? = some (.ref ak) ∧ fs[3]? = some (.ref ap) ∧ fs[4]? = some (.ref am) ∧ fs[8]? = some (.ref ab))))) (va_Qi (fun (rr : Int32) (u : List Value × (Nat → Int32) × (Nat → Int32) × (Nat → Int32) × (Nat → Int32)) => ((outI x (-1000) (nI 1000) ∨ outI y (-1000) (nI 1000) ∨ outI zz (-1000) (nI 1000) ∨ outI w (nI 1) (nI 1000) ∨ outI hh (nI 1) (nI 1000) ∨ outI dd (nI 1) (nI 1000)) ∧ u = (fs.set 0 (.int (nI 1)), sk, f, mn, bx) ∧ rr = nI 0) ∨ (¬ (outI x (-1000) (nI 1000) ∨ outI y (-1000) (nI 1000) ∨ outI zz (-1000) (nI 1000) ∨ outI w (nI 1) (nI 1000) ∨ outI hh (nI 1) (nI 1000) ∨ outI dd (nI 1) (nI 1000)) ∧ np = 8 ∧ u = (fs.set 0 (.int (nI 2)), sk, f, mn, bx) ∧ rr = nI 0) ∨ (¬ (outI x (-1000) (nI 1000) ∨ outI y (-1000) (nI 1000) ∨ outI zz (-1000) (nI 1000) ∨ outI w (nI 1) (nI 1000) ∨ outI hh (nI 1) (nI 1000) ∨ outI dd (nI 1) (nI 1000)) ∧ np < 8 ∧ u.1 = (fs.set 0 (.int (nI 0))).set 1 (.int (nI (np + 1))) ∧ u.2.1 = va_cpy (st6 bx x y zz (x + w) (y + hh) (zz + dd)) sk 0 (6 * np) 6 ∧ u.2.2.1 = va_cpy (st6 bx x y zz (x + w) (y + hh) (zz + dd)) f 0 (144 * np) 6 ∧ u.2.2.2.1 = upd mn np (nI 1) ∧ u.2.2.2.2 = st6 bx x y zz (x + w) (y + hh) (zz + dd) ∧ rr = nI np)) (fun (u : List Value × (Nat → Int32) × (Nat → Int32) × (Nat → Int32) × (Nat → Int32)) t => va_P g.1 cls [(h, .inr (3, u.1)), (ak, eI g 48 (u.2.1)), (ap, eI g 1152 (u.2.2.1)), (am, eI g 8 (u.2.2.2.1)), (ab, eI g 6 (u.2.2.2.2))] t.heap ∧ va_D (va_A [(h, .inr (3, fs)), (ak, eI g 48 (sk)), (ap, eI g 1152 (f)), (am, eI g 8 (mn)), (ab, eI g 6 (bx))] H0.size) [(h, .inr (3, u.1)), (ak, eI g 48 (u.2.1)), (ap, eI g 1152 (u.2.2.1)), (am, eI g 8 (u.2.2.2.1)), (ab, eI g 6 (u.2.2.2.2))]) (va_A [(h, .inr (3, fs)), (ak, eI g 48 (sk)), (ap, eI g 1152 (f)), (am, eI g 8 (mn)), (ab, eI g 6 (bx))] H0.size)) 0 0 (va_A [(h, .inr (3, fs)), (ak, eI g 48 (sk)), (ap, eI g 1152 (f)), (am, eI g 8 (mn)), (ab, eI g 6 (bx))] H0.size) := by
  refine Met.ofW (cc := c_M_part) (maxL := 9) (ret := (some .int)) (by decide) rfl ?_
  intro p e s m args below meth c s₁ B hml hv
  obtain ⟨rfl, hH0, ha, hP, hD0, hlen, hf1, hnp, hf2, hf3, hf4, hf8⟩ := hv
  have hx := B.exec
  have hb := B.bytes
  have hr := B.returns
  have htB : ∀ w ∈ tB, w.before _ s = true := fun w h => atoms_spec (ws := w_M_part) B.pre w (List.mem_cons_of_mem _ h)
  have hown : s.vm.findClass "JointSolidsModel" = some m.cls := findClass_of_methodNamed B.named
  have hlocks := B.notSynchronized
  subst hH0
  have hD := hD0.self (sz := s.heap.size)
  have hz := aA_z hD0 ha.2.2.2.2.2
  generalize hAe : va_A [(h, .inr (3, fs)), (ak, eI g 48 (sk)), (ap, eI g 1152 (f)), (am, eI g 8 (mn)), (ab, eI g 6 (bx))] s.heap.size = A at hD hz ⊢
  have hA : ∀ q : Nat, s.heap.size ≤ q → A q := fun q h => by rw [← hAe]; exact Or.inr h
  have hS : va_S A s.heap s.heap [] := va_S.rf
  refine W.ofH hP hS (fun H locs hP hS => ?_)
  have hl := lv_entry ([.ref h, .int (x), .int (y), .int (zz), .int (w), .int (hh), .int (dd)]) (n := 9) (Nat.le_of_ble_eq_true rfl)
  rw [lg_entry_eq]
  generalize (lg_sl ([.ref h, .int (x), .int (y), .int (zz), .int (w), .int (hh), .int (dd)]) ++ List.replicate (9 - (lg_sl ([.ref h, .int (x), .int (y), .int (zz), .int (w), .int (hh), .int (dd)])).length) Slot.unset).toArray = ls at hl ⊢
  have hl : lv_has ls 9 [(0, .ref h), (1, .int (x)), (2, .int (y)), (3, .int (zz)), (4, .int (w)), (5, .int (hh)), (6, .int (dd))] := hl
  refine lv_iload_n hx hb d_M_part_0 rfl (lv_at hl 1 rfl) ?_
  refine lv_sipush (v := ((-1000))) hx hb d_M_part_1 (by decide) ?_
  refine lv_sipush (v := (nI (1000))) hx hb d_M_part_4 (by decide) ?_
  refine va_calli (va_runS (As := [.int (x), .int ((-1000)), .int (nI (1000))]) (rest := []) ⟨hx, hb, hml, hown, htB⟩ (p_M_isIn l g z _ (x) ((-1000)) (nI (1000))) (va_cwS 3 htB (gS kw_509 kw_510 kw_3 g_M_isIn) rfl rfl rfl (by decide +kernel) ⟨by decide, by decide⟩) (pre_S hS hz ha trivial) rfl rfl hl.1 rfl (lv_room (Nat.le_of_ble_eq_true rfl)) d_M_part_7 ⟨by decide, by decide⟩) hS (fun q _ h => h.elim) (fun q h => h.elim) (fun r_1 u t H1 locs ht hvm hw hB hz1 hk1 hS => ?_)
  obtain rfl := hB.symm.trans ht
  subst hw
  by_cases c_2 : outI (x) ((-1000)) (nI (1000))
  · rw [if_pos c_2]
    refine lv_if_eq (tgt := 79) hx hb d_M_part_10 (by decide) (fun _ => ?_) (fun h => absurd h (by decide))
    refine lv_iconst (v := (nI (0))) hx hb d_M_part_79 (by decide) ?_
    refine lv_istore (lv' := [(7, .int (nI (0))), (0, .ref h), (1, .int (x)), (2, .int (y)), (3, .int (zz)), (4, .int (w)), (5, .int (hh)), (6, .int (dd))]) hx hb d_M_part_80 hl (by decide) rfl (fun ls hl => ?_)
    refine lv_aload_n hx hb d_M_part_82 rfl (lv_at hl 1 rfl) ?_
    refine lv_iload hx hb d_M_part_83 (lv_at hl 0 rfl) ?_
    refine lv_if_ne (tgt := 92) hx hb d_M_part_85 (by decide) (fun h => absurd h (by decide)) (fun _ => ?_)
    refine lv_iconst (v := (nI (1))) hx hb d_M_part_88 (by decide) ?_
    refine lv_goto (tgt := 106) hx hb d_M_part_89 (by decide) ?_
    refine va_put (D := g.1) (ci := 3) (v := .int (nI (1))) (ty := .int) (C := R_M) (T := F_M) (N := 19) hx hb htB in_M t_M t_M_ok n_M hown ha.1 hP hD hS 0 rfl rfl 0 (by decide) (htB _ kw_442) (fun _ h9 => h9) rfl (by decide +kernel) rfl rfl (by rw [hlen]; decide) d_M_part_106 (fun H locs hP hD hS => ?_)
    have hP : va_P g.1 cls [(h, .inr (3, (fs).set 0 (.int (nI (1))))), (ak, eI g 48 (sk)), (ap, eI g 1152 (f)), (am, eI g 8 (mn)), (ab, eI g 6 (bx))] H := hP
    have hD : va_D A [(h, .inr (3, (fs).set 0 (.int (nI (1))))), (ak, eI g 48 (sk)), (ap, eI g 1152 (f)), (am, eI g 8 (mn)), (ab, eI g 6 (bx))] := hD
    refine lv_aload_n hx hb d_M_part_109 rfl (lv_at hl 1 rfl) ?_
    refine va_get (D := g.1) (ci := 3) (v := .int (nI (1))) (C := R_M) (T := F_M) (N := 19) hx hb htB in_M hown ha.1 hP 0 rfl rfl 0 (by decide) (htB _ kw_442) (fun _ h9 => h9) (gset_eq hlen (by decide)) d_M_part_110 ?_
    refine lv_if_le (tgt := 118) hx hb d_M_part_113 (by decide) (fun h => absurd h (by decide)) (fun _ => ?_)
    refine lv_iconst (v := (nI (0))) hx hb d_M_part_116 (by decide) ?_
    have hP9 := hP.sub (ws' := [(h, .inr (3, (fs).set 0 (.int (nI (1))))), (ak, eI g 48 (sk)), (ap, eI g 1152 (f)), (am, eI g 8 (mn)), (ab, eI g 6 (bx))]) [0, 1, 2, 3, 4] rfl
    have hD9 := hD.sub (ws' := [(h, .inr (3, (fs).set 0 (.int (nI (1))))), (ak, eI g 48 (sk)), (ap, eI g 1152 (f)), (am, eI g 8 (mn)), (ab, eI g 6 (bx))]) [0, 1, 2, 3, 4] (by decide) rfl
    exact (W.widen (k := 0) (n := 0) (Nat.le_of_ble_eq_true rfl) (Nat.le_of_ble_eq_true rfl) (W.iret (v := (nI (0))) hx hb hr (fun t ht hW => ⟨⟨(nI (0)), ((fs).set 0 (.int (nI (1))), sk, f, mn, bx), rfl, Or.inl ⟨Or.inl c_2, rfl, rfl⟩, by rw [ht]; exact hP9, hD9.re [h, ak, ap, am, ab] rfl rfl⟩, hS.F ht⟩) hS.2.2 d_M_part_117))
  · rw [if_neg c_2]
    refine lv_if_eq (tgt := 79) hx hb d_M_part_10 (by decide) (fun h => absurd h (by decide)) (fun _ => ?_)
    refine lv_iload_n hx hb d_M_part_13 rfl (lv_at hl 2 rfl) ?_
    refine lv_sipush (v := ((-1000))) hx hb d_M_part_14 (by decide) ?_
    refine lv_sipush (v := (nI (1000))) hx hb d_M_part_17 (by decide) ?_
    refine va_calli (va_runS (As := [.int (y), .int ((-1000)), .int (nI (1000))]) (rest := []) ⟨hx, hb, hml, hown, htB⟩ (p_M_isIn l g z _ (y) ((-1000)) (nI (1000))) (va_cwS 3 htB (gS kw_509 kw_510 kw_3 g_M_isIn) rfl rfl rfl (by decide +kernel) ⟨by decide, by decide⟩) (pre_S hS hz ha trivial) rfl rfl hl.1 rfl (lv_room (Nat.le_of_ble_eq_true rfl)) d_M_part_20 ⟨by decide, by decide⟩) hS (fun q _ h => h.elim) (fun q h => h.elim) (fun r_7 u t H1 locs ht hvm hw hB hz1 hk1 hS => ?_)
    obtain rfl := hB.symm.trans ht
    subst hw
    by_cases c_8 : outI (y) ((-1000)) (nI (1000))
    · rw [if_pos c_8]
      refine lv_if_eq (tgt := 79) hx hb d_M_part_23 (by decide) (fun _ => ?_) (fun h => absurd h (by decide))
      refine lv_iconst (v := (nI (0))) hx hb d_M_part_79 (by decide) ?_
      refine lv_istore (lv' := [(7, .int (nI (0))), (0, .ref h), (1, .int (x)), (2, .int (y)), (3, .int (zz)), (4, .int (w)), (5, .int (hh)), (6, .int (dd))]) hx hb d_M_part_80 hl (by decide) rfl (fun ls hl => ?_)
      refine lv_aload_n hx hb d_M_part_82 rfl (lv_at hl 1 rfl) ?_
      refine lv_iload hx hb d_M_part_83 (lv_at hl 0 rfl) ?_
      refine lv_if_ne (tgt := 92) hx hb d_M_part_85 (by decide) (fun h => absurd h (by decide)) (fun _ => ?_)
      refine lv_iconst (v := (nI (1))) hx hb d_M_part_88 (by decide) ?_
      refine lv_goto (tgt := 106) hx hb d_M_part_89 (by decide) ?_
      refine va_put (D := g.1) (ci := 3) (v := .int (nI (1))) (ty := .int) (C := R_M) (T := F_M) (N := 19) hx hb htB in_M t_M t_M_ok n_M hown ha.1 hP hD hS 0 rfl rfl 0 (by decide) (htB _ kw_442) (fun _ h9 => h9) rfl (by decide +kernel) rfl rfl (by rw [hlen]; decide) d_M_part_106 (fun H locs hP hD hS => ?_)
      have hP : va_P g.1 cls [(h, .inr (3, (fs).set 0 (.int (nI (1))))), (ak, eI g 48 (sk)), (ap, eI g 1152 (f)), (am, eI g 8 (mn)), (ab, eI g 6 (bx))] H := hP
      have hD : va_D A [(h, .inr (3, (fs).set 0 (.int (nI (1))))), (ak, eI g 48 (sk)), (ap, eI g 1152 (f)), (am, eI g 8 (mn)), (ab, eI g 6 (bx))] := hD
      refine lv_aload_n hx hb d_M_part_109 rfl (lv_at hl 1 rfl) ?_
      refine va_get (D := g.1) (ci := 3) (v := .int (nI (1))) (C := R_M) (T := F_M) (N := 19) hx hb htB in_M hown ha.1 hP 0 rfl rfl 0 (by decide) (htB _ kw_442) (fun _ h9 => h9) (gset_eq hlen (by decide)) d_M_part_110 ?_
      refine lv_if_le (tgt := 118) hx hb d_M_part_113 (by decide) (fun h => absurd h (by decide)) (fun _ => ?_)
      refine lv_iconst (v := (nI (0))) hx hb d_M_part_116 (by decide) ?_
      have hP9 := hP.sub (ws' := [(h, .inr (3, (fs).set 0 (.int (nI (1))))), (ak, eI g 48 (sk)), (ap, eI g 1152 (f)), (am, eI g 8 (mn)), (ab, eI g 6 (bx))]) [0, 1, 2, 3, 4] rfl
      have hD9 := hD.sub (ws' := [(h, .inr (3, (fs).set 0 (.int (nI (1))))), (ak, eI g 48 (sk)), (ap, eI g 1152 (f)), (am, eI g 8 (mn)), (ab, eI g 6 (bx))]) [0, 1, 2, 3, 4] (by decide) rfl
      exact (W.widen (k := 0) (n := 0) (Nat.le_of_ble_eq_true rfl) (Nat.le_of_ble_eq_true rfl) (W.iret (v := (nI (0))) hx hb hr (fun t ht hW => ⟨⟨(nI (0)), ((fs).set 0 (.int (nI (1))), sk, f, mn, bx), rfl, Or.inl ⟨Or.inr (Or.inl c_8), rfl, rfl⟩, by rw [ht]; exact hP9, hD9.re [h, ak, ap, am, ab] rfl rfl⟩, hS.F ht⟩) hS.2.2 d_M_part_117))
    · rw [if_neg c_8]
      refine lv_if_eq (tgt := 79) hx hb d_M_part_23 (by decide) (fun h => absurd h (by decide)) (fun _ => ?_)
      refine lv_iload_n hx hb d_M_part_26 rfl (lv_at hl 3 rfl) ?_
      refine lv_sipush (v := ((-1000))) hx hb d_M_part_27 (by decide) ?_
      refine lv_sipush (v := (nI (1000))) hx hb d_M_part_30 (by decide) ?_
      refine va_calli (va_runS (As := [.int (zz), .int ((-1000)), .int (nI (1000))]) (rest := []) ⟨hx, hb, hml, hown, htB⟩ (p_M_isIn l g z _ (zz) ((-1000)) (nI (1000))) (va_cwS 3 htB (gS kw_509 kw_510 kw_3 g_M_isIn) rfl rfl rfl (by decide +kernel) ⟨by decide, by decide⟩) (pre_S hS hz ha trivial) rfl rfl hl.1 rfl (lv_room (Nat.le_of_ble_eq_true rfl)) d_M_part_33 ⟨by decide, by decide⟩) hS (fun q _ h => h.elim) (fun q h => h.elim) (fun r_13 u t H1 locs ht hvm hw hB hz1 hk1 hS => ?_)
      obtain rfl := hB.symm.trans ht
      subst hw
      by_cases c_14 : outI (zz) ((-1000)) (nI (1000))
      · rw [if_pos c_14]
        refine lv_if_eq (tgt := 79) hx hb d_M_part_36 (by decide) (fun _ => ?_) (fun h => absurd h (by decide))
        refine lv_iconst (v := (nI (0))) hx hb d_M_part_79 (by decide) ?_
        refine lv_istore (lv' := [(7, .int (nI (0))), (0, .ref h), (1, .int (x)), (2, .int (y)), (3, .int (zz)), (4, .int (w)), (5, .int (hh)), (6, .int (dd))]) hx hb d_M_part_80 hl (by decide) rfl (fun ls hl => ?_)
        refine lv_aload_n hx hb d_M_part_82 rfl (lv_at hl 1 rfl) ?_
        refine lv_iload hx hb d_M_part_83 (lv_at hl 0 rfl) ?_
        refine lv_if_ne (tgt := 92) hx hb d_M_part_85 (by decide) (fun h => absurd h (by decide)) (fun _ => ?_)
        refine lv_iconst (v := (nI (1))) hx hb d_M_part_88 (by decide) ?_
        refine lv_goto (tgt := 106) hx hb d_M_part_89 (by decide) ?_
        refine va_put (D := g.1) (ci := 3) (v := .int (nI (1))) (ty := .int) (C := R_M) (T := F_M) (N := 19) hx hb htB in_M t_M t_M_ok n_M hown ha.1 hP hD hS 0 rfl rfl 0 (by decide) (htB _ kw_442) (fun _ h9 => h9) rfl (by decide +kernel) rfl rfl (by rw [hlen]; decide) d_M_part_106 (fun H locs hP hD hS => ?_)
        have hP : va_P g.1 cls [(h, .inr (3, (fs).set 0 (.int (nI (1))))), (ak, eI g 48 (sk)), (ap, eI g 1152 (f)), (am, eI g 8 (mn)), (ab, eI g 6 (bx))] H := hP
        have hD : va_D A [(h, .inr (3, (fs).set 0 (.int (nI (1))))), (ak, eI g 48 (sk)), (ap, eI g 1152 (f)), (am, eI g 8 (mn)), (ab, eI g 6 (bx))] := hD
        refine lv_aload_n hx hb d_M_part_109 rfl (lv_at hl 1 rfl) ?_
        refine va_get (D := g.1) (ci := 3) (v := .int (nI (1))) (C := R_M) (T := F_M) (N := 19) hx hb htB in_M hown ha.1 hP 0 rfl rfl 0 (by decide) (htB _ kw_442) (fun _ h9 => h9) (gset_eq hlen (by decide)) d_M_part_110 ?_
        refine lv_if_le (tgt := 118) hx hb d_M_part_113 (by decide) (fun h => absurd h (by decide)) (fun _ => ?_)
        refine lv_iconst (v := (nI (0))) hx hb d_M_part_116 (by decide) ?_
        have hP9 := hP.sub (ws' := [(h, .inr (3, (fs).set 0 (.int (nI (1))))), (ak, eI g 48 (sk)), (ap, eI g 1152 (f)), (am, eI g 8 (mn)), (ab, eI g 6 (bx))]) [0, 1, 2, 3, 4] rfl
        have hD9 := hD.sub (ws' := [(h, .inr (3, (fs).set 0 (.int (nI (1))))), (ak, eI g 48 (sk)), (ap, eI g 1152 (f)), (am, eI g 8 (mn)), (ab, eI g 6 (bx))]) [0, 1, 2, 3, 4] (by decide) rfl
        exact (W.widen (k := 0) (n := 0) (Nat.le_of_ble_eq_true rfl) (Nat.le_of_ble_eq_true rfl) (W.iret (v := (nI (0))) hx hb hr (fun t ht hW => ⟨⟨(nI (0)), ((fs).set 0 (.int (nI (1))), sk, f, mn, bx), rfl, Or.inl ⟨Or.inr (Or.inr (Or.inl c_14)), rfl, rfl⟩, by rw [ht]; exact hP9, hD9.re [h, ak, ap, am, ab] rfl rfl⟩, hS.F ht⟩) hS.2.2 d_M_part_117))
      · rw [if_neg c_14]
        refine lv_if_eq (tgt := 79) hx hb d_M_part_36 (by decide) (fun h => absurd h (by decide)) (fun _ => ?_)
        refine lv_iload hx hb d_M_part_39 (lv_at hl 4 rfl) ?_
        refine lv_iconst (v := (nI (1))) hx hb d_M_part_41 (by decide) ?_
        refine lv_sipush (v := (nI (1000))) hx hb d_M_part_42 (by decide) ?_
        refine va_calli (va_runS (As := [.int (w), .int (nI (1)), .int (nI (1000))]) (rest := []) ⟨hx, hb, hml, hown, htB⟩ (p_M_isIn l g z _ (w) (nI (1)) (nI (1000))) (va_cwS 3 htB (gS kw_509 kw_510 kw_3 g_M_isIn) rfl rfl rfl (by decide +kernel) ⟨by decide, by decide⟩) (pre_S hS hz ha trivial) rfl rfl hl.1 rfl (lv_room (Nat.le_of_ble_eq_true rfl)) d_M_part_45 ⟨by decide, by decide⟩) hS (fun q _ h => h.elim) (fun q h => h.elim) (fun r_19 u t H1 locs ht hvm hw hB hz1 hk1 hS => ?_)
        obtain rfl := hB.symm.trans ht
        subst hw
        by_cases c_20 : outI (w) (nI (1)) (nI (1000))
        · rw [if_pos c_20]
          refine lv_if_eq (tgt := 79) hx hb d_M_part_48 (by decide) (fun _ => ?_) (fun h => absurd h (by decide))
          refine lv_iconst (v := (nI (0))) hx hb d_M_part_79 (by decide) ?_
          refine lv_istore (lv' := [(7, .int (nI (0))), (0, .ref h), (1, .int (x)), (2, .int (y)), (3, .int (zz)), (4, .int (w)), (5, .int (hh)), (6, .int (dd))]) hx hb d_M_part_80 hl (by decide) rfl (fun ls hl => ?_)
          refine lv_aload_n hx hb d_M_part_82 rfl (lv_at hl 1 rfl) ?_
          refine lv_iload hx hb d_M_part_83 (lv_at hl 0 rfl) ?_
          refine lv_if_ne (tgt := 92) hx hb d_M_part_85 (by decide) (fun h => absurd h (by decide)) (fun _ => ?_)
          refine lv_iconst (v := (nI (1))) hx hb d_M_part_88 (by decide) ?_
          refine lv_goto (tgt := 106) hx hb d_M_part_89 (by decide) ?_
          refine va_put (D := g.1) (ci := 3) (v := .int (nI (1))) (ty := .int) (C := R_M) (T := F_M) (N := 19) hx hb htB in_M t_M t_M_ok n_M hown ha.1 hP hD hS 0 rfl rfl 0 (by decide) (htB _ kw_442) (fun _ h9 => h9) rfl (by decide +kernel) rfl rfl (by rw [hlen]; decide) d_M_part_106 (fun H locs hP hD hS => ?_)
          have hP : va_P g.1 cls [(h, .inr (3, (fs).set 0 (.int (nI (1))))), (ak, eI g 48 (sk)), (ap, eI g 1152 (f)), (am, eI g 8 (mn)), (ab, eI g 6 (bx))] H := hP
          have hD : va_D A [(h, .inr (3, (fs).set 0 (.int (nI (1))))), (ak, eI g 48 (sk)), (ap, eI g 1152 (f)), (am, eI g 8 (mn)), (ab, eI g 6 (bx))] := hD
          refine lv_aload_n hx hb d_M_part_109 rfl (lv_at hl 1 rfl) ?_
          refine va_get (D := g.1) (ci := 3) (v := .int (nI (1))) (C := R_M) (T := F_M) (N := 19) hx hb htB in_M hown ha.1 hP 0 rfl rfl 0 (by decide) (htB _ kw_442) (fun _ h9 => h9) (gset_eq hlen (by decide)) d_M_part_110 ?_
          refine lv_if_le (tgt := 118) hx hb d_M_part_113 (by decide) (fun h => absurd h (by decide)) (fun _ => ?_)
          refine lv_iconst (v := (nI (0))) hx hb d_M_part_116 (by decide) ?_
          have hP9 := hP.sub (ws' := [(h, .inr (3, (fs).set 0 (.int (nI (1))))), (ak, eI g 48 (sk)), (ap, eI g 1152 (f)), (am, eI g 8 (mn)), (ab, eI g 6 (bx))]) [0, 1, 2, 3, 4] rfl
          have hD9 := hD.sub (ws' := [(h, .inr (3, (fs).set 0 (.int (nI (1))))), (ak, eI g 48 (sk)), (ap, eI g 1152 (f)), (am, eI g 8 (mn)), (ab, eI g 6 (bx))]) [0, 1, 2, 3, 4] (by decide) rfl
          exact (W.widen (k := 0) (n := 0) (Nat.le_of_ble_eq_true rfl) (Nat.le_of_ble_eq_true rfl) (W.iret (v := (nI (0))) hx hb hr (fun t ht hW => ⟨⟨(nI (0)), ((fs).set 0 (.int (nI (1))), sk, f, mn, bx), rfl, Or.inl ⟨Or.inr (Or.inr (Or.inr (Or.inl c_20))), rfl, rfl⟩, by rw [ht]; exact hP9, hD9.re [h, ak, ap, am, ab] rfl rfl⟩, hS.F ht⟩) hS.2.2 d_M_part_117))
        · rw [if_neg c_20]
          refine lv_if_eq (tgt := 79) hx hb d_M_part_48 (by decide) (fun h => absurd h (by decide)) (fun _ => ?_)
          refine lv_iload hx hb d_M_part_51 (lv_at hl 5 rfl) ?_
          refine lv_iconst (v := (nI (1))) hx hb d_M_part_53 (by decide) ?_
          refine lv_sipush (v := (nI (1000))) hx hb d_M_part_54 (by decide) ?_
          refine va_calli (va_runS (As := [.int (hh), .int (nI (1)), .int (nI (1000))]) (rest := []) ⟨hx, hb, hml, hown, htB⟩ (p_M_isIn l g z _ (hh) (nI (1)) (nI (1000))) (va_cwS 3 htB (gS kw_509 kw_510 kw_3 g_M_isIn) rfl rfl rfl (by decide +kernel) ⟨by decide, by decide⟩) (pre_S hS hz ha trivial) rfl rfl hl.1 rfl (lv_room (Nat.le_of_ble_eq_true rfl)) d_M_part_57 ⟨by decide, by decide⟩) hS (fun q _ h => h.elim) (fun q h => h.elim) (fun r_25 u t H1 locs ht hvm hw hB hz1 hk1 hS => ?_)
          obtain rfl := hB.symm.trans ht
          subst hw
          by_cases c_26 : outI (hh) (nI (1)) (nI (1000))
          · rw [if_pos c_26]
            refine lv_if_eq (tgt := 79) hx hb d_M_part_60 (by decide) (fun _ => ?_) (fun h => absurd h (by decide))
            refine lv_iconst (v := (nI (0))) hx hb d_M_part_79 (by decide) ?_
            refine lv_istore (lv' := [(7, .int (nI (0))), (0, .ref h), (1, .int (x)), (2, .int (y)), (3, .int (zz)), (4, .int (w)), (5, .int (hh)), (6, .int (dd))]) hx hb d_M_part_80 hl (by decide) rfl (fun ls hl => ?_)
            refine lv_aload_n hx hb d_M_part_82 rfl (lv_at hl 1 rfl) ?_
            refine lv_iload hx hb d_M_part_83 (lv_at hl 0 rfl) ?_
            refine lv_if_ne (tgt := 92) hx hb d_M_part_85 (by decide) (fun h => absurd h (by decide)) (fun _ => ?_)
            refine lv_iconst (v := (nI (1))) hx hb d_M_part_88 (by decide) ?_
            refine lv_goto (tgt := 106) hx hb d_M_part_89 (by decide) ?_
            refine va_put (D := g.1) (ci := 3) (v := .int (nI (1))) (ty := .int) (C := R_M) (T := F_M) (N := 19) hx hb htB in_M t_M t_M_ok n_M hown ha.1 hP hD hS 0 rfl rfl 0 (by decide) (htB _ kw_442) (fun _ h9 => h9) rfl (by decide +kernel) rfl rfl (by rw [hlen]; decide) d_M_part_106 (fun H locs hP hD hS => ?_)
            have hP : va_P g.1 cls [(h, .inr (3, (fs).set 0 (.int (nI (1))))), (ak, eI g 48 (sk)), (ap, eI g 1152 (f)), (am, eI g 8 (mn)), (ab, eI g 6 (bx))] H := hP
            have hD : va_D A [(h, .inr (3, (fs).set 0 (.int (nI (1))))), (ak, eI g 48 (sk)), (ap, eI g 1152 (f)), (am, eI g 8 (mn)), (ab, eI g 6 (bx))] := hD
            refine lv_aload_n hx hb d_M_part_109 rfl (lv_at hl 1 rfl) ?_
            refine va_get (D := g.1) (ci := 3) (v := .int (nI (1))) (C := R_M) (T := F_M) (N := 19) hx hb htB in_M hown ha.1 hP 0 rfl rfl 0 (by decide) (htB _ kw_442) (fun _ h9 => h9) (gset_eq hlen (by decide)) d_M_part_110 ?_
            refine lv_if_le (tgt := 118) hx hb d_M_part_113 (by decide) (fun h => absurd h (by decide)) (fun _ => ?_)
            refine lv_iconst (v := (nI (0))) hx hb d_M_part_116 (by decide) ?_
            have hP9 := hP.sub (ws' := [(h, .inr (3, (fs).set 0 (.int (nI (1))))), (ak, eI g 48 (sk)), (ap, eI g 1152 (f)), (am, eI g 8 (mn)), (ab, eI g 6 (bx))]) [0, 1, 2, 3, 4] rfl
            have hD9 := hD.sub (ws' := [(h, .inr (3, (fs).set 0 (.int (nI (1))))), (ak, eI g 48 (sk)), (ap, eI g 1152 (f)), (am, eI g 8 (mn)), (ab, eI g 6 (bx))]) [0, 1, 2, 3, 4] (by decide) rfl
            exact (W.widen (k := 0) (n := 0) (Nat.le_of_ble_eq_true rfl) (Nat.le_of_ble_eq_true rfl) (W.iret (v := (nI (0))) hx hb hr (fun t ht hW => ⟨⟨(nI (0)), ((fs).set 0 (.int (nI (1))), sk, f, mn, bx), rfl, Or.inl ⟨Or.inr (Or.inr (Or.inr (Or.inr (Or.inl c_26)))), rfl, rfl⟩, by rw [ht]; exact hP9, hD9.re [h, ak, ap, am, ab] rfl rfl⟩, hS.F ht⟩) hS.2.2 d_M_part_117))
          · rw [if_neg c_26]
            refine lv_if_eq (tgt := 79) hx hb d_M_part_60 (by decide) (fun h => absurd h (by decide)) (fun _ => ?_)
            refine lv_iload hx hb d_M_part_63 (lv_at hl 6 rfl) ?_
            refine lv_iconst (v := (nI (1))) hx hb d_M_part_65 (by decide) ?_
            refine lv_sipush (v := (nI (1000))) hx hb d_M_part_66 (by decide) ?_
            refine va_calli (va_runS (As := [.int (dd), .int (nI (1)), .int (nI (1000))]) (rest := []) ⟨hx, hb, hml, hown, htB⟩ (p_M_isIn l g z _ (dd) (nI (1)) (nI (1000))) (va_cwS 3 htB (gS kw_509 kw_510 kw_3 g_M_isIn) rfl rfl rfl (by decide +kernel) ⟨by decide, by decide⟩) (pre_S hS hz ha trivial) rfl rfl hl.1 rfl (lv_room (Nat.le_of_ble_eq_true rfl)) d_M_part_69 ⟨by decide, by decide⟩) hS (fun q _ h => h.elim) (fun q h => h.elim) (fun r_31 u t H1 locs ht hvm hw hB hz1 hk1 hS => ?_)
            obtain rfl := hB.symm.trans ht
            subst hw
            by_cases c_32 : outI (dd) (nI (1)) (nI (1000))
            · rw [if_pos c_32]
              refine lv_if_eq (tgt := 79) hx hb d_M_part_72 (by decide) (fun _ => ?_) (fun h => absurd h (by decide))
              refine lv_iconst (v := (nI (0))) hx hb d_M_part_79 (by decide) ?_
              refine lv_istore (lv' := [(7, .int (nI (0))), (0, .ref h), (1, .int (x)), (2, .int (y)), (3, .int (zz)), (4, .int (w)), (5, .int (hh)), (6, .int (dd))]) hx hb d_M_part_80 hl (by decide) rfl (fun ls hl => ?_)
              refine lv_aload_n hx hb d_M_part_82 rfl (lv_at hl 1 rfl) ?_
              refine lv_iload hx hb d_M_part_83 (lv_at hl 0 rfl) ?_
              refine lv_if_ne (tgt := 92) hx hb d_M_part_85 (by decide) (fun h => absurd h (by decide)) (fun _ => ?_)
              refine lv_iconst (v := (nI (1))) hx hb d_M_part_88 (by decide) ?_
              refine lv_goto (tgt := 106) hx hb d_M_part_89 (by decide) ?_
              refine va_put (D := g.1) (ci := 3) (v := .int (nI (1))) (ty := .int) (C := R_M) (T := F_M) (N := 19) hx hb htB in_M t_M t_M_ok n_M hown ha.1 hP hD hS 0 rfl rfl 0 (by decide) (htB _ kw_442) (fun _ h9 => h9) rfl (by decide +kernel) rfl rfl (by rw [hlen]; decide) d_M_part_106 (fun H locs hP hD hS => ?_)
              have hP : va_P g.1 cls [(h, .inr (3, (fs).set 0 (.int (nI (1))))), (ak, eI g 48 (sk)), (ap, eI g 1152 (f)), (am, eI g 8 (mn)), (ab, eI g 6 (bx))] H := hP
              have hD : va_D A [(h, .inr (3, (fs).set 0 (.int (nI (1))))), (ak, eI g 48 (sk)), (ap, eI g 1152 (f)), (am, eI g 8 (mn)), (ab, eI g 6 (bx))] := hD
              refine lv_aload_n hx hb d_M_part_109 rfl (lv_at hl 1 rfl) ?_
              refine va_get (D := g.1) (ci := 3) (v := .int (nI (1))) (C := R_M) (T := F_M) (N := 19) hx hb htB in_M hown ha.1 hP 0 rfl rfl 0 (by decide) (htB _ kw_442) (fun _ h9 => h9) (gset_eq hlen (by decide)) d_M_part_110 ?_
              refine lv_if_le (tgt := 118) hx hb d_M_part_113 (by decide) (fun h => absurd h (by decide)) (fun _ => ?_)
              refine lv_iconst (v := (nI (0))) hx hb d_M_part_116 (by decide) ?_
              have hP9 := hP.sub (ws' := [(h, .inr (3, (fs).set 0 (.int (nI (1))))), (ak, eI g 48 (sk)), (ap, eI g 1152 (f)), (am, eI g 8 (mn)), (ab, eI g 6 (bx))]) [0, 1, 2, 3, 4] rfl
              have hD9 := hD.sub (ws' := [(h, .inr (3, (fs).set 0 (.int (nI (1))))), (ak, eI g 48 (sk)), (ap, eI g 1152 (f)), (am, eI g 8 (mn)), (ab, eI g 6 (bx))]) [0, 1, 2, 3, 4] (by decide) rfl
              exact (W.widen (k := 0) (n := 0) (Nat.le_of_ble_eq_true rfl) (Nat.le_of_ble_eq_true rfl) (W.iret (v := (nI (0))) hx hb hr (fun t ht hW => ⟨⟨(nI (0)), ((fs).set 0 (.int (nI (1))), sk, f, mn, bx), rfl, Or.inl ⟨Or.inr (Or.inr (Or.inr (Or.inr (Or.inr (c_32))))), rfl, rfl⟩, by rw [ht]; exact hP9, hD9.re [h, ak, ap, am, ab] rfl rfl⟩, hS.F ht⟩) hS.2.2 d_M_part_117))
            · rw [if_neg c_32]
              refine lv_if_eq (tgt := 79) hx hb d_M_part_72 (by decide) (fun h => absurd h (by decide)) (fun _ => ?_)
              refine lv_iconst (v := (nI (1))) hx hb d_M_part_75 (by decide) ?_
              refine lv_goto (tgt := 80) hx hb d_M_part_76 (by decide) ?_
              refine lv_istore (lv' := [(7, .int (nI (1))), (0, .ref h), (1, .int (x)), (2, .int (y)), (3, .int (zz)), (4, .int (w)), (5, .int (hh)), (6, .int (dd))]) hx hb d_M_part_80 hl (by decide) rfl (fun ls hl => ?_)
              refine lv_aload_n hx hb d_M_part_82 rfl (lv_at hl 1 rfl) ?_
              refine lv_iload hx hb d_M_part_83 (lv_at hl 0 rfl) ?_
              refine lv_if_ne (tgt := 92) hx hb d_M_part_85 (by decide) (fun _ => ?_) (fun h => absurd h (by decide))
              refine lv_aload_n hx hb d_M_part_92 rfl (lv_at hl 1 rfl) ?_
              refine va_get (D := g.1) (ci := 3) (v := .int (nI (np))) (C := R_M) (T := F_M) (N := 19) hx hb htB in_M hown ha.1 hP 0 rfl rfl 1 (by decide) (htB _ kw_443) (fun _ h9 => h9) hf1 d_M_part_93 ?_
              refine lv_bipush (v := (nI (8))) hx hb d_M_part_96 (by decide) ?_
              refine jv_icmp_ne (tgt := 105) hx hb (by omega) (by omega) d_M_part_98 (by decide) (fun c_38 => ?_) (fun c_38 => ?_)
              · refine lv_iconst (v := (nI (0))) hx hb d_M_part_105 (by decide) ?_
                refine va_put (D := g.1) (ci := 3) (v := .int (nI (0))) (ty := .int) (C := R_M) (T := F_M) (N := 19) hx hb htB in_M t_M t_M_ok n_M hown ha.1 hP hD hS 0 rfl rfl 0 (by decide) (htB _ kw_442) (fun _ h9 => h9) rfl (by decide +kernel) rfl rfl (by rw [hlen]; decide) d_M_part_106 (fun H locs hP hD hS => ?_)
                have hP : va_P g.1 cls [(h, .inr (3, (fs).set 0 (.int (nI (0))))), (ak, eI g 48 (sk)), (ap, eI g 1152 (f)), (am, eI g 8 (mn)), (ab, eI g 6 (bx))] H := hP
                have hD : va_D A [(h, .inr (3, (fs).set 0 (.int (nI (0))))), (ak, eI g 48 (sk)), (ap, eI g 1152 (f)), (am, eI g 8 (mn)), (ab, eI g 6 (bx))] := hD
                refine lv_aload_n hx hb d_M_part_109 rfl (lv_at hl 1 rfl) ?_
                refine va_get (D := g.1) (ci := 3) (v := .int (nI (0))) (C := R_M) (T := F_M) (N := 19) hx hb htB in_M hown ha.1 hP 0 rfl rfl 0 (by decide) (htB _ kw_442) (fun _ h9 => h9) (gset_eq hlen (by decide)) d_M_part_110 ?_
                refine lv_if_le (tgt := 118) hx hb d_M_part_113 (by decide) (fun _ => ?_) (fun h => absurd h (by decide))
                refine lv_aload_n hx hb d_M_part_118 rfl (lv_at hl 1 rfl) ?_
                refine lv_iload_n hx hb d_M_part_119 rfl (lv_at hl 2 rfl) ?_
                refine lv_iload_n hx hb d_M_part_120 rfl (lv_at hl 3 rfl) ?_
                refine lv_iload_n hx hb d_M_part_121 rfl (lv_at hl 4 rfl) ?_
                refine lv_iload hx hb d_M_part_122 (lv_at hl 5 rfl) ?_
                refine lv_iload hx hb d_M_part_124 (lv_at hl 6 rfl) ?_
                refine lv_iload hx hb d_M_part_126 (lv_at hl 7 rfl) ?_
                have hPc := hP.sub (ws' := [(h, .inr (3, (fs).set 0 (.int (nI (0))))), (ab, eI g 6 (bx))]) [0, 4] rfl
                have hDc := hD.sub (ws' := [(h, .inr (3, (fs).set 0 (.int (nI (0))))), (ab, eI g 6 (bx))]) [0, 4] (by decide) rfl
                have hFc := va_free (wc := [(h, .inr (3, (fs).set 0 (.int (nI (0))))), (ab, eI g 6 (bx))]) hD hS hA [0, 4] rfl
                refine va_callv (va_runV (As := [.int (x), .int (y), .int (zz), .int (w), .int (hh), .int (dd)]) (rest := []) ⟨hx, hb, hml, hown, htB⟩ (m_M_tell l g z _ h ((fs).set 0 (.int (nI (0)))) ab (bx) (x) (y) (zz) (w) (hh) (dd)) (cwV 6 htB (gV kw_512 kw_514 ks_1_0 kw_3 g_M_tell) rfl rfl rfl (by decide +kernel) ⟨Nat.le_of_ble_eq_true rfl, Nat.le_of_ble_eq_true rfl⟩) (pre_V hS hz ha (va_recv ha.1 hP (ci := 3) (q0 := 0) rfl rfl) ⟨hPc, hDc.weaken (fun _ _ _ h => hz _ h), (gset_ne (by decide) hf8)⟩) rfl rfl hl.1 rfl (lv_room (Nat.le_of_ble_eq_true rfl)) d_M_part_128 ⟨Nat.le_of_ble_eq_true rfl, Nat.le_of_ble_eq_true rfl⟩) hS (fun q _ h => hFc q h) hFc (fun u_41 t H1 locs ht hvm hw hB hz1 hk1 hS => ?_)
                obtain ⟨hP1, hD1⟩ := hB
                rw [ht] at hP1
                obtain ⟨hP, hD⟩ := va_join (wr := [(ak, eI g 48 (sk)), (ap, eI g 1152 (f)), (am, eI g 8 (mn))]) (w1 := [(h, .inr (3, (fs).set 0 (.int (nI (0))))), (ab, eI g 6 (st6 bx (x) (y) (zz) ((x) + (w)) ((y) + (hh)) ((zz) + (dd))))]) hP hD [0, 4] [1, 2, 3] rfl rfl (by decide) (by decide) hk1 hFc hP1 hD1
                clear hPc hDc hFc hP1 hD1 hk1 hz1 hvm ht
                generalize H1 = H at hP hS ⊢
                have hP : va_P g.1 cls [(ak, eI g 48 (sk)), (ap, eI g 1152 (f)), (am, eI g 8 (mn)), (h, .inr (3, (fs).set 0 (.int (nI (0))))), (ab, eI g 6 (st6 bx (x) (y) (zz) ((x) + (w)) ((y) + (hh)) ((zz) + (dd))))] H := hP
                have hD : va_D A [(ak, eI g 48 (sk)), (ap, eI g 1152 (f)), (am, eI g 8 (mn)), (h, .inr (3, (fs).set 0 (.int (nI (0))))), (ab, eI g 6 (st6 bx (x) (y) (zz) ((x) + (w)) ((y) + (hh)) ((zz) + (dd))))] := hD
                obtain ⟨b6, hb6⟩ : ∃ x6 : Nat → Int32, x6 = st6 bx x y zz (x + w) (y + hh) (zz + dd) := ⟨_, rfl⟩
                have hP : va_P g.1 cls [(ak, eI g 48 (sk)), (ap, eI g 1152 (f)), (am, eI g 8 (mn)), (h, .inr (3, (fs).set 0 (.int (nI (0))))), (ab, eI g 6 (b6))] H := by rw [hb6]; exact hP
                have hD : va_D A [(ak, eI g 48 (sk)), (ap, eI g 1152 (f)), (am, eI g 8 (mn)), (h, .inr (3, (fs).set 0 (.int (nI (0))))), (ab, eI g 6 (b6))] := hD.re [ak, ap, am, h, ab] rfl rfl
                refine lv_iconst (v := (nI (0))) hx hb d_M_part_131 (by decide) ?_
                refine lv_istore (lv' := [(8, .int (nI (0))), (7, .int (nI (1))), (0, .ref h), (1, .int (x)), (2, .int (y)), (3, .int (zz)), (4, .int (w)), (5, .int (hh)), (6, .int (dd))]) hx hb d_M_part_132 hl (by decide) rfl (fun ls hl => ?_)
                rw [← cpy_zero b6 sk 0 (6 * np), ← cpy_zero b6 f 0 (144 * np)] at hP
                have hP : va_P g.1 cls [(ak, eI g 48 (va_cpy b6 sk 0 (6 * np) 0)), (ap, eI g 1152 (va_cpy b6 f 0 (144 * np) 0)), (am, eI g 8 (mn)), (h, .inr (3, (fs).set 0 (.int (nI (0))))), (ab, eI g 6 (b6))] H := hP
                refine W.loop (N := 6) (X := fun i ls locs H => lv_has ls 9 [(0, .ref h), (8, .int (nI (i)))] ∧ i ≤ 6 ∧ va_P g.1 cls [(ak, eI g 48 (va_cpy b6 sk 0 (6 * np) i)), (ap, eI g 1152 (va_cpy b6 f 0 (144 * np) i)), (am, eI g 8 (mn)), (h, .inr (3, (fs).set 0 (.int (nI (0))))), (ab, eI g 6 (b6))] H ∧ va_D A [(ak, eI g 48 (va_cpy b6 sk 0 (6 * np) i)), (ap, eI g 1152 (va_cpy b6 f 0 (144 * np) i)), (am, eI g 8 (mn)), (h, .inr (3, (fs).set 0 (.int (nI (0))))), (ab, eI g 6 (b6))] ∧ va_S A s.heap H locs) 0 ⟨lv_sub hl [2, 0] rfl, Nat.zero_le _, hP, hD.re [ak, ap, am, h, ab] rfl rfl, hS⟩ (fun n_42 ih_43 i ls locs H hn_i hi_i hX => ?_) (fun _ _ _ _ hX => hX.2.1)
                obtain ⟨hl, -, hP, hD, hS⟩ := hX
                refine lv_iload hx hb d_M_part_134 (lv_at hl 1 rfl) ?_
                refine lv_bipush (v := (nI (6))) hx hb d_M_part_136 (by decide) ?_
                refine jv_icmp_ge (tgt := 192) hx hb (by omega) (by omega) d_M_part_138 (by decide) (fun c_44 => ?_) (fun c_44 => ?_)
                · obtain rfl : i = 6 := by omega
                  refine lv_aload_n hx hb d_M_part_192 rfl (lv_at hl 0 rfl) ?_
                  refine va_get (D := g.1) (ci := 3) (v := .ref am) (C := R_M) (T := F_M) (N := 19) hx hb htB in_M hown ha.1 hP 3 rfl rfl 4 (by decide) (htB _ kw_446) (fun _ h9 => h9) (gset_ne (by decide) hf4) d_M_part_193 ?_
                  refine lv_aload_n hx hb d_M_part_196 rfl (lv_at hl 0 rfl) ?_
                  refine va_get (D := g.1) (ci := 3) (v := .int (nI (np))) (C := R_M) (T := F_M) (N := 19) hx hb htB in_M hown ha.1 hP 3 rfl rfl 1 (by decide) (htB _ kw_443) (fun _ h9 => h9) (gset_ne (by decide) hf1) d_M_part_197 ?_
                  refine lv_iconst (v := (nI (1))) hx hb d_M_part_200 (by decide) ?_
                  refine ja_ast (k := np) hx hb ha.1 hP hD hS 2 0 rfl rfl (by omega) (by omega) d_M_part_201 (fun H locs hP hD hS => ?_)
                  have hP : va_P g.1 cls [(ak, eI g 48 (va_cpy b6 sk 0 (6 * np) 6)), (ap, eI g 1152 (va_cpy b6 f 0 (144 * np) 6)), (am, eI g 8 (upd (mn) (np) (nI (1)))), (h, .inr (3, (fs).set 0 (.int (nI (0))))), (ab, eI g 6 (b6))] H := hP
                  have hD : va_D A [(ak, eI g 48 (va_cpy b6 sk 0 (6 * np) 6)), (ap, eI g 1152 (va_cpy b6 f 0 (144 * np) 6)), (am, eI g 8 (upd (mn) (np) (nI (1)))), (h, .inr (3, (fs).set 0 (.int (nI (0))))), (ab, eI g 6 (b6))] := hD
                  refine lv_aload_n hx hb d_M_part_202 rfl (lv_at hl 0 rfl) ?_
                  refine lv_dup hx hb d_M_part_203 rfl ?_
                  refine va_get (D := g.1) (ci := 3) (v := .int (nI (np))) (C := R_M) (T := F_M) (N := 19) hx hb htB in_M hown ha.1 hP 3 rfl rfl 1 (by decide) (htB _ kw_443) (fun _ h9 => h9) (gset_ne (by decide) hf1) d_M_part_204 ?_
                  refine lv_iconst (v := (nI (1))) hx hb d_M_part_207 (by decide) ?_
                  refine jv_iadd hx hb d_M_part_208 ?_
                  refine va_put (D := g.1) (ci := 3) (v := .int (nI (np + 1))) (ty := .int) (C := R_M) (T := F_M) (N := 19) hx hb htB in_M t_M t_M_ok n_M hown ha.1 hP hD hS 3 rfl rfl 1 (by decide) (htB _ kw_443) (fun _ h9 => h9) rfl (by decide +kernel) rfl rfl (by rw [(glen hlen)]; decide) d_M_part_209 (fun H locs hP hD hS => ?_)
                  have hP : va_P g.1 cls [(ak, eI g 48 (va_cpy b6 sk 0 (6 * np) 6)), (ap, eI g 1152 (va_cpy b6 f 0 (144 * np) 6)), (am, eI g 8 (upd (mn) (np) (nI (1)))), (h, .inr (3, ((fs).set 0 (.int (nI (0)))).set 1 (.int (nI (np + 1))))), (ab, eI g 6 (b6))] H := hP
                  have hD : va_D A [(ak, eI g 48 (va_cpy b6 sk 0 (6 * np) 6)), (ap, eI g 1152 (va_cpy b6 f 0 (144 * np) 6)), (am, eI g 8 (upd (mn) (np) (nI (1)))), (h, .inr (3, ((fs).set 0 (.int (nI (0)))).set 1 (.int (nI (np + 1))))), (ab, eI g 6 (b6))] := hD
                  refine lv_aload_n hx hb d_M_part_212 rfl (lv_at hl 0 rfl) ?_
                  refine va_get (D := g.1) (ci := 3) (v := .int (nI (np + 1))) (C := R_M) (T := F_M) (N := 19) hx hb htB in_M hown ha.1 hP 3 rfl rfl 1 (by decide) (htB _ kw_443) (fun _ h9 => h9) (gset_eq (glen hlen) (by decide)) d_M_part_213 ?_
                  refine lv_iconst (v := (nI (1))) hx hb d_M_part_216 (by decide) ?_
                  refine jv_isub hx hb (by omega) d_M_part_217 ?_
                  have hP9 := hP.sub (ws' := [(h, .inr (3, ((fs).set 0 (.int (nI (0)))).set 1 (.int (nI (np + 1))))), (ak, eI g 48 (va_cpy b6 sk 0 (6 * np) 6)), (ap, eI g 1152 (va_cpy b6 f 0 (144 * np) 6)), (am, eI g 8 (upd (mn) (np) (nI (1)))), (ab, eI g 6 (b6))]) [3, 0, 1, 2, 4] rfl
                  have hD9 := hD.sub (ws' := [(h, .inr (3, ((fs).set 0 (.int (nI (0)))).set 1 (.int (nI (np + 1))))), (ak, eI g 48 (va_cpy b6 sk 0 (6 * np) 6)), (ap, eI g 1152 (va_cpy b6 f 0 (144 * np) 6)), (am, eI g 8 (upd (mn) (np) (nI (1)))), (ab, eI g 6 (b6))]) [3, 0, 1, 2, 4] (by decide) rfl
                  exact (W.widen (k := 0) (n := 0) (Nat.le_of_ble_eq_true rfl) (Nat.le_of_ble_eq_true rfl) (W.iret (v := (nI ((np + 1) - 1))) hx hb hr (fun t ht hW => ⟨⟨(nI ((np + 1) - 1)), (((fs).set 0 (.int (nI (0)))).set 1 (.int (nI (np + 1))), va_cpy b6 sk 0 (6 * np) 6, va_cpy b6 f 0 (144 * np) 6, upd (mn) (np) (nI (1)), b6), rfl, Or.inr (Or.inr ⟨fun q => q.elim c_2 (fun q => q.elim c_8 (fun q => q.elim c_14 (fun q => q.elim c_20 (fun q => q.elim c_26 c_32)))), by omega, rfl, by rw [← hb6], by rw [← hb6], rfl, hb6, by rw [Nat.add_sub_cancel]⟩), by rw [ht]; exact hP9, hD9.re [h, ak, ap, am, ab] rfl rfl⟩, hS.F ht⟩) hS.2.2 d_M_part_218))
                · refine lv_aload_n hx hb d_M_part_141 rfl (lv_at hl 0 rfl) ?_
                  refine va_get (D := g.1) (ci := 3) (v := .ref ak) (C := R_M) (T := F_M) (N := 19) hx hb htB in_M hown ha.1 hP 3 rfl rfl 2 (by decide) (htB _ kw_444) (fun _ h9 => h9) (gset_ne (by decide) hf2) d_M_part_142 ?_
                  refine lv_bipush (v := (nI (6))) hx hb d_M_part_145 (by decide) ?_
                  refine lv_aload_n hx hb d_M_part_147 rfl (lv_at hl 0 rfl) ?_
                  refine va_get (D := g.1) (ci := 3) (v := .int (nI (np))) (C := R_M) (T := F_M) (N := 19) hx hb htB in_M hown ha.1 hP 3 rfl rfl 1 (by decide) (htB _ kw_443) (fun _ h9 => h9) (gset_ne (by decide) hf1) d_M_part_148 ?_
                  refine jv_imul hx hb d_M_part_151 ?_
                  refine lv_iload hx hb d_M_part_152 (lv_at hl 1 rfl) ?_
                  refine jv_iadd hx hb d_M_part_154 ?_
                  refine lv_aload_n hx hb d_M_part_155 rfl (lv_at hl 0 rfl) ?_
                  refine va_get (D := g.1) (ci := 3) (v := .ref ab) (C := R_M) (T := F_M) (N := 19) hx hb htB in_M hown ha.1 hP 3 rfl rfl 8 (by decide) (htB _ kw_450) (fun _ h9 => h9) (gset_ne (by decide) hf8) d_M_part_156 ?_
                  refine lv_iload hx hb d_M_part_159 (lv_at hl 1 rfl) ?_
                  refine ja_ald (k := i) hx hb ha.1 hP 4 0 rfl rfl (by omega) (by omega) d_M_part_161 ?_
                  refine ja_ast (k := (6 * np) + i) hx hb ha.1 hP hD hS 0 0 rfl rfl (by omega) (by omega) d_M_part_162 (fun H locs hP hD hS => ?_)
                  have hP : va_P g.1 cls [(ak, eI g 48 (upd (va_cpy b6 sk 0 (6 * np) i) ((6 * np) + i) (b6 (i)))), (ap, eI g 1152 (va_cpy b6 f 0 (144 * np) i)), (am, eI g 8 (mn)), (h, .inr (3, (fs).set 0 (.int (nI (0))))), (ab, eI g 6 (b6))] H := hP
                  have hD : va_D A [(ak, eI g 48 (upd (va_cpy b6 sk 0 (6 * np) i) ((6 * np) + i) (b6 (i)))), (ap, eI g 1152 (va_cpy b6 f 0 (144 * np) i)), (am, eI g 8 (mn)), (h, .inr (3, (fs).set 0 (.int (nI (0))))), (ab, eI g 6 (b6))] := hD
                  refine lv_aload_n hx hb d_M_part_163 rfl (lv_at hl 0 rfl) ?_
                  refine va_get (D := g.1) (ci := 3) (v := .ref ap) (C := R_M) (T := F_M) (N := 19) hx hb htB in_M hown ha.1 hP 3 rfl rfl 3 (by decide) (htB _ kw_445) (fun _ h9 => h9) (gset_ne (by decide) hf3) d_M_part_164 ?_
                  refine lv_sipush (v := (nI (144))) hx hb d_M_part_167 (by decide) ?_
                  refine lv_aload_n hx hb d_M_part_170 rfl (lv_at hl 0 rfl) ?_
                  refine va_get (D := g.1) (ci := 3) (v := .int (nI (np))) (C := R_M) (T := F_M) (N := 19) hx hb htB in_M hown ha.1 hP 3 rfl rfl 1 (by decide) (htB _ kw_443) (fun _ h9 => h9) (gset_ne (by decide) hf1) d_M_part_171 ?_
                  refine jv_imul hx hb d_M_part_174 ?_
                  refine lv_iload hx hb d_M_part_175 (lv_at hl 1 rfl) ?_
                  refine jv_iadd hx hb d_M_part_177 ?_
                  refine lv_aload_n hx hb d_M_part_178 rfl (lv_at hl 0 rfl) ?_
                  refine va_get (D := g.1) (ci := 3) (v := .ref ab) (C := R_M) (T := F_M) (N := 19) hx hb htB in_M hown ha.1 hP 3 rfl rfl 8 (by decide) (htB _ kw_450) (fun _ h9 => h9) (gset_ne (by decide) hf8) d_M_part_179 ?_
                  refine lv_iload hx hb d_M_part_182 (lv_at hl 1 rfl) ?_
                  refine ja_ald (k := i) hx hb ha.1 hP 4 0 rfl rfl (by omega) (by omega) d_M_part_184 ?_
                  refine ja_ast (k := (144 * np) + i) hx hb ha.1 hP hD hS 1 0 rfl rfl (by omega) (by omega) d_M_part_185 (fun H locs hP hD hS => ?_)
                  have hP : va_P g.1 cls [(ak, eI g 48 (upd (va_cpy b6 sk 0 (6 * np) i) ((6 * np) + i) (b6 (i)))), (ap, eI g 1152 (upd (va_cpy b6 f 0 (144 * np) i) ((144 * np) + i) (b6 (i)))), (am, eI g 8 (mn)), (h, .inr (3, (fs).set 0 (.int (nI (0))))), (ab, eI g 6 (b6))] H := hP
                  have hD : va_D A [(ak, eI g 48 (upd (va_cpy b6 sk 0 (6 * np) i) ((6 * np) + i) (b6 (i)))), (ap, eI g 1152 (upd (va_cpy b6 f 0 (144 * np) i) ((144 * np) + i) (b6 (i)))), (am, eI g 8 (mn)), (h, .inr (3, (fs).set 0 (.int (nI (0))))), (ab, eI g 6 (b6))] := hD
                  refine lv_iinc (v := nI (i + 1)) (lv' := [(8, .int (nI (i + 1))), (0, .ref h)]) hx hb d_M_part_186 hl (k := 1) rfl (nI_add _ 1) (by decide) rfl (fun ls hl => ?_)
                  refine lv_goto (tgt := 134) hx hb d_M_part_189 (by decide) ?_
                  rw [cpy_step0, cpy_step0] at hP
                  have hD : va_D A [(ak, eI g 48 (va_cpy b6 sk 0 (6 * np) (i + 1))), (ap, eI g 1152 (va_cpy b6 f 0 (144 * np) (i + 1))), (am, eI g 8 (mn)), (h, .inr (3, (fs).set 0 (.int (nI (0))))), (ab, eI g 6 (b6))] := hD.re [ak, ap, am, h, ab] rfl rfl
                  exact ih_43 (i + 1) ls locs H (by omega) ⟨lv_sub (l' := [(0, .ref h), (8, .int (nI ((i + 1))))]) hl [1, 0] rfl, by omega, hP.sub (ws' := [(ak, eI g 48 (va_cpy b6 sk 0 (6 * np) (i + 1))), (ap, eI g 1152 (va_cpy b6 f 0 (144 * np) (i + 1))), (am, eI g 8 (mn)), (h, .inr (3, (fs).set 0 (.int (nI (0))))), (ab, eI g 6 (b6))]) [0, 1, 2, 3, 4] rfl, (hD.sub (ws' := [(ak, eI g 48 (va_cpy b6 sk 0 (6 * np) (i + 1))), (ap, eI g 1152 (va_cpy b6 f 0 (144 * np) (i + 1))), (am, eI g 8 (mn)), (h, .inr (3, (fs).set 0 (.int (nI (0))))), (ab, eI g 6 (b6))]) [0, 1, 2, 3, 4] (by decide) rfl).re [ak, ap, am, h, ab] rfl rfl, hS⟩
              · refine lv_iconst (v := (nI (2))) hx hb d_M_part_101 (by decide) ?_
                refine lv_goto (tgt := 106) hx hb d_M_part_102 (by decide) ?_
                refine va_put (D := g.1) (ci := 3) (v := .int (nI (2))) (ty := .int) (C := R_M) (T := F_M) (N := 19) hx hb htB in_M t_M t_M_ok n_M hown ha.1 hP hD hS 0 rfl rfl 0 (by decide) (htB _ kw_442) (fun _ h9 => h9) rfl (by decide +kernel) rfl rfl (by rw [hlen]; decide) d_M_part_106 (fun H locs hP hD hS => ?_)
                have hP : va_P g.1 cls [(h, .inr (3, (fs).set 0 (.int (nI (2))))), (ak, eI g 48 (sk)), (ap, eI g 1152 (f)), (am, eI g 8 (mn)), (ab, eI g 6 (bx))] H := hP
                have hD : va_D A [(h, .inr (3, (fs).set 0 (.int (nI (2))))), (ak, eI g 48 (sk)), (ap, eI g 1152 (f)), (am, eI g 8 (mn)), (ab, eI g 6 (bx))] := hD
                refine lv_aload_n hx hb d_M_part_109 rfl (lv_at hl 1 rfl) ?_
                refine va_get (D := g.1) (ci := 3) (v := .int (nI (2))) (C := R_M) (T := F_M) (N := 19) hx hb htB in_M hown ha.1 hP 0 rfl rfl 0 (by decide) (htB _ kw_442) (fun _ h9 => h9) (gset_eq hlen (by decide)) d_M_part_110 ?_
                refine lv_if_le (tgt := 118) hx hb d_M_part_113 (by decide) (fun h => absurd h (by decide)) (fun _ => ?_)
                refine lv_iconst (v := (nI (0))) hx hb d_M_part_116 (by decide) ?_
                have hP9 := hP.sub (ws' := [(h, .inr (3, (fs).set 0 (.int (nI (2))))), (ak, eI g 48 (sk)), (ap, eI g 1152 (f)), (am, eI g 8 (mn)), (ab, eI g 6 (bx))]) [0, 1, 2, 3, 4] rfl
                have hD9 := hD.sub (ws' := [(h, .inr (3, (fs).set 0 (.int (nI (2))))), (ak, eI g 48 (sk)), (ap, eI g 1152 (f)), (am, eI g 8 (mn)), (ab, eI g 6 (bx))]) [0, 1, 2, 3, 4] (by decide) rfl
                exact (W.widen (k := 0) (n := 0) (Nat.le_of_ble_eq_true rfl) (Nat.le_of_ble_eq_true rfl) (W.iret (v := (nI (0))) hx hb hr (fun t ht hW => ⟨⟨(nI (0)), ((fs).set 0 (.int (nI (2))), sk, f, mn, bx), rfl, Or.inr (Or.inl ⟨fun q => q.elim c_2 (fun q => q.elim c_8 (fun q => q.elim c_14 (fun q => q.elim c_20 (fun q => q.elim c_26 c_32)))), c_38, rfl, rfl⟩), by rw [ht]; exact hP9, hD9.re [h, ak, ap, am, ab] rfl rfl⟩, hS.F ht⟩) hS.2.2 d_M_part_117))
