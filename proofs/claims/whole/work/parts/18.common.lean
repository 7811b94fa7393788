def cmF (f : Nat → Int32) (x0 X0 x1 X1 x2 X2 : Int32) : Nat → Int32 := upd (upd (upd (upd (upd (upd f 0 x0) 3 X0) 1 x1) 4 X1) 2 x2) 5 X2
abbrev cxL (sk : Nat → Int32) (oa ob k : Nat) : Int32 := mxI (sk (oa + k)) (sk (ob + k))
abbrev cxH (sk : Nat → Int32) (oa ob k : Nat) : Int32 := mnI (sk (oa + (k + 3))) (sk (ob + (k + 3)))
abbrev cxM (sk : Nat → Int32) (oa ob k : Nat) : Int32 := mnI (sk ((oa + 3) + k)) (sk ((ob + 3) + k))
set_option maxHeartbeats 4000000 in
set_option maxRecDepth 100000 in
theorem m_J_findCommon (l : Launch) (g : gT) (z : Nat) (H0 : Heap) (h : Nat) (fs : List Value) (ak ac : Nat) (sk cm : Nat → Int32) (a b : Nat) : Met l y_J_findCommon w_J_findCommon ({ frames := 1, cells := 0, slots := 0, locals := 15 }) (va_Pc [.ref h, .int (nI (a)), .int (nI (b))] (pB g z H0 (va_P g.1 cls [(h, .inr (1, fs)), (ak, eI g 48 (sk)), (ac, eI g 6 (cm))] H0 ∧ va_D (zA z) [(h, .inr (1, fs)), (ak, eI g 48 (sk)), (ac, eI g 6 (cm))] ∧ (fs[2]? = some (.ref ak) ∧ fs[12]? = some (.ref ac) ∧ a < 8 ∧ b < 8)))) (va_Qi (fun (rr : Int32) (_ : Unit) => rr = (if (¬ (cxH sk (a * 6) (b * 6) 0) ≤ (cxL sk (a * 6) (b * 6) 0) ∧ ¬ (cxH sk (a * 6) (b * 6) 1) ≤ (cxL sk (a * 6) (b * 6) 1) ∧ ¬ (cxH sk (a * 6) (b * 6) 2) ≤ (cxL sk (a * 6) (b * 6) 2)) then nI 1 else nI 0)) (fun (_ : Unit) t => va_P g.1 cls [(h, .inr (1, fs)), (ak, eI g 48 (sk)), (ac, eI g 6 (cmF cm (cxL sk (a * 6) (b * 6) 0) (cxH sk (a * 6) (b * 6) 0) (cxL sk (a * 6) (b * 6) 1) (cxH sk (a * 6) (b * 6) 1) (cxL sk (a * 6) (b * 6) 2) (cxH sk (a * 6) (b * 6) 2)))] t.heap ∧ va_D (va_A [(h, .inr (1, fs)), (ak, eI g 48 (sk)), (ac, eI g 6 (cm))] H0.size) [(h, .inr (1, fs)), (ak, eI g 48 (sk)), (ac, eI g 6 (cmF cm (cxL sk (a * 6) (b * 6) 0) (cxH sk (a * 6) (b * 6) 0) (cxL sk (a * 6) (b * 6) 1) (cxH sk (a * 6) (b * 6) 1) (cxL sk (a * 6) (b * 6) 2) (cxH sk (a * 6) (b * 6) 2)))]) (va_A [(h, .inr (1, fs)), (ak, eI g 48 (sk)), (ac, eI g 6 (cm))] H0.size)) 0 0 (va_A [(h, .inr (1, fs)), (ak, eI g 48 (sk)), (ac, eI g 6 (cm))] H0.size) := by
  refine Met.ofW (cc := c_J_findCommon) (maxL := 7) (ret := (some .boolean)) (by decide) rfl ?_
  intro p e s m args below meth c s₁ B hml hv
  obtain ⟨rfl, hH0, ha, hP, hD0, hfs, hfc, ha8, hb8⟩ := hv
  have hx := B.exec
  have hb := B.bytes
  have hr := B.returns
  have htB : ∀ w ∈ tB, w.before _ s = true := fun w h => atoms_spec (ws := w_J_findCommon) B.pre w (List.mem_cons_of_mem _ h)
  have hown : s.vm.findClass "JointSolids" = some m.cls := findClass_of_methodNamed B.named
  have hlocks := B.notSynchronized
  subst hH0
  have hD := hD0.self (sz := s.heap.size)
  have hz := aA_z hD0 ha.2.2.2.2.2
  generalize hAe : va_A [(h, .inr (1, fs)), (ak, eI g 48 (sk)), (ac, eI g 6 (cm))] s.heap.size = A at hD hz ⊢
  have hA : ∀ q : Nat, s.heap.size ≤ q → A q := fun q h => by rw [← hAe]; exact Or.inr h
  have hS : va_S A s.heap s.heap [] := va_S.rf
  refine W.ofH hP hS (fun H locs hP hS => ?_)
  have hl := lv_entry ([.ref h, .int (nI (a)), .int (nI (b))]) (n := 7) (Nat.le_of_ble_eq_true rfl)
  rw [lg_entry_eq]
  generalize (lg_sl ([.ref h, .int (nI (a)), .int (nI (b))]) ++ List.replicate (7 - (lg_sl ([.ref h, .int (nI (a)), .int (nI (b))])).length) Slot.unset).toArray = ls at hl ⊢
  have hl : lv_has ls 7 [(0, .ref h), (1, .int (nI (a))), (2, .int (nI (b)))] := hl
  refine lv_iconst (v := (nI (1))) hx hb d_J_findCommon_0 (by decide) ?_
  refine lv_istore_n (lv' := [(3, .int (nI (1))), (0, .ref h), (1, .int (nI (a))), (2, .int (nI (b)))]) hx hb d_J_findCommon_1 rfl hl (by decide) rfl (fun ls hl => ?_)
  refine lv_iconst (v := (nI (0))) hx hb d_J_findCommon_2 (by decide) ?_
  refine lv_istore (lv' := [(4, .int (nI (0))), (3, .int (nI (1))), (0, .ref h), (1, .int (nI (a))), (2, .int (nI (b)))]) hx hb d_J_findCommon_3 hl (by decide) rfl (fun ls hl => ?_)
  refine lv_iload hx hb d_J_findCommon_5 (lv_at hl 0 rfl) ?_
  refine lv_iconst (v := (nI (3))) hx hb d_J_findCommon_7 (by decide) ?_
  refine jv_icmp_ge (tgt := 122) hx hb (by omega) (by omega) d_J_findCommon_8 (by decide) (fun h => absurd h (by decide)) (fun _ => ?_)
  refine lv_iload hx hb d_J_findCommon_11 (lv_at hl 0 rfl) ?_
  refine lv_istore (lv' := [(5, .int (nI (0))), (4, .int (nI (0))), (3, .int (nI (1))), (0, .ref h), (1, .int (nI (a))), (2, .int (nI (b)))]) hx hb d_J_findCommon_13 hl (by decide) rfl (fun ls hl => ?_)
  refine lv_iload hx hb d_J_findCommon_15 (lv_at hl 1 rfl) ?_
  refine lv_iconst (v := (nI (3))) hx hb d_J_findCommon_17 (by decide) ?_
  refine jv_iadd hx hb d_J_findCommon_18 ?_
  refine lv_istore (lv' := [(6, .int (nI (3))), (5, .int (nI (0))), (4, .int (nI (0))), (3, .int (nI (1))), (0, .ref h), (1, .int (nI (a))), (2, .int (nI (b)))]) hx hb d_J_findCommon_19 hl (by decide) rfl (fun ls hl => ?_)
  refine lv_aload_n hx hb d_J_findCommon_21 rfl (lv_at hl 4 rfl) ?_
  refine va_get (D := g.1) (ci := 1) (v := .ref ac) (C := R_J) (T := F_J) (N := 14) hx hb htB in_J hown ha.1 hP 0 rfl rfl 12 (by decide) (htB _ kw_52) (fun _ h9 => h9) hfc d_J_findCommon_22 ?_
  refine lv_iload hx hb d_J_findCommon_25 (lv_at hl 1 rfl) ?_
  refine lv_aload_n hx hb d_J_findCommon_27 rfl (lv_at hl 4 rfl) ?_
  refine va_get (D := g.1) (ci := 1) (v := .ref ak) (C := R_J) (T := F_J) (N := 14) hx hb htB in_J hown ha.1 hP 0 rfl rfl 2 (by decide) (htB _ kw_42) (fun _ h9 => h9) hfs d_J_findCommon_28 ?_
  refine lv_iload_n hx hb d_J_findCommon_31 rfl (lv_at hl 5 rfl) ?_
  refine lv_bipush (v := (nI (6))) hx hb d_J_findCommon_32 (by decide) ?_
  refine jv_imul hx hb d_J_findCommon_34 ?_
  refine lv_iload hx hb d_J_findCommon_35 (lv_at hl 1 rfl) ?_
  refine jv_iadd hx hb d_J_findCommon_37 ?_
  refine ja_ald (k := (a * 6) + 0) hx hb ha.1 hP 1 0 rfl rfl (by omega) (by omega) d_J_findCommon_38 ?_
  refine lv_aload_n hx hb d_J_findCommon_39 rfl (lv_at hl 4 rfl) ?_
  refine va_get (D := g.1) (ci := 1) (v := .ref ak) (C := R_J) (T := F_J) (N := 14) hx hb htB in_J hown ha.1 hP 0 rfl rfl 2 (by decide) (htB _ kw_42) (fun _ h9 => h9) hfs d_J_findCommon_40 ?_
  refine lv_iload_n hx hb d_J_findCommon_43 rfl (lv_at hl 6 rfl) ?_
  refine lv_bipush (v := (nI (6))) hx hb d_J_findCommon_44 (by decide) ?_
  refine jv_imul hx hb d_J_findCommon_46 ?_
  refine lv_iload hx hb d_J_findCommon_47 (lv_at hl 1 rfl) ?_
  refine jv_iadd hx hb d_J_findCommon_49 ?_
  refine ja_ald (k := (b * 6) + 0) hx hb ha.1 hP 1 0 rfl rfl (by omega) (by omega) d_J_findCommon_50 ?_
  refine va_mmax (own := "JointSolids") hx hb (hml.trans hl.1.symm) hown (htB _ kw_168) (htB _ kw_169) (htB _ kw_4) (htB _ kw_170) (Nat.le_of_ble_eq_true rfl) (Nat.le_of_ble_eq_true rfl) (Nat.le_of_ble_eq_true rfl) (Nat.le_of_ble_eq_true rfl) d_J_findCommon_51 ?_
  refine ja_ast (k := 0) hx hb ha.1 hP hD hS 2 0 rfl rfl (by omega) (by omega) d_J_findCommon_54 (fun H locs hP hD hS => ?_)
  have hP : va_P g.1 cls [(h, .inr (1, fs)), (ak, eI g 48 (sk)), (ac, eI g 6 (upd (cm) (0) (mxI (sk ((a * 6) + 0)) (sk ((b * 6) + 0)))))] H := hP
  have hD : va_D A [(h, .inr (1, fs)), (ak, eI g 48 (sk)), (ac, eI g 6 (upd (cm) (0) (mxI (sk ((a * 6) + 0)) (sk ((b * 6) + 0)))))] := hD
  refine lv_aload_n hx hb d_J_findCommon_55 rfl (lv_at hl 4 rfl) ?_
  refine va_get (D := g.1) (ci := 1) (v := .ref ac) (C := R_J) (T := F_J) (N := 14) hx hb htB in_J hown ha.1 hP 0 rfl rfl 12 (by decide) (htB _ kw_52) (fun _ h9 => h9) hfc d_J_findCommon_56 ?_
  refine lv_iload hx hb d_J_findCommon_59 (lv_at hl 0 rfl) ?_
  refine lv_aload_n hx hb d_J_findCommon_61 rfl (lv_at hl 4 rfl) ?_
  refine va_get (D := g.1) (ci := 1) (v := .ref ak) (C := R_J) (T := F_J) (N := 14) hx hb htB in_J hown ha.1 hP 0 rfl rfl 2 (by decide) (htB _ kw_42) (fun _ h9 => h9) hfs d_J_findCommon_62 ?_
  refine lv_iload_n hx hb d_J_findCommon_65 rfl (lv_at hl 5 rfl) ?_
  refine lv_bipush (v := (nI (6))) hx hb d_J_findCommon_66 (by decide) ?_
  refine jv_imul hx hb d_J_findCommon_68 ?_
  refine lv_iload hx hb d_J_findCommon_69 (lv_at hl 0 rfl) ?_
  refine jv_iadd hx hb d_J_findCommon_71 ?_
  refine ja_ald (k := (a * 6) + 3) hx hb ha.1 hP 1 0 rfl rfl (by omega) (by omega) d_J_findCommon_72 ?_
  refine lv_aload_n hx hb d_J_findCommon_73 rfl (lv_at hl 4 rfl) ?_
  refine va_get (D := g.1) (ci := 1) (v := .ref ak) (C := R_J) (T := F_J) (N := 14) hx hb htB in_J hown ha.1 hP 0 rfl rfl 2 (by decide) (htB _ kw_42) (fun _ h9 => h9) hfs d_J_findCommon_74 ?_
  refine lv_iload_n hx hb d_J_findCommon_77 rfl (lv_at hl 6 rfl) ?_
  refine lv_bipush (v := (nI (6))) hx hb d_J_findCommon_78 (by decide) ?_
  refine jv_imul hx hb d_J_findCommon_80 ?_
  refine lv_iload hx hb d_J_findCommon_81 (lv_at hl 0 rfl) ?_
  refine jv_iadd hx hb d_J_findCommon_83 ?_
  refine ja_ald (k := (b * 6) + 3) hx hb ha.1 hP 1 0 rfl rfl (by omega) (by omega) d_J_findCommon_84 ?_
  refine va_mmin (own := "JointSolids") hx hb (hml.trans hl.1.symm) hown (htB _ kw_171) (htB _ kw_172) (htB _ kw_4) (htB _ kw_173) (Nat.le_of_ble_eq_true rfl) (Nat.le_of_ble_eq_true rfl) (Nat.le_of_ble_eq_true rfl) (Nat.le_of_ble_eq_true rfl) d_J_findCommon_85 ?_
  refine ja_ast (k := 3) hx hb ha.1 hP hD hS 2 0 rfl rfl (by omega) (by omega) d_J_findCommon_88 (fun H locs hP hD hS => ?_)
  have hP : va_P g.1 cls [(h, .inr (1, fs)), (ak, eI g 48 (sk)), (ac, eI g 6 (upd (upd (cm) (0) (mxI (sk ((a * 6) + 0)) (sk ((b * 6) + 0)))) (3) (mnI (sk ((a * 6) + 3)) (sk ((b * 6) + 3)))))] H := hP
  have hD : va_D A [(h, .inr (1, fs)), (ak, eI g 48 (sk)), (ac, eI g 6 (upd (upd (cm) (0) (mxI (sk ((a * 6) + 0)) (sk ((b * 6) + 0)))) (3) (mnI (sk ((a * 6) + 3)) (sk ((b * 6) + 3)))))] := hD
  refine lv_iload_n hx hb d_J_findCommon_89 rfl (lv_at hl 3 rfl) ?_
  refine lv_if_eq (tgt := 114) hx hb d_J_findCommon_90 (by decide) (fun h => absurd h (by decide)) (fun _ => ?_)
  refine lv_aload_n hx hb d_J_findCommon_93 rfl (lv_at hl 4 rfl) ?_
  refine va_get (D := g.1) (ci := 1) (v := .ref ac) (C := R_J) (T := F_J) (N := 14) hx hb htB in_J hown ha.1 hP 0 rfl rfl 12 (by decide) (htB _ kw_52) (fun _ h9 => h9) hfc d_J_findCommon_94 ?_
  refine lv_iload hx hb d_J_findCommon_97 (lv_at hl 1 rfl) ?_
  refine ja_ald (k := 0) hx hb ha.1 hP 2 0 rfl rfl (by omega) (by omega) d_J_findCommon_99 ?_
  rw [show (upd (upd (cm) (0) (mxI (sk ((a * 6) + 0)) (sk ((b * 6) + 0)))) (3) (mnI (sk ((a * 6) + 3)) (sk ((b * 6) + 3)))) (0) = (mxI (sk ((a * 6) + 0)) (sk ((b * 6) + 0))) from rfl]
  refine lv_aload_n hx hb d_J_findCommon_100 rfl (lv_at hl 4 rfl) ?_
  refine va_get (D := g.1) (ci := 1) (v := .ref ac) (C := R_J) (T := F_J) (N := 14) hx hb htB in_J hown ha.1 hP 0 rfl rfl 12 (by decide) (htB _ kw_52) (fun _ h9 => h9) hfc d_J_findCommon_101 ?_
  refine lv_iload hx hb d_J_findCommon_104 (lv_at hl 0 rfl) ?_
  refine ja_ald (k := 3) hx hb ha.1 hP 2 0 rfl rfl (by omega) (by omega) d_J_findCommon_106 ?_
  rw [show (upd (upd (cm) (0) (mxI (sk ((a * 6) + 0)) (sk ((b * 6) + 0)))) (3) (mnI (sk ((a * 6) + 3)) (sk ((b * 6) + 3)))) (3) = (mnI (sk ((a * 6) + 3)) (sk ((b * 6) + 3))) from rfl]
  refine lv_icmp_ge (tgt := 114) hx hb d_J_findCommon_107 (by decide) (fun c_2 => ?_) (fun c_2 => ?_)
  · refine lv_iconst (v := (nI (0))) hx hb d_J_findCommon_114 (by decide) ?_
    refine lv_istore_n (lv' := [(3, .int (nI (0))), (6, .int (nI (3))), (5, .int (nI (0))), (4, .int (nI (0))), (0, .ref h), (1, .int (nI (a))), (2, .int (nI (b)))]) hx hb d_J_findCommon_115 rfl hl (by decide) rfl (fun ls hl => ?_)
    refine lv_iinc (v := nI (1)) (lv' := [(4, .int (nI (1))), (3, .int (nI (0))), (6, .int (nI (3))), (5, .int (nI (0))), (0, .ref h), (1, .int (nI (a))), (2, .int (nI (b)))]) hx hb d_J_findCommon_116 hl (k := 3) rfl (nI_add _ 1) (by decide) rfl (fun ls hl => ?_)
    refine lv_goto (tgt := 5) hx hb d_J_findCommon_119 (by decide) ?_
    refine lv_iload hx hb d_J_findCommon_5 (lv_at hl 0 rfl) ?_
    refine lv_iconst (v := (nI (3))) hx hb d_J_findCommon_7 (by decide) ?_
    refine jv_icmp_ge (tgt := 122) hx hb (by omega) (by omega) d_J_findCommon_8 (by decide) (fun h => absurd h (by decide)) (fun _ => ?_)
    refine lv_iload hx hb d_J_findCommon_11 (lv_at hl 0 rfl) ?_
    refine lv_istore (lv' := [(5, .int (nI (1))), (4, .int (nI (1))), (3, .int (nI (0))), (6, .int (nI (3))), (0, .ref h), (1, .int (nI (a))), (2, .int (nI (b)))]) hx hb d_J_findCommon_13 hl (by decide) rfl (fun ls hl => ?_)
    refine lv_iload hx hb d_J_findCommon_15 (lv_at hl 1 rfl) ?_
    refine lv_iconst (v := (nI (3))) hx hb d_J_findCommon_17 (by decide) ?_
    refine jv_iadd hx hb d_J_findCommon_18 ?_
    refine lv_istore (lv' := [(6, .int (nI (4))), (5, .int (nI (1))), (4, .int (nI (1))), (3, .int (nI (0))), (0, .ref h), (1, .int (nI (a))), (2, .int (nI (b)))]) hx hb d_J_findCommon_19 hl (by decide) rfl (fun ls hl => ?_)
    refine lv_aload_n hx hb d_J_findCommon_21 rfl (lv_at hl 4 rfl) ?_
    refine va_get (D := g.1) (ci := 1) (v := .ref ac) (C := R_J) (T := F_J) (N := 14) hx hb htB in_J hown ha.1 hP 0 rfl rfl 12 (by decide) (htB _ kw_52) (fun _ h9 => h9) hfc d_J_findCommon_22 ?_
    refine lv_iload hx hb d_J_findCommon_25 (lv_at hl 1 rfl) ?_
    refine lv_aload_n hx hb d_J_findCommon_27 rfl (lv_at hl 4 rfl) ?_
    refine va_get (D := g.1) (ci := 1) (v := .ref ak) (C := R_J) (T := F_J) (N := 14) hx hb htB in_J hown ha.1 hP 0 rfl rfl 2 (by decide) (htB _ kw_42) (fun _ h9 => h9) hfs d_J_findCommon_28 ?_
    refine lv_iload_n hx hb d_J_findCommon_31 rfl (lv_at hl 5 rfl) ?_
    refine lv_bipush (v := (nI (6))) hx hb d_J_findCommon_32 (by decide) ?_
    refine jv_imul hx hb d_J_findCommon_34 ?_
    refine lv_iload hx hb d_J_findCommon_35 (lv_at hl 1 rfl) ?_
    refine jv_iadd hx hb d_J_findCommon_37 ?_
    refine ja_ald (k := (a * 6) + 1) hx hb ha.1 hP 1 0 rfl rfl (by omega) (by omega) d_J_findCommon_38 ?_
    refine lv_aload_n hx hb d_J_findCommon_39 rfl (lv_at hl 4 rfl) ?_
    refine va_get (D := g.1) (ci := 1) (v := .ref ak) (C := R_J) (T := F_J) (N := 14) hx hb htB in_J hown ha.1 hP 0 rfl rfl 2 (by decide) (htB _ kw_42) (fun _ h9 => h9) hfs d_J_findCommon_40 ?_
    refine lv_iload_n hx hb d_J_findCommon_43 rfl (lv_at hl 6 rfl) ?_
    refine lv_bipush (v := (nI (6))) hx hb d_J_findCommon_44 (by decide) ?_
    refine jv_imul hx hb d_J_findCommon_46 ?_
    refine lv_iload hx hb d_J_findCommon_47 (lv_at hl 1 rfl) ?_
    refine jv_iadd hx hb d_J_findCommon_49 ?_
    refine ja_ald (k := (b * 6) + 1) hx hb ha.1 hP 1 0 rfl rfl (by omega) (by omega) d_J_findCommon_50 ?_
    refine va_mmax (own := "JointSolids") hx hb (hml.trans hl.1.symm) hown (htB _ kw_168) (htB _ kw_169) (htB _ kw_4) (htB _ kw_170) (Nat.le_of_ble_eq_true rfl) (Nat.le_of_ble_eq_true rfl) (Nat.le_of_ble_eq_true rfl) (Nat.le_of_ble_eq_true rfl) d_J_findCommon_51 ?_
    refine ja_ast (k := 1) hx hb ha.1 hP hD hS 2 0 rfl rfl (by omega) (by omega) d_J_findCommon_54 (fun H locs hP hD hS => ?_)
    have hP : va_P g.1 cls [(h, .inr (1, fs)), (ak, eI g 48 (sk)), (ac, eI g 6 (upd (upd (upd (cm) (0) (mxI (sk ((a * 6) + 0)) (sk ((b * 6) + 0)))) (3) (mnI (sk ((a * 6) + 3)) (sk ((b * 6) + 3)))) (1) (mxI (sk ((a * 6) + 1)) (sk ((b * 6) + 1)))))] H := hP
    have hD : va_D A [(h, .inr (1, fs)), (ak, eI g 48 (sk)), (ac, eI g 6 (upd (upd (upd (cm) (0) (mxI (sk ((a * 6) + 0)) (sk ((b * 6) + 0)))) (3) (mnI (sk ((a * 6) + 3)) (sk ((b * 6) + 3)))) (1) (mxI (sk ((a * 6) + 1)) (sk ((b * 6) + 1)))))] := hD
    refine lv_aload_n hx hb d_J_findCommon_55 rfl (lv_at hl 4 rfl) ?_
    refine va_get (D := g.1) (ci := 1) (v := .ref ac) (C := R_J) (T := F_J) (N := 14) hx hb htB in_J hown ha.1 hP 0 rfl rfl 12 (by decide) (htB _ kw_52) (fun _ h9 => h9) hfc d_J_findCommon_56 ?_
    refine lv_iload hx hb d_J_findCommon_59 (lv_at hl 0 rfl) ?_
    refine lv_aload_n hx hb d_J_findCommon_61 rfl (lv_at hl 4 rfl) ?_
    refine va_get (D := g.1) (ci := 1) (v := .ref ak) (C := R_J) (T := F_J) (N := 14) hx hb htB in_J hown ha.1 hP 0 rfl rfl 2 (by decide) (htB _ kw_42) (fun _ h9 => h9) hfs d_J_findCommon_62 ?_
    refine lv_iload_n hx hb d_J_findCommon_65 rfl (lv_at hl 5 rfl) ?_
    refine lv_bipush (v := (nI (6))) hx hb d_J_findCommon_66 (by decide) ?_
    refine jv_imul hx hb d_J_findCommon_68 ?_
    refine lv_iload hx hb d_J_findCommon_69 (lv_at hl 0 rfl) ?_
    refine jv_iadd hx hb d_J_findCommon_71 ?_
    refine ja_ald (k := (a * 6) + 4) hx hb ha.1 hP 1 0 rfl rfl (by omega) (by omega) d_J_findCommon_72 ?_
    refine lv_aload_n hx hb d_J_findCommon_73 rfl (lv_at hl 4 rfl) ?_
    refine va_get (D := g.1) (ci := 1) (v := .ref ak) (C := R_J) (T := F_J) (N := 14) hx hb htB in_J hown ha.1 hP 0 rfl rfl 2 (by decide) (htB _ kw_42) (fun _ h9 => h9) hfs d_J_findCommon_74 ?_
    refine lv_iload_n hx hb d_J_findCommon_77 rfl (lv_at hl 6 rfl) ?_
    refine lv_bipush (v := (nI (6))) hx hb d_J_findCommon_78 (by decide) ?_
    refine jv_imul hx hb d_J_findCommon_80 ?_
    refine lv_iload hx hb d_J_findCommon_81 (lv_at hl 0 rfl) ?_
    refine jv_iadd hx hb d_J_findCommon_83 ?_
    refine ja_ald (k := (b * 6) + 4) hx hb ha.1 hP 1 0 rfl rfl (by omega) (by omega) d_J_findCommon_84 ?_
    refine va_mmin (own := "JointSolids") hx hb (hml.trans hl.1.symm) hown (htB _ kw_171) (htB _ kw_172) (htB _ kw_4) (htB _ kw_173) (Nat.le_of_ble_eq_true rfl) (Nat.le_of_ble_eq_true rfl) (Nat.le_of_ble_eq_true rfl) (Nat.le_of_ble_eq_true rfl) d_J_findCommon_85 ?_
    refine ja_ast (k := 4) hx hb ha.1 hP hD hS 2 0 rfl rfl (by omega) (by omega) d_J_findCommon_88 (fun H locs hP hD hS => ?_)
    have hP : va_P g.1 cls [(h, .inr (1, fs)), (ak, eI g 48 (sk)), (ac, eI g 6 (upd (upd (upd (upd (cm) (0) (mxI (sk ((a * 6) + 0)) (sk ((b * 6) + 0)))) (3) (mnI (sk ((a * 6) + 3)) (sk ((b * 6) + 3)))) (1) (mxI (sk ((a * 6) + 1)) (sk ((b * 6) + 1)))) (4) (mnI (sk ((a * 6) + 4)) (sk ((b * 6) + 4)))))] H := hP
    have hD : va_D A [(h, .inr (1, fs)), (ak, eI g 48 (sk)), (ac, eI g 6 (upd (upd (upd (upd (cm) (0) (mxI (sk ((a * 6) + 0)) (sk ((b * 6) + 0)))) (3) (mnI (sk ((a * 6) + 3)) (sk ((b * 6) + 3)))) (1) (mxI (sk ((a * 6) + 1)) (sk ((b * 6) + 1)))) (4) (mnI (sk ((a * 6) + 4)) (sk ((b * 6) + 4)))))] := hD
    refine lv_iload_n hx hb d_J_findCommon_89 rfl (lv_at hl 3 rfl) ?_
    refine lv_if_eq (tgt := 114) hx hb d_J_findCommon_90 (by decide) (fun _ => ?_) (fun h => absurd h (by decide))
    refine lv_iconst (v := (nI (0))) hx hb d_J_findCommon_114 (by decide) ?_
    refine lv_istore_n (lv' := [(3, .int (nI (0))), (6, .int (nI (4))), (5, .int (nI (1))), (4, .int (nI (1))), (0, .ref h), (1, .int (nI (a))), (2, .int (nI (b)))]) hx hb d_J_findCommon_115 rfl hl (by decide) rfl (fun ls hl => ?_)
    refine lv_iinc (v := nI (2)) (lv' := [(4, .int (nI (2))), (3, .int (nI (0))), (6, .int (nI (4))), (5, .int (nI (1))), (0, .ref h), (1, .int (nI (a))), (2, .int (nI (b)))]) hx hb d_J_findCommon_116 hl (k := 3) rfl (nI_add _ 1) (by decide) rfl (fun ls hl => ?_)
    refine lv_goto (tgt := 5) hx hb d_J_findCommon_119 (by decide) ?_
    refine lv_iload hx hb d_J_findCommon_5 (lv_at hl 0 rfl) ?_
    refine lv_iconst (v := (nI (3))) hx hb d_J_findCommon_7 (by decide) ?_
    refine jv_icmp_ge (tgt := 122) hx hb (by omega) (by omega) d_J_findCommon_8 (by decide) (fun h => absurd h (by decide)) (fun _ => ?_)
    refine lv_iload hx hb d_J_findCommon_11 (lv_at hl 0 rfl) ?_
    refine lv_istore (lv' := [(5, .int (nI (2))), (4, .int (nI (2))), (3, .int (nI (0))), (6, .int (nI (4))), (0, .ref h), (1, .int (nI (a))), (2, .int (nI (b)))]) hx hb d_J_findCommon_13 hl (by decide) rfl (fun ls hl => ?_)
    refine lv_iload hx hb d_J_findCommon_15 (lv_at hl 1 rfl) ?_
    refine lv_iconst (v := (nI (3))) hx hb d_J_findCommon_17 (by decide) ?_
    refine jv_iadd hx hb d_J_findCommon_18 ?_
    refine lv_istore (lv' := [(6, .int (nI (5))), (5, .int (nI (2))), (4, .int (nI (2))), (3, .int (nI (0))), (0, .ref h), (1, .int (nI (a))), (2, .int (nI (b)))]) hx hb d_J_findCommon_19 hl (by decide) rfl (fun ls hl => ?_)
    refine lv_aload_n hx hb d_J_findCommon_21 rfl (lv_at hl 4 rfl) ?_
    refine va_get (D := g.1) (ci := 1) (v := .ref ac) (C := R_J) (T := F_J) (N := 14) hx hb htB in_J hown ha.1 hP 0 rfl rfl 12 (by decide) (htB _ kw_52) (fun _ h9 => h9) hfc d_J_findCommon_22 ?_
    refine lv_iload hx hb d_J_findCommon_25 (lv_at hl 1 rfl) ?_
    refine lv_aload_n hx hb d_J_findCommon_27 rfl (lv_at hl 4 rfl) ?_
    refine va_get (D := g.1) (ci := 1) (v := .ref ak) (C := R_J) (T := F_J) (N := 14) hx hb htB in_J hown ha.1 hP 0 rfl rfl 2 (by decide) (htB _ kw_42) (fun _ h9 => h9) hfs d_J_findCommon_28 ?_
    refine lv_iload_n hx hb d_J_findCommon_31 rfl (lv_at hl 5 rfl) ?_
    refine lv_bipush (v := (nI (6))) hx hb d_J_findCommon_32 (by decide) ?_
    refine jv_imul hx hb d_J_findCommon_34 ?_
    refine lv_iload hx hb d_J_findCommon_35 (lv_at hl 1 rfl) ?_
    refine jv_iadd hx hb d_J_findCommon_37 ?_
    refine ja_ald (k := (a * 6) + 2) hx hb ha.1 hP 1 0 rfl rfl (by omega) (by omega) d_J_findCommon_38 ?_
    refine lv_aload_n hx hb d_J_findCommon_39 rfl (lv_at hl 4 rfl) ?_
    refine va_get (D := g.1) (ci := 1) (v := .ref ak) (C := R_J) (T := F_J) (N := 14) hx hb htB in_J hown ha.1 hP 0 rfl rfl 2 (by decide) (htB _ kw_42) (fun _ h9 => h9) hfs d_J_findCommon_40 ?_
    refine lv_iload_n hx hb d_J_findCommon_43 rfl (lv_at hl 6 rfl) ?_
    refine lv_bipush (v := (nI (6))) hx hb d_J_findCommon_44 (by decide) ?_
    refine jv_imul hx hb d_J_findCommon_46 ?_
    refine lv_iload hx hb d_J_findCommon_47 (lv_at hl 1 rfl) ?_
    refine jv_iadd hx hb d_J_findCommon_49 ?_
    refine ja_ald (k := (b * 6) + 2) hx hb ha.1 hP 1 0 rfl rfl (by omega) (by omega) d_J_findCommon_50 ?_
    refine va_mmax (own := "JointSolids") hx hb (hml.trans hl.1.symm) hown (htB _ kw_168) (htB _ kw_169) (htB _ kw_4) (htB _ kw_170) (Nat.le_of_ble_eq_true rfl) (Nat.le_of_ble_eq_true rfl) (Nat.le_of_ble_eq_true rfl) (Nat.le_of_ble_eq_true rfl) d_J_findCommon_51 ?_
    refine ja_ast (k := 2) hx hb ha.1 hP hD hS 2 0 rfl rfl (by omega) (by omega) d_J_findCommon_54 (fun H locs hP hD hS => ?_)
    have hP : va_P g.1 cls [(h, .inr (1, fs)), (ak, eI g 48 (sk)), (ac, eI g 6 (upd (upd (upd (upd (upd (cm) (0) (mxI (sk ((a * 6) + 0)) (sk ((b * 6) + 0)))) (3) (mnI (sk ((a * 6) + 3)) (sk ((b * 6) + 3)))) (1) (mxI (sk ((a * 6) + 1)) (sk ((b * 6) + 1)))) (4) (mnI (sk ((a * 6) + 4)) (sk ((b * 6) + 4)))) (2) (mxI (sk ((a * 6) + 2)) (sk ((b * 6) + 2)))))] H := hP
    have hD : va_D A [(h, .inr (1, fs)), (ak, eI g 48 (sk)), (ac, eI g 6 (upd (upd (upd (upd (upd (cm) (0) (mxI (sk ((a * 6) + 0)) (sk ((b * 6) + 0)))) (3) (mnI (sk ((a * 6) + 3)) (sk ((b * 6) + 3)))) (1) (mxI (sk ((a * 6) + 1)) (sk ((b * 6) + 1)))) (4) (mnI (sk ((a * 6) + 4)) (sk ((b * 6) + 4)))) (2) (mxI (sk ((a * 6) + 2)) (sk ((b * 6) + 2)))))] := hD
    refine lv_aload_n hx hb d_J_findCommon_55 rfl (lv_at hl 4 rfl) ?_
    refine va_get (D := g.1) (ci := 1) (v := .ref ac) (C := R_J) (T := F_J) (N := 14) hx hb htB in_J hown ha.1 hP 0 rfl rfl 12 (by decide) (htB _ kw_52) (fun _ h9 => h9) hfc d_J_findCommon_56 ?_
    refine lv_iload hx hb d_J_findCommon_59 (lv_at hl 0 rfl) ?_
    refine lv_aload_n hx hb d_J_findCommon_61 rfl (lv_at hl 4 rfl) ?_
    refine va_get (D := g.1) (ci := 1) (v := .ref ak) (C := R_J) (T := F_J) (N := 14) hx hb htB in_J hown ha.1 hP 0 rfl rfl 2 (by decide) (htB _ kw_42) (fun _ h9 => h9) hfs d_J_findCommon_62 ?_
    refine lv_iload_n hx hb d_J_findCommon_65 rfl (lv_at hl 5 rfl) ?_
    refine lv_bipush (v := (nI (6))) hx hb d_J_findCommon_66 (by decide) ?_
    refine jv_imul hx hb d_J_findCommon_68 ?_
    refine lv_iload hx hb d_J_findCommon_69 (lv_at hl 0 rfl) ?_
    refine jv_iadd hx hb d_J_findCommon_71 ?_
    refine ja_ald (k := (a * 6) + 5) hx hb ha.1 hP 1 0 rfl rfl (by omega) (by omega) d_J_findCommon_72 ?_
    refine lv_aload_n hx hb d_J_findCommon_73 rfl (lv_at hl 4 rfl) ?_
    refine va_get (D := g.1) (ci := 1) (v := .ref ak) (C := R_J) (T := F_J) (N := 14) hx hb htB in_J hown ha.1 hP 0 rfl rfl 2 (by decide) (htB _ kw_42) (fun _ h9 => h9) hfs d_J_findCommon_74 ?_
    refine lv_iload_n hx hb d_J_findCommon_77 rfl (lv_at hl 6 rfl) ?_
    refine lv_bipush (v := (nI (6))) hx hb d_J_findCommon_78 (by decide) ?_
    refine jv_imul hx hb d_J_findCommon_80 ?_
    refine lv_iload hx hb d_J_findCommon_81 (lv_at hl 0 rfl) ?_
    refine jv_iadd hx hb d_J_findCommon_83 ?_
    refine ja_ald (k := (b * 6) + 5) hx hb ha.1 hP 1 0 rfl rfl (by omega) (by omega) d_J_findCommon_84 ?_
    refine va_mmin (own := "JointSolids") hx hb (hml.trans hl.1.symm) hown (htB _ kw_171) (htB _ kw_172) (htB _ kw_4) (htB _ kw_173) (Nat.le_of_ble_eq_true rfl) (Nat.le_of_ble_eq_true rfl) (Nat.le_of_ble_eq_true rfl) (Nat.le_of_ble_eq_true rfl) d_J_findCommon_85 ?_
    refine ja_ast (k := 5) hx hb ha.1 hP hD hS 2 0 rfl rfl (by omega) (by omega) d_J_findCommon_88 (fun H locs hP hD hS => ?_)
    have hP : va_P g.1 cls [(h, .inr (1, fs)), (ak, eI g 48 (sk)), (ac, eI g 6 (upd (upd (upd (upd (upd (upd (cm) (0) (mxI (sk ((a * 6) + 0)) (sk ((b * 6) + 0)))) (3) (mnI (sk ((a * 6) + 3)) (sk ((b * 6) + 3)))) (1) (mxI (sk ((a * 6) + 1)) (sk ((b * 6) + 1)))) (4) (mnI (sk ((a * 6) + 4)) (sk ((b * 6) + 4)))) (2) (mxI (sk ((a * 6) + 2)) (sk ((b * 6) + 2)))) (5) (mnI (sk ((a * 6) + 5)) (sk ((b * 6) + 5)))))] H := hP
    have hD : va_D A [(h, .inr (1, fs)), (ak, eI g 48 (sk)), (ac, eI g 6 (upd (upd (upd (upd (upd (upd (cm) (0) (mxI (sk ((a * 6) + 0)) (sk ((b * 6) + 0)))) (3) (mnI (sk ((a * 6) + 3)) (sk ((b * 6) + 3)))) (1) (mxI (sk ((a * 6) + 1)) (sk ((b * 6) + 1)))) (4) (mnI (sk ((a * 6) + 4)) (sk ((b * 6) + 4)))) (2) (mxI (sk ((a * 6) + 2)) (sk ((b * 6) + 2)))) (5) (mnI (sk ((a * 6) + 5)) (sk ((b * 6) + 5)))))] := hD
    refine lv_iload_n hx hb d_J_findCommon_89 rfl (lv_at hl 3 rfl) ?_
    refine lv_if_eq (tgt := 114) hx hb d_J_findCommon_90 (by decide) (fun _ => ?_) (fun h => absurd h (by decide))
    refine lv_iconst (v := (nI (0))) hx hb d_J_findCommon_114 (by decide) ?_
    refine lv_istore_n (lv' := [(3, .int (nI (0))), (6, .int (nI (5))), (5, .int (nI (2))), (4, .int (nI (2))), (0, .ref h), (1, .int (nI (a))), (2, .int (nI (b)))]) hx hb d_J_findCommon_115 rfl hl (by decide) rfl (fun ls hl => ?_)
    refine lv_iinc (v := nI (3)) (lv' := [(4, .int (nI (3))), (3, .int (nI (0))), (6, .int (nI (5))), (5, .int (nI (2))), (0, .ref h), (1, .int (nI (a))), (2, .int (nI (b)))]) hx hb d_J_findCommon_116 hl (k := 3) rfl (nI_add _ 1) (by decide) rfl (fun ls hl => ?_)
    refine lv_goto (tgt := 5) hx hb d_J_findCommon_119 (by decide) ?_
    refine lv_iload hx hb d_J_findCommon_5 (lv_at hl 0 rfl) ?_
    refine lv_iconst (v := (nI (3))) hx hb d_J_findCommon_7 (by decide) ?_
    refine jv_icmp_ge (tgt := 122) hx hb (by omega) (by omega) d_J_findCommon_8 (by decide) (fun _ => ?_) (fun h => absurd h (by decide))
    refine lv_iload_n hx hb d_J_findCommon_122 rfl (lv_at hl 1 rfl) ?_
    have hP9 := hP.sub (ws' := [(h, .inr (1, fs)), (ak, eI g 48 (sk)), (ac, eI g 6 (upd (upd (upd (upd (upd (upd (cm) (0) (mxI (sk ((a * 6) + 0)) (sk ((b * 6) + 0)))) (3) (mnI (sk ((a * 6) + 3)) (sk ((b * 6) + 3)))) (1) (mxI (sk ((a * 6) + 1)) (sk ((b * 6) + 1)))) (4) (mnI (sk ((a * 6) + 4)) (sk ((b * 6) + 4)))) (2) (mxI (sk ((a * 6) + 2)) (sk ((b * 6) + 2)))) (5) (mnI (sk ((a * 6) + 5)) (sk ((b * 6) + 5)))))]) [0, 1, 2] rfl
    have hD9 := hD.sub (ws' := [(h, .inr (1, fs)), (ak, eI g 48 (sk)), (ac, eI g 6 (upd (upd (upd (upd (upd (upd (cm) (0) (mxI (sk ((a * 6) + 0)) (sk ((b * 6) + 0)))) (3) (mnI (sk ((a * 6) + 3)) (sk ((b * 6) + 3)))) (1) (mxI (sk ((a * 6) + 1)) (sk ((b * 6) + 1)))) (4) (mnI (sk ((a * 6) + 4)) (sk ((b * 6) + 4)))) (2) (mxI (sk ((a * 6) + 2)) (sk ((b * 6) + 2)))) (5) (mnI (sk ((a * 6) + 5)) (sk ((b * 6) + 5)))))]) [0, 1, 2] (by decide) rfl
    exact (W.widen (k := 0) (n := 0) (Nat.le_of_ble_eq_true rfl) (Nat.le_of_ble_eq_true rfl) (W.zret (v := (nI (0))) hx hb hr (by decide) (fun t ht hW => ⟨⟨(nI (0)), (), rfl, (if_neg (fun q => q.1 c_2)).symm, by rw [ht]; exact hP9, hD9.re [h, ak, ac] rfl rfl⟩, hS.F ht⟩) hS.2.2 d_J_findCommon_123))
  · refine lv_iconst (v := (nI (1))) hx hb d_J_findCommon_110 (by decide) ?_
    refine lv_goto (tgt := 115) hx hb d_J_findCommon_111 (by decide) ?_
    refine lv_istore_n (lv' := [(3, .int (nI (1))), (6, .int (nI (3))), (5, .int (nI (0))), (4, .int (nI (0))), (0, .ref h), (1, .int (nI (a))), (2, .int (nI (b)))]) hx hb d_J_findCommon_115 rfl hl (by decide) rfl (fun ls hl => ?_)
    refine lv_iinc (v := nI (1)) (lv' := [(4, .int (nI (1))), (3, .int (nI (1))), (6, .int (nI (3))), (5, .int (nI (0))), (0, .ref h), (1, .int (nI (a))), (2, .int (nI (b)))]) hx hb d_J_findCommon_116 hl (k := 3) rfl (nI_add _ 1) (by decide) rfl (fun ls hl => ?_)
    refine lv_goto (tgt := 5) hx hb d_J_findCommon_119 (by decide) ?_
    refine lv_iload hx hb d_J_findCommon_5 (lv_at hl 0 rfl) ?_
    refine lv_iconst (v := (nI (3))) hx hb d_J_findCommon_7 (by decide) ?_
    refine jv_icmp_ge (tgt := 122) hx hb (by omega) (by omega) d_J_findCommon_8 (by decide) (fun h => absurd h (by decide)) (fun _ => ?_)
    refine lv_iload hx hb d_J_findCommon_11 (lv_at hl 0 rfl) ?_
    refine lv_istore (lv' := [(5, .int (nI (1))), (4, .int (nI (1))), (3, .int (nI (1))), (6, .int (nI (3))), (0, .ref h), (1, .int (nI (a))), (2, .int (nI (b)))]) hx hb d_J_findCommon_13 hl (by decide) rfl (fun ls hl => ?_)
    refine lv_iload hx hb d_J_findCommon_15 (lv_at hl 1 rfl) ?_
    refine lv_iconst (v := (nI (3))) hx hb d_J_findCommon_17 (by decide) ?_
    refine jv_iadd hx hb d_J_findCommon_18 ?_
    refine lv_istore (lv' := [(6, .int (nI (4))), (5, .int (nI (1))), (4, .int (nI (1))), (3, .int (nI (1))), (0, .ref h), (1, .int (nI (a))), (2, .int (nI (b)))]) hx hb d_J_findCommon_19 hl (by decide) rfl (fun ls hl => ?_)
    refine lv_aload_n hx hb d_J_findCommon_21 rfl (lv_at hl 4 rfl) ?_
    refine va_get (D := g.1) (ci := 1) (v := .ref ac) (C := R_J) (T := F_J) (N := 14) hx hb htB in_J hown ha.1 hP 0 rfl rfl 12 (by decide) (htB _ kw_52) (fun _ h9 => h9) hfc d_J_findCommon_22 ?_
    refine lv_iload hx hb d_J_findCommon_25 (lv_at hl 1 rfl) ?_
    refine lv_aload_n hx hb d_J_findCommon_27 rfl (lv_at hl 4 rfl) ?_
    refine va_get (D := g.1) (ci := 1) (v := .ref ak) (C := R_J) (T := F_J) (N := 14) hx hb htB in_J hown ha.1 hP 0 rfl rfl 2 (by decide) (htB _ kw_42) (fun _ h9 => h9) hfs d_J_findCommon_28 ?_
    refine lv_iload_n hx hb d_J_findCommon_31 rfl (lv_at hl 5 rfl) ?_
    refine lv_bipush (v := (nI (6))) hx hb d_J_findCommon_32 (by decide) ?_
    refine jv_imul hx hb d_J_findCommon_34 ?_
    refine lv_iload hx hb d_J_findCommon_35 (lv_at hl 1 rfl) ?_
    refine jv_iadd hx hb d_J_findCommon_37 ?_
    refine ja_ald (k := (a * 6) + 1) hx hb ha.1 hP 1 0 rfl rfl (by omega) (by omega) d_J_findCommon_38 ?_
    refine lv_aload_n hx hb d_J_findCommon_39 rfl (lv_at hl 4 rfl) ?_
    refine va_get (D := g.1) (ci := 1) (v := .ref ak) (C := R_J) (T := F_J) (N := 14) hx hb htB in_J hown ha.1 hP 0 rfl rfl 2 (by decide) (htB _ kw_42) (fun _ h9 => h9) hfs d_J_findCommon_40 ?_
    refine lv_iload_n hx hb d_J_findCommon_43 rfl (lv_at hl 6 rfl) ?_
    refine lv_bipush (v := (nI (6))) hx hb d_J_findCommon_44 (by decide) ?_
    refine jv_imul hx hb d_J_findCommon_46 ?_
    refine lv_iload hx hb d_J_findCommon_47 (lv_at hl 1 rfl) ?_
    refine jv_iadd hx hb d_J_findCommon_49 ?_
    refine ja_ald (k := (b * 6) + 1) hx hb ha.1 hP 1 0 rfl rfl (by omega) (by omega) d_J_findCommon_50 ?_
    refine va_mmax (own := "JointSolids") hx hb (hml.trans hl.1.symm) hown (htB _ kw_168) (htB _ kw_169) (htB _ kw_4) (htB _ kw_170) (Nat.le_of_ble_eq_true rfl) (Nat.le_of_ble_eq_true rfl) (Nat.le_of_ble_eq_true rfl) (Nat.le_of_ble_eq_true rfl) d_J_findCommon_51 ?_
    refine ja_ast (k := 1) hx hb ha.1 hP hD hS 2 0 rfl rfl (by omega) (by omega) d_J_findCommon_54 (fun H locs hP hD hS => ?_)
    have hP : va_P g.1 cls [(h, .inr (1, fs)), (ak, eI g 48 (sk)), (ac, eI g 6 (upd (upd (upd (cm) (0) (mxI (sk ((a * 6) + 0)) (sk ((b * 6) + 0)))) (3) (mnI (sk ((a * 6) + 3)) (sk ((b * 6) + 3)))) (1) (mxI (sk ((a * 6) + 1)) (sk ((b * 6) + 1)))))] H := hP
    have hD : va_D A [(h, .inr (1, fs)), (ak, eI g 48 (sk)), (ac, eI g 6 (upd (upd (upd (cm) (0) (mxI (sk ((a * 6) + 0)) (sk ((b * 6) + 0)))) (3) (mnI (sk ((a * 6) + 3)) (sk ((b * 6) + 3)))) (1) (mxI (sk ((a * 6) + 1)) (sk ((b * 6) + 1)))))] := hD
    refine lv_aload_n hx hb d_J_findCommon_55 rfl (lv_at hl 4 rfl) ?_
    refine va_get (D := g.1) (ci := 1) (v := .ref ac) (C := R_J) (T := F_J) (N := 14) hx hb htB in_J hown ha.1 hP 0 rfl rfl 12 (by decide) (htB _ kw_52) (fun _ h9 => h9) hfc d_J_findCommon_56 ?_
    refine lv_iload hx hb d_J_findCommon_59 (lv_at hl 0 rfl) ?_
    refine lv_aload_n hx hb d_J_findCommon_61 rfl (lv_at hl 4 rfl) ?_
    refine va_get (D := g.1) (ci := 1) (v := .ref ak) (C := R_J) (T := F_J) (N := 14) hx hb htB in_J hown ha.1 hP 0 rfl rfl 2 (by decide) (htB _ kw_42) (fun _ h9 => h9) hfs d_J_findCommon_62 ?_
    refine lv_iload_n hx hb d_J_findCommon_65 rfl (lv_at hl 5 rfl) ?_
    refine lv_bipush (v := (nI (6))) hx hb d_J_findCommon_66 (by decide) ?_
    refine jv_imul hx hb d_J_findCommon_68 ?_
    refine lv_iload hx hb d_J_findCommon_69 (lv_at hl 0 rfl) ?_
    refine jv_iadd hx hb d_J_findCommon_71 ?_
    refine ja_ald (k := (a * 6) + 4) hx hb ha.1 hP 1 0 rfl rfl (by omega) (by omega) d_J_findCommon_72 ?_
    refine lv_aload_n hx hb d_J_findCommon_73 rfl (lv_at hl 4 rfl) ?_
    refine va_get (D := g.1) (ci := 1) (v := .ref ak) (C := R_J) (T := F_J) (N := 14) hx hb htB in_J hown ha.1 hP 0 rfl rfl 2 (by decide) (htB _ kw_42) (fun _ h9 => h9) hfs d_J_findCommon_74 ?_
    refine lv_iload_n hx hb d_J_findCommon_77 rfl (lv_at hl 6 rfl) ?_
    refine lv_bipush (v := (nI (6))) hx hb d_J_findCommon_78 (by decide) ?_
    refine jv_imul hx hb d_J_findCommon_80 ?_
    refine lv_iload hx hb d_J_findCommon_81 (lv_at hl 0 rfl) ?_
    refine jv_iadd hx hb d_J_findCommon_83 ?_
    refine ja_ald (k := (b * 6) + 4) hx hb ha.1 hP 1 0 rfl rfl (by omega) (by omega) d_J_findCommon_84 ?_
    refine va_mmin (own := "JointSolids") hx hb (hml.trans hl.1.symm) hown (htB _ kw_171) (htB _ kw_172) (htB _ kw_4) (htB _ kw_173) (Nat.le_of_ble_eq_true rfl) (Nat.le_of_ble_eq_true rfl) (Nat.le_of_ble_eq_true rfl) (Nat.le_of_ble_eq_true rfl) d_J_findCommon_85 ?_
    refine ja_ast (k := 4) hx hb ha.1 hP hD hS 2 0 rfl rfl (by omega) (by omega) d_J_findCommon_88 (fun H locs hP hD hS => ?_)
    have hP : va_P g.1 cls [(h, .inr (1, fs)), (ak, eI g 48 (sk)), (ac, eI g 6 (upd (upd (upd (upd (cm) (0) (mxI (sk ((a * 6) + 0)) (sk ((b * 6) + 0)))) (3) (mnI (sk ((a * 6) + 3)) (sk ((b * 6) + 3)))) (1) (mxI (sk ((a * 6) + 1)) (sk ((b * 6) + 1)))) (4) (mnI (sk ((a * 6) + 4)) (sk ((b * 6) + 4)))))] H := hP
    have hD : va_D A [(h, .inr (1, fs)), (ak, eI g 48 (sk)), (ac, eI g 6 (upd (upd (upd (upd (cm) (0) (mxI (sk ((a * 6) + 0)) (sk ((b * 6) + 0)))) (3) (mnI (sk ((a * 6) + 3)) (sk ((b * 6) + 3)))) (1) (mxI (sk ((a * 6) + 1)) (sk ((b * 6) + 1)))) (4) (mnI (sk ((a * 6) + 4)) (sk ((b * 6) + 4)))))] := hD
    refine lv_iload_n hx hb d_J_findCommon_89 rfl (lv_at hl 3 rfl) ?_
    refine lv_if_eq (tgt := 114) hx hb d_J_findCommon_90 (by decide) (fun h => absurd h (by decide)) (fun _ => ?_)
    refine lv_aload_n hx hb d_J_findCommon_93 rfl (lv_at hl 4 rfl) ?_
    refine va_get (D := g.1) (ci := 1) (v := .ref ac) (C := R_J) (T := F_J) (N := 14) hx hb htB in_J hown ha.1 hP 0 rfl rfl 12 (by decide) (htB _ kw_52) (fun _ h9 => h9) hfc d_J_findCommon_94 ?_
    refine lv_iload hx hb d_J_findCommon_97 (lv_at hl 1 rfl) ?_
    refine ja_ald (k := 1) hx hb ha.1 hP 2 0 rfl rfl (by omega) (by omega) d_J_findCommon_99 ?_
    rw [show (upd (upd (upd (upd (cm) (0) (mxI (sk ((a * 6) + 0)) (sk ((b * 6) + 0)))) (3) (mnI (sk ((a * 6) + 3)) (sk ((b * 6) + 3)))) (1) (mxI (sk ((a * 6) + 1)) (sk ((b * 6) + 1)))) (4) (mnI (sk ((a * 6) + 4)) (sk ((b * 6) + 4)))) (1) = (mxI (sk ((a * 6) + 1)) (sk ((b * 6) + 1))) from rfl]
    refine lv_aload_n hx hb d_J_findCommon_100 rfl (lv_at hl 4 rfl) ?_
    refine va_get (D := g.1) (ci := 1) (v := .ref ac) (C := R_J) (T := F_J) (N := 14) hx hb htB in_J hown ha.1 hP 0 rfl rfl 12 (by decide) (htB _ kw_52) (fun _ h9 => h9) hfc d_J_findCommon_101 ?_
    refine lv_iload hx hb d_J_findCommon_104 (lv_at hl 0 rfl) ?_
    refine ja_ald (k := 4) hx hb ha.1 hP 2 0 rfl rfl (by omega) (by omega) d_J_findCommon_106 ?_
    rw [show (upd (upd (upd (upd (cm) (0) (mxI (sk ((a * 6) + 0)) (sk ((b * 6) + 0)))) (3) (mnI (sk ((a * 6) + 3)) (sk ((b * 6) + 3)))) (1) (mxI (sk ((a * 6) + 1)) (sk ((b * 6) + 1)))) (4) (mnI (sk ((a * 6) + 4)) (sk ((b * 6) + 4)))) (4) = (mnI (sk ((a * 6) + 4)) (sk ((b * 6) + 4))) from rfl]
    refine lv_icmp_ge (tgt := 114) hx hb d_J_findCommon_107 (by decide) (fun c_6 => ?_) (fun c_6 => ?_)
    · refine lv_iconst (v := (nI (0))) hx hb d_J_findCommon_114 (by decide) ?_
      refine lv_istore_n (lv' := [(3, .int (nI (0))), (6, .int (nI (4))), (5, .int (nI (1))), (4, .int (nI (1))), (0, .ref h), (1, .int (nI (a))), (2, .int (nI (b)))]) hx hb d_J_findCommon_115 rfl hl (by decide) rfl (fun ls hl => ?_)
      refine lv_iinc (v := nI (2)) (lv' := [(4, .int (nI (2))), (3, .int (nI (0))), (6, .int (nI (4))), (5, .int (nI (1))), (0, .ref h), (1, .int (nI (a))), (2, .int (nI (b)))]) hx hb d_J_findCommon_116 hl (k := 3) rfl (nI_add _ 1) (by decide) rfl (fun ls hl => ?_)
      refine lv_goto (tgt := 5) hx hb d_J_findCommon_119 (by decide) ?_
      refine lv_iload hx hb d_J_findCommon_5 (lv_at hl 0 rfl) ?_
      refine lv_iconst (v := (nI (3))) hx hb d_J_findCommon_7 (by decide) ?_
      refine jv_icmp_ge (tgt := 122) hx hb (by omega) (by omega) d_J_findCommon_8 (by decide) (fun h => absurd h (by decide)) (fun _ => ?_)
      refine lv_iload hx hb d_J_findCommon_11 (lv_at hl 0 rfl) ?_
      refine lv_istore (lv' := [(5, .int (nI (2))), (4, .int (nI (2))), (3, .int (nI (0))), (6, .int (nI (4))), (0, .ref h), (1, .int (nI (a))), (2, .int (nI (b)))]) hx hb d_J_findCommon_13 hl (by decide) rfl (fun ls hl => ?_)
      refine lv_iload hx hb d_J_findCommon_15 (lv_at hl 1 rfl) ?_
      refine lv_iconst (v := (nI (3))) hx hb d_J_findCommon_17 (by decide) ?_
      refine jv_iadd hx hb d_J_findCommon_18 ?_
      refine lv_istore (lv' := [(6, .int (nI (5))), (5, .int (nI (2))), (4, .int (nI (2))), (3, .int (nI (0))), (0, .ref h), (1, .int (nI (a))), (2, .int (nI (b)))]) hx hb d_J_findCommon_19 hl (by decide) rfl (fun ls hl => ?_)
      refine lv_aload_n hx hb d_J_findCommon_21 rfl (lv_at hl 4 rfl) ?_
      refine va_get (D := g.1) (ci := 1) (v := .ref ac) (C := R_J) (T := F_J) (N := 14) hx hb htB in_J hown ha.1 hP 0 rfl rfl 12 (by decide) (htB _ kw_52) (fun _ h9 => h9) hfc d_J_findCommon_22 ?_
      refine lv_iload hx hb d_J_findCommon_25 (lv_at hl 1 rfl) ?_
      refine lv_aload_n hx hb d_J_findCommon_27 rfl (lv_at hl 4 rfl) ?_
      refine va_get (D := g.1) (ci := 1) (v := .ref ak) (C := R_J) (T := F_J) (N := 14) hx hb htB in_J hown ha.1 hP 0 rfl rfl 2 (by decide) (htB _ kw_42) (fun _ h9 => h9) hfs d_J_findCommon_28 ?_
      refine lv_iload_n hx hb d_J_findCommon_31 rfl (lv_at hl 5 rfl) ?_
      refine lv_bipush (v := (nI (6))) hx hb d_J_findCommon_32 (by decide) ?_
      refine jv_imul hx hb d_J_findCommon_34 ?_
      refine lv_iload hx hb d_J_findCommon_35 (lv_at hl 1 rfl) ?_
      refine jv_iadd hx hb d_J_findCommon_37 ?_
      refine ja_ald (k := (a * 6) + 2) hx hb ha.1 hP 1 0 rfl rfl (by omega) (by omega) d_J_findCommon_38 ?_
      refine lv_aload_n hx hb d_J_findCommon_39 rfl (lv_at hl 4 rfl) ?_
      refine va_get (D := g.1) (ci := 1) (v := .ref ak) (C := R_J) (T := F_J) (N := 14) hx hb htB in_J hown ha.1 hP 0 rfl rfl 2 (by decide) (htB _ kw_42) (fun _ h9 => h9) hfs d_J_findCommon_40 ?_
      refine lv_iload_n hx hb d_J_findCommon_43 rfl (lv_at hl 6 rfl) ?_
      refine lv_bipush (v := (nI (6))) hx hb d_J_findCommon_44 (by decide) ?_
      refine jv_imul hx hb d_J_findCommon_46 ?_
      refine lv_iload hx hb d_J_findCommon_47 (lv_at hl 1 rfl) ?_
      refine jv_iadd hx hb d_J_findCommon_49 ?_
      refine ja_ald (k := (b * 6) + 2) hx hb ha.1 hP 1 0 rfl rfl (by omega) (by omega) d_J_findCommon_50 ?_
      refine va_mmax (own := "JointSolids") hx hb (hml.trans hl.1.symm) hown (htB _ kw_168) (htB _ kw_169) (htB _ kw_4) (htB _ kw_170) (Nat.le_of_ble_eq_true rfl) (Nat.le_of_ble_eq_true rfl) (Nat.le_of_ble_eq_true rfl) (Nat.le_of_ble_eq_true rfl) d_J_findCommon_51 ?_
      refine ja_ast (k := 2) hx hb ha.1 hP hD hS 2 0 rfl rfl (by omega) (by omega) d_J_findCommon_54 (fun H locs hP hD hS => ?_)
      have hP : va_P g.1 cls [(h, .inr (1, fs)), (ak, eI g 48 (sk)), (ac, eI g 6 (upd (upd (upd (upd (upd (cm) (0) (mxI (sk ((a * 6) + 0)) (sk ((b * 6) + 0)))) (3) (mnI (sk ((a * 6) + 3)) (sk ((b * 6) + 3)))) (1) (mxI (sk ((a * 6) + 1)) (sk ((b * 6) + 1)))) (4) (mnI (sk ((a * 6) + 4)) (sk ((b * 6) + 4)))) (2) (mxI (sk ((a * 6) + 2)) (sk ((b * 6) + 2)))))] H := hP
      have hD : va_D A [(h, .inr (1, fs)), (ak, eI g 48 (sk)), (ac, eI g 6 (upd (upd (upd (upd (upd (cm) (0) (mxI (sk ((a * 6) + 0)) (sk ((b * 6) + 0)))) (3) (mnI (sk ((a * 6) + 3)) (sk ((b * 6) + 3)))) (1) (mxI (sk ((a * 6) + 1)) (sk ((b * 6) + 1)))) (4) (mnI (sk ((a * 6) + 4)) (sk ((b * 6) + 4)))) (2) (mxI (sk ((a * 6) + 2)) (sk ((b * 6) + 2)))))] := hD
      refine lv_aload_n hx hb d_J_findCommon_55 rfl (lv_at hl 4 rfl) ?_
      refine va_get (D := g.1) (ci := 1) (v := .ref ac) (C := R_J) (T := F_J) (N := 14) hx hb htB in_J hown ha.1 hP 0 rfl rfl 12 (by decide) (htB _ kw_52) (fun _ h9 => h9) hfc d_J_findCommon_56 ?_
      refine lv_iload hx hb d_J_findCommon_59 (lv_at hl 0 rfl) ?_
      refine lv_aload_n hx hb d_J_findCommon_61 rfl (lv_at hl 4 rfl) ?_
      refine va_get (D := g.1) (ci := 1) (v := .ref ak) (C := R_J) (T := F_J) (N := 14) hx hb htB in_J hown ha.1 hP 0 rfl rfl 2 (by decide) (htB _ kw_42) (fun _ h9 => h9) hfs d_J_findCommon_62 ?_
      refine lv_iload_n hx hb d_J_findCommon_65 rfl (lv_at hl 5 rfl) ?_
      refine lv_bipush (v := (nI (6))) hx hb d_J_findCommon_66 (by decide) ?_
      refine jv_imul hx hb d_J_findCommon_68 ?_
      refine lv_iload hx hb d_J_findCommon_69 (lv_at hl 0 rfl) ?_
      refine jv_iadd hx hb d_J_findCommon_71 ?_
      refine ja_ald (k := (a * 6) + 5) hx hb ha.1 hP 1 0 rfl rfl (by omega) (by omega) d_J_findCommon_72 ?_
      refine lv_aload_n hx hb d_J_findCommon_73 rfl (lv_at hl 4 rfl) ?_
      refine va_get (D := g.1) (ci := 1) (v := .ref ak) (C := R_J) (T := F_J) (N := 14) hx hb htB in_J hown ha.1 hP 0 rfl rfl 2 (by decide) (htB _ kw_42) (fun _ h9 => h9) hfs d_J_findCommon_74 ?_
      refine lv_iload_n hx hb d_J_findCommon_77 rfl (lv_at hl 6 rfl) ?_
      refine lv_bipush (v := (nI (6))) hx hb d_J_findCommon_78 (by decide) ?_
      refine jv_imul hx hb d_J_findCommon_80 ?_
      refine lv_iload hx hb d_J_findCommon_81 (lv_at hl 0 rfl) ?_
      refine jv_iadd hx hb d_J_findCommon_83 ?_
      refine ja_ald (k := (b * 6) + 5) hx hb ha.1 hP 1 0 rfl rfl (by omega) (by omega) d_J_findCommon_84 ?_
      refine va_mmin (own := "JointSolids") hx hb (hml.trans hl.1.symm) hown (htB _ kw_171) (htB _ kw_172) (htB _ kw_4) (htB _ kw_173) (Nat.le_of_ble_eq_true rfl) (Nat.le_of_ble_eq_true rfl) (Nat.le_of_ble_eq_true rfl) (Nat.le_of_ble_eq_true rfl) d_J_findCommon_85 ?_
      refine ja_ast (k := 5) hx hb ha.1 hP hD hS 2 0 rfl rfl (by omega) (by omega) d_J_findCommon_88 (fun H locs hP hD hS => ?_)
      have hP : va_P g.1 cls [(h, .inr (1, fs)), (ak, eI g 48 (sk)), (ac, eI g 6 (upd (upd (upd (upd (upd (upd (cm) (0) (mxI (sk ((a * 6) + 0)) (sk ((b * 6) + 0)))) (3) (mnI (sk ((a * 6) + 3)) (sk ((b * 6) + 3)))) (1) (mxI (sk ((a * 6) + 1)) (sk ((b * 6) + 1)))) (4) (mnI (sk ((a * 6) + 4)) (sk ((b * 6) + 4)))) (2) (mxI (sk ((a * 6) + 2)) (sk ((b * 6) + 2)))) (5) (mnI (sk ((a * 6) + 5)) (sk ((b * 6) + 5)))))] H := hP
      have hD : va_D A [(h, .inr (1, fs)), (ak, eI g 48 (sk)), (ac, eI g 6 (upd (upd (upd (upd (upd (upd (cm) (0) (mxI (sk ((a * 6) + 0)) (sk ((b * 6) + 0)))) (3) (mnI (sk ((a * 6) + 3)) (sk ((b * 6) + 3)))) (1) (mxI (sk ((a * 6) + 1)) (sk ((b * 6) + 1)))) (4) (mnI (sk ((a * 6) + 4)) (sk ((b * 6) + 4)))) (2) (mxI (sk ((a * 6) + 2)) (sk ((b * 6) + 2)))) (5) (mnI (sk ((a * 6) + 5)) (sk ((b * 6) + 5)))))] := hD
      refine lv_iload_n hx hb d_J_findCommon_89 rfl (lv_at hl 3 rfl) ?_
      refine lv_if_eq (tgt := 114) hx hb d_J_findCommon_90 (by decide) (fun _ => ?_) (fun h => absurd h (by decide))
      refine lv_iconst (v := (nI (0))) hx hb d_J_findCommon_114 (by decide) ?_
      refine lv_istore_n (lv' := [(3, .int (nI (0))), (6, .int (nI (5))), (5, .int (nI (2))), (4, .int (nI (2))), (0, .ref h), (1, .int (nI (a))), (2, .int (nI (b)))]) hx hb d_J_findCommon_115 rfl hl (by decide) rfl (fun ls hl => ?_)
      refine lv_iinc (v := nI (3)) (lv' := [(4, .int (nI (3))), (3, .int (nI (0))), (6, .int (nI (5))), (5, .int (nI (2))), (0, .ref h), (1, .int (nI (a))), (2, .int (nI (b)))]) hx hb d_J_findCommon_116 hl (k := 3) rfl (nI_add _ 1) (by decide) rfl (fun ls hl => ?_)
      refine lv_goto (tgt := 5) hx hb d_J_findCommon_119 (by decide) ?_
      refine lv_iload hx hb d_J_findCommon_5 (lv_at hl 0 rfl) ?_
      refine lv_iconst (v := (nI (3))) hx hb d_J_findCommon_7 (by decide) ?_
      refine jv_icmp_ge (tgt := 122) hx hb (by omega) (by omega) d_J_findCommon_8 (by decide) (fun _ => ?_) (fun h => absurd h (by decide))
      refine lv_iload_n hx hb d_J_findCommon_122 rfl (lv_at hl 1 rfl) ?_
      have hP9 := hP.sub (ws' := [(h, .inr (1, fs)), (ak, eI g 48 (sk)), (ac, eI g 6 (upd (upd (upd (upd (upd (upd (cm) (0) (mxI (sk ((a * 6) + 0)) (sk ((b * 6) + 0)))) (3) (mnI (sk ((a * 6) + 3)) (sk ((b * 6) + 3)))) (1) (mxI (sk ((a * 6) + 1)) (sk ((b * 6) + 1)))) (4) (mnI (sk ((a * 6) + 4)) (sk ((b * 6) + 4)))) (2) (mxI (sk ((a * 6) + 2)) (sk ((b * 6) + 2)))) (5) (mnI (sk ((a * 6) + 5)) (sk ((b * 6) + 5)))))]) [0, 1, 2] rfl
      have hD9 := hD.sub (ws' := [(h, .inr (1, fs)), (ak, eI g 48 (sk)), (ac, eI g 6 (upd (upd (upd (upd (upd (upd (cm) (0) (mxI (sk ((a * 6) + 0)) (sk ((b * 6) + 0)))) (3) (mnI (sk ((a * 6) + 3)) (sk ((b * 6) + 3)))) (1) (mxI (sk ((a * 6) + 1)) (sk ((b * 6) + 1)))) (4) (mnI (sk ((a * 6) + 4)) (sk ((b * 6) + 4)))) (2) (mxI (sk ((a * 6) + 2)) (sk ((b * 6) + 2)))) (5) (mnI (sk ((a * 6) + 5)) (sk ((b * 6) + 5)))))]) [0, 1, 2] (by decide) rfl
      exact (W.widen (k := 0) (n := 0) (Nat.le_of_ble_eq_true rfl) (Nat.le_of_ble_eq_true rfl) (W.zret (v := (nI (0))) hx hb hr (by decide) (fun t ht hW => ⟨⟨(nI (0)), (), rfl, (if_neg (fun q => q.2.1 c_6)).symm, by rw [ht]; exact hP9, hD9.re [h, ak, ac] rfl rfl⟩, hS.F ht⟩) hS.2.2 d_J_findCommon_123))
    · refine lv_iconst (v := (nI (1))) hx hb d_J_findCommon_110 (by decide) ?_
      refine lv_goto (tgt := 115) hx hb d_J_findCommon_111 (by decide) ?_
      refine lv_istore_n (lv' := [(3, .int (nI (1))), (6, .int (nI (4))), (5, .int (nI (1))), (4, .int (nI (1))), (0, .ref h), (1, .int (nI (a))), (2, .int (nI (b)))]) hx hb d_J_findCommon_115 rfl hl (by decide) rfl (fun ls hl => ?_)
      refine lv_iinc (v := nI (2)) (lv' := [(4, .int (nI (2))), (3, .int (nI (1))), (6, .int (nI (4))), (5, .int (nI (1))), (0, .ref h), (1, .int (nI (a))), (2, .int (nI (b)))]) hx hb d_J_findCommon_116 hl (k := 3) rfl (nI_add _ 1) (by decide) rfl (fun ls hl => ?_)
      refine lv_goto (tgt := 5) hx hb d_J_findCommon_119 (by decide) ?_
      refine lv_iload hx hb d_J_findCommon_5 (lv_at hl 0 rfl) ?_
      refine lv_iconst (v := (nI (3))) hx hb d_J_findCommon_7 (by decide) ?_
      refine jv_icmp_ge (tgt := 122) hx hb (by omega) (by omega) d_J_findCommon_8 (by decide) (fun h => absurd h (by decide)) (fun _ => ?_)
      refine lv_iload hx hb d_J_findCommon_11 (lv_at hl 0 rfl) ?_
      refine lv_istore (lv' := [(5, .int (nI (2))), (4, .int (nI (2))), (3, .int (nI (1))), (6, .int (nI (4))), (0, .ref h), (1, .int (nI (a))), (2, .int (nI (b)))]) hx hb d_J_findCommon_13 hl (by decide) rfl (fun ls hl => ?_)
      refine lv_iload hx hb d_J_findCommon_15 (lv_at hl 1 rfl) ?_
      refine lv_iconst (v := (nI (3))) hx hb d_J_findCommon_17 (by decide) ?_
      refine jv_iadd hx hb d_J_findCommon_18 ?_
      refine lv_istore (lv' := [(6, .int (nI (5))), (5, .int (nI (2))), (4, .int (nI (2))), (3, .int (nI (1))), (0, .ref h), (1, .int (nI (a))), (2, .int (nI (b)))]) hx hb d_J_findCommon_19 hl (by decide) rfl (fun ls hl => ?_)
      refine lv_aload_n hx hb d_J_findCommon_21 rfl (lv_at hl 4 rfl) ?_
      refine va_get (D := g.1) (ci := 1) (v := .ref ac) (C := R_J) (T := F_J) (N := 14) hx hb htB in_J hown ha.1 hP 0 rfl rfl 12 (by decide) (htB _ kw_52) (fun _ h9 => h9) hfc d_J_findCommon_22 ?_
      refine lv_iload hx hb d_J_findCommon_25 (lv_at hl 1 rfl) ?_
      refine lv_aload_n hx hb d_J_findCommon_27 rfl (lv_at hl 4 rfl) ?_
      refine va_get (D := g.1) (ci := 1) (v := .ref ak) (C := R_J) (T := F_J) (N := 14) hx hb htB in_J hown ha.1 hP 0 rfl rfl 2 (by decide) (htB _ kw_42) (fun _ h9 => h9) hfs d_J_findCommon_28 ?_
      refine lv_iload_n hx hb d_J_findCommon_31 rfl (lv_at hl 5 rfl) ?_
      refine lv_bipush (v := (nI (6))) hx hb d_J_findCommon_32 (by decide) ?_
      refine jv_imul hx hb d_J_findCommon_34 ?_
      refine lv_iload hx hb d_J_findCommon_35 (lv_at hl 1 rfl) ?_
      refine jv_iadd hx hb d_J_findCommon_37 ?_
      refine ja_ald (k := (a * 6) + 2) hx hb ha.1 hP 1 0 rfl rfl (by omega) (by omega) d_J_findCommon_38 ?_
      refine lv_aload_n hx hb d_J_findCommon_39 rfl (lv_at hl 4 rfl) ?_
      refine va_get (D := g.1) (ci := 1) (v := .ref ak) (C := R_J) (T := F_J) (N := 14) hx hb htB in_J hown ha.1 hP 0 rfl rfl 2 (by decide) (htB _ kw_42) (fun _ h9 => h9) hfs d_J_findCommon_40 ?_
      refine lv_iload_n hx hb d_J_findCommon_43 rfl (lv_at hl 6 rfl) ?_
      refine lv_bipush (v := (nI (6))) hx hb d_J_findCommon_44 (by decide) ?_
      refine jv_imul hx hb d_J_findCommon_46 ?_
      refine lv_iload hx hb d_J_findCommon_47 (lv_at hl 1 rfl) ?_
      refine jv_iadd hx hb d_J_findCommon_49 ?_
      refine ja_ald (k := (b * 6) + 2) hx hb ha.1 hP 1 0 rfl rfl (by omega) (by omega) d_J_findCommon_50 ?_
      refine va_mmax (own := "JointSolids") hx hb (hml.trans hl.1.symm) hown (htB _ kw_168) (htB _ kw_169) (htB _ kw_4) (htB _ kw_170) (Nat.le_of_ble_eq_true rfl) (Nat.le_of_ble_eq_true rfl) (Nat.le_of_ble_eq_true rfl) (Nat.le_of_ble_eq_true rfl) d_J_findCommon_51 ?_
      refine ja_ast (k := 2) hx hb ha.1 hP hD hS 2 0 rfl rfl (by omega) (by omega) d_J_findCommon_54 (fun H locs hP hD hS => ?_)
      have hP : va_P g.1 cls [(h, .inr (1, fs)), (ak, eI g 48 (sk)), (ac, eI g 6 (upd (upd (upd (upd (upd (cm) (0) (mxI (sk ((a * 6) + 0)) (sk ((b * 6) + 0)))) (3) (mnI (sk ((a * 6) + 3)) (sk ((b * 6) + 3)))) (1) (mxI (sk ((a * 6) + 1)) (sk ((b * 6) + 1)))) (4) (mnI (sk ((a * 6) + 4)) (sk ((b * 6) + 4)))) (2) (mxI (sk ((a * 6) + 2)) (sk ((b * 6) + 2)))))] H := hP
      have hD : va_D A [(h, .inr (1, fs)), (ak, eI g 48 (sk)), (ac, eI g 6 (upd (upd (upd (upd (upd (cm) (0) (mxI (sk ((a * 6) + 0)) (sk ((b * 6) + 0)))) (3) (mnI (sk ((a * 6) + 3)) (sk ((b * 6) + 3)))) (1) (mxI (sk ((a * 6) + 1)) (sk ((b * 6) + 1)))) (4) (mnI (sk ((a * 6) + 4)) (sk ((b * 6) + 4)))) (2) (mxI (sk ((a * 6) + 2)) (sk ((b * 6) + 2)))))] := hD
      refine lv_aload_n hx hb d_J_findCommon_55 rfl (lv_at hl 4 rfl) ?_
      refine va_get (D := g.1) (ci := 1) (v := .ref ac) (C := R_J) (T := F_J) (N := 14) hx hb htB in_J hown ha.1 hP 0 rfl rfl 12 (by decide) (htB _ kw_52) (fun _ h9 => h9) hfc d_J_findCommon_56 ?_
      refine lv_iload hx hb d_J_findCommon_59 (lv_at hl 0 rfl) ?_
      refine lv_aload_n hx hb d_J_findCommon_61 rfl (lv_at hl 4 rfl) ?_
      refine va_get (D := g.1) (ci := 1) (v := .ref ak) (C := R_J) (T := F_J) (N := 14) hx hb htB in_J hown ha.1 hP 0 rfl rfl 2 (by decide) (htB _ kw_42) (fun _ h9 => h9) hfs d_J_findCommon_62 ?_
      refine lv_iload_n hx hb d_J_findCommon_65 rfl (lv_at hl 5 rfl) ?_
      refine lv_bipush (v := (nI (6))) hx hb d_J_findCommon_66 (by decide) ?_
      refine jv_imul hx hb d_J_findCommon_68 ?_
      refine lv_iload hx hb d_J_findCommon_69 (lv_at hl 0 rfl) ?_
      refine jv_iadd hx hb d_J_findCommon_71 ?_
      refine ja_ald (k := (a * 6) + 5) hx hb ha.1 hP 1 0 rfl rfl (by omega) (by omega) d_J_findCommon_72 ?_
      refine lv_aload_n hx hb d_J_findCommon_73 rfl (lv_at hl 4 rfl) ?_
      refine va_get (D := g.1) (ci := 1) (v := .ref ak) (C := R_J) (T := F_J) (N := 14) hx hb htB in_J hown ha.1 hP 0 rfl rfl 2 (by decide) (htB _ kw_42) (fun _ h9 => h9) hfs d_J_findCommon_74 ?_
      refine lv_iload_n hx hb d_J_findCommon_77 rfl (lv_at hl 6 rfl) ?_
      refine lv_bipush (v := (nI (6))) hx hb d_J_findCommon_78 (by decide) ?_
      refine jv_imul hx hb d_J_findCommon_80 ?_
      refine lv_iload hx hb d_J_findCommon_81 (lv_at hl 0 rfl) ?_
      refine jv_iadd hx hb d_J_findCommon_83 ?_
      refine ja_ald (k := (b * 6) + 5) hx hb ha.1 hP 1 0 rfl rfl (by omega) (by omega) d_J_findCommon_84 ?_
      refine va_mmin (own := "JointSolids") hx hb (hml.trans hl.1.symm) hown (htB _ kw_171) (htB _ kw_172) (htB _ kw_4) (htB _ kw_173) (Nat.le_of_ble_eq_true rfl) (Nat.le_of_ble_eq_true rfl) (Nat.le_of_ble_eq_true rfl) (Nat.le_of_ble_eq_true rfl) d_J_findCommon_85 ?_
      refine ja_ast (k := 5) hx hb ha.1 hP hD hS 2 0 rfl rfl (by omega) (by omega) d_J_findCommon_88 (fun H locs hP hD hS => ?_)
      have hP : va_P g.1 cls [(h, .inr (1, fs)), (ak, eI g 48 (sk)), (ac, eI g 6 (upd (upd (upd (upd (upd (upd (cm) (0) (mxI (sk ((a * 6) + 0)) (sk ((b * 6) + 0)))) (3) (mnI (sk ((a * 6) + 3)) (sk ((b * 6) + 3)))) (1) (mxI (sk ((a * 6) + 1)) (sk ((b * 6) + 1)))) (4) (mnI (sk ((a * 6) + 4)) (sk ((b * 6) + 4)))) (2) (mxI (sk ((a * 6) + 2)) (sk ((b * 6) + 2)))) (5) (mnI (sk ((a * 6) + 5)) (sk ((b * 6) + 5)))))] H := hP
      have hD : va_D A [(h, .inr (1, fs)), (ak, eI g 48 (sk)), (ac, eI g 6 (upd (upd (upd (upd (upd (upd (cm) (0) (mxI (sk ((a * 6) + 0)) (sk ((b * 6) + 0)))) (3) (mnI (sk ((a * 6) + 3)) (sk ((b * 6) + 3)))) (1) (mxI (sk ((a * 6) + 1)) (sk ((b * 6) + 1)))) (4) (mnI (sk ((a * 6) + 4)) (sk ((b * 6) + 4)))) (2) (mxI (sk ((a * 6) + 2)) (sk ((b * 6) + 2)))) (5) (mnI (sk ((a * 6) + 5)) (sk ((b * 6) + 5)))))] := hD
      refine lv_iload_n hx hb d_J_findCommon_89 rfl (lv_at hl 3 rfl) ?_
      refine lv_if_eq (tgt := 114) hx hb d_J_findCommon_90 (by decide) (fun h => absurd h (by decide)) (fun _ => ?_)
      refine lv_aload_n hx hb d_J_findCommon_93 rfl (lv_at hl 4 rfl) ?_
      refine va_get (D := g.1) (ci := 1) (v := .ref ac) (C := R_J) (T := F_J) (N := 14) hx hb htB in_J hown ha.1 hP 0 rfl rfl 12 (by decide) (htB _ kw_52) (fun _ h9 => h9) hfc d_J_findCommon_94 ?_
      refine lv_iload hx hb d_J_findCommon_97 (lv_at hl 1 rfl) ?_
      refine ja_ald (k := 2) hx hb ha.1 hP 2 0 rfl rfl (by omega) (by omega) d_J_findCommon_99 ?_
      rw [show (upd (upd (upd (upd (upd (upd (cm) (0) (mxI (sk ((a * 6) + 0)) (sk ((b * 6) + 0)))) (3) (mnI (sk ((a * 6) + 3)) (sk ((b * 6) + 3)))) (1) (mxI (sk ((a * 6) + 1)) (sk ((b * 6) + 1)))) (4) (mnI (sk ((a * 6) + 4)) (sk ((b * 6) + 4)))) (2) (mxI (sk ((a * 6) + 2)) (sk ((b * 6) + 2)))) (5) (mnI (sk ((a * 6) + 5)) (sk ((b * 6) + 5)))) (2) = (mxI (sk ((a * 6) + 2)) (sk ((b * 6) + 2))) from rfl]
      refine lv_aload_n hx hb d_J_findCommon_100 rfl (lv_at hl 4 rfl) ?_
      refine va_get (D := g.1) (ci := 1) (v := .ref ac) (C := R_J) (T := F_J) (N := 14) hx hb htB in_J hown ha.1 hP 0 rfl rfl 12 (by decide) (htB _ kw_52) (fun _ h9 => h9) hfc d_J_findCommon_101 ?_
      refine lv_iload hx hb d_J_findCommon_104 (lv_at hl 0 rfl) ?_
      refine ja_ald (k := 5) hx hb ha.1 hP 2 0 rfl rfl (by omega) (by omega) d_J_findCommon_106 ?_
      rw [show (upd (upd (upd (upd (upd (upd (cm) (0) (mxI (sk ((a * 6) + 0)) (sk ((b * 6) + 0)))) (3) (mnI (sk ((a * 6) + 3)) (sk ((b * 6) + 3)))) (1) (mxI (sk ((a * 6) + 1)) (sk ((b * 6) + 1)))) (4) (mnI (sk ((a * 6) + 4)) (sk ((b * 6) + 4)))) (2) (mxI (sk ((a * 6) + 2)) (sk ((b * 6) + 2)))) (5) (mnI (sk ((a * 6) + 5)) (sk ((b * 6) + 5)))) (5) = (mnI (sk ((a * 6) + 5)) (sk ((b * 6) + 5))) from rfl]
      refine lv_icmp_ge (tgt := 114) hx hb d_J_findCommon_107 (by decide) (fun c_9 => ?_) (fun c_9 => ?_)
      · refine lv_iconst (v := (nI (0))) hx hb d_J_findCommon_114 (by decide) ?_
        refine lv_istore_n (lv' := [(3, .int (nI (0))), (6, .int (nI (5))), (5, .int (nI (2))), (4, .int (nI (2))), (0, .ref h), (1, .int (nI (a))), (2, .int (nI (b)))]) hx hb d_J_findCommon_115 rfl hl (by decide) rfl (fun ls hl => ?_)
        refine lv_iinc (v := nI (3)) (lv' := [(4, .int (nI (3))), (3, .int (nI (0))), (6, .int (nI (5))), (5, .int (nI (2))), (0, .ref h), (1, .int (nI (a))), (2, .int (nI (b)))]) hx hb d_J_findCommon_116 hl (k := 3) rfl (nI_add _ 1) (by decide) rfl (fun ls hl => ?_)
        refine lv_goto (tgt := 5) hx hb d_J_findCommon_119 (by decide) ?_
        refine lv_iload hx hb d_J_findCommon_5 (lv_at hl 0 rfl) ?_
        refine lv_iconst (v := (nI (3))) hx hb d_J_findCommon_7 (by decide) ?_
        refine jv_icmp_ge (tgt := 122) hx hb (by omega) (by omega) d_J_findCommon_8 (by decide) (fun _ => ?_) (fun h => absurd h (by decide))
        refine lv_iload_n hx hb d_J_findCommon_122 rfl (lv_at hl 1 rfl) ?_
        have hP9 := hP.sub (ws' := [(h, .inr (1, fs)), (ak, eI g 48 (sk)), (ac, eI g 6 (upd (upd (upd (upd (upd (upd (cm) (0) (mxI (sk ((a * 6) + 0)) (sk ((b * 6) + 0)))) (3) (mnI (sk ((a * 6) + 3)) (sk ((b * 6) + 3)))) (1) (mxI (sk ((a * 6) + 1)) (sk ((b * 6) + 1)))) (4) (mnI (sk ((a * 6) + 4)) (sk ((b * 6) + 4)))) (2) (mxI (sk ((a * 6) + 2)) (sk ((b * 6) + 2)))) (5) (mnI (sk ((a * 6) + 5)) (sk ((b * 6) + 5)))))]) [0, 1, 2] rfl
        have hD9 := hD.sub (ws' := [(h, .inr (1, fs)), (ak, eI g 48 (sk)), (ac, eI g 6 (upd (upd (upd (upd (upd (upd (cm) (0) (mxI (sk ((a * 6) + 0)) (sk ((b * 6) + 0)))) (3) (mnI (sk ((a * 6) + 3)) (sk ((b * 6) + 3)))) (1) (mxI (sk ((a * 6) + 1)) (sk ((b * 6) + 1)))) (4) (mnI (sk ((a * 6) + 4)) (sk ((b * 6) + 4)))) (2) (mxI (sk ((a * 6) + 2)) (sk ((b * 6) + 2)))) (5) (mnI (sk ((a * 6) + 5)) (sk ((b * 6) + 5)))))]) [0, 1, 2] (by decide) rfl
        exact (W.widen (k := 0) (n := 0) (Nat.le_of_ble_eq_true rfl) (Nat.le_of_ble_eq_true rfl) (W.zret (v := (nI (0))) hx hb hr (by decide) (fun t ht hW => ⟨⟨(nI (0)), (), rfl, (if_neg (fun q => q.2.2 c_9)).symm, by rw [ht]; exact hP9, hD9.re [h, ak, ac] rfl rfl⟩, hS.F ht⟩) hS.2.2 d_J_findCommon_123))
      · refine lv_iconst (v := (nI (1))) hx hb d_J_findCommon_110 (by decide) ?_
        refine lv_goto (tgt := 115) hx hb d_J_findCommon_111 (by decide) ?_
        refine lv_istore_n (lv' := [(3, .int (nI (1))), (6, .int (nI (5))), (5, .int (nI (2))), (4, .int (nI (2))), (0, .ref h), (1, .int (nI (a))), (2, .int (nI (b)))]) hx hb d_J_findCommon_115 rfl hl (by decide) rfl (fun ls hl => ?_)
        refine lv_iinc (v := nI (3)) (lv' := [(4, .int (nI (3))), (3, .int (nI (1))), (6, .int (nI (5))), (5, .int (nI (2))), (0, .ref h), (1, .int (nI (a))), (2, .int (nI (b)))]) hx hb d_J_findCommon_116 hl (k := 3) rfl (nI_add _ 1) (by decide) rfl (fun ls hl => ?_)
        refine lv_goto (tgt := 5) hx hb d_J_findCommon_119 (by decide) ?_
        refine lv_iload hx hb d_J_findCommon_5 (lv_at hl 0 rfl) ?_
        refine lv_iconst (v := (nI (3))) hx hb d_J_findCommon_7 (by decide) ?_
        refine jv_icmp_ge (tgt := 122) hx hb (by omega) (by omega) d_J_findCommon_8 (by decide) (fun _ => ?_) (fun h => absurd h (by decide))
        refine lv_iload_n hx hb d_J_findCommon_122 rfl (lv_at hl 1 rfl) ?_
        have hP9 := hP.sub (ws' := [(h, .inr (1, fs)), (ak, eI g 48 (sk)), (ac, eI g 6 (upd (upd (upd (upd (upd (upd (cm) (0) (mxI (sk ((a * 6) + 0)) (sk ((b * 6) + 0)))) (3) (mnI (sk ((a * 6) + 3)) (sk ((b * 6) + 3)))) (1) (mxI (sk ((a * 6) + 1)) (sk ((b * 6) + 1)))) (4) (mnI (sk ((a * 6) + 4)) (sk ((b * 6) + 4)))) (2) (mxI (sk ((a * 6) + 2)) (sk ((b * 6) + 2)))) (5) (mnI (sk ((a * 6) + 5)) (sk ((b * 6) + 5)))))]) [0, 1, 2] rfl
        have hD9 := hD.sub (ws' := [(h, .inr (1, fs)), (ak, eI g 48 (sk)), (ac, eI g 6 (upd (upd (upd (upd (upd (upd (cm) (0) (mxI (sk ((a * 6) + 0)) (sk ((b * 6) + 0)))) (3) (mnI (sk ((a * 6) + 3)) (sk ((b * 6) + 3)))) (1) (mxI (sk ((a * 6) + 1)) (sk ((b * 6) + 1)))) (4) (mnI (sk ((a * 6) + 4)) (sk ((b * 6) + 4)))) (2) (mxI (sk ((a * 6) + 2)) (sk ((b * 6) + 2)))) (5) (mnI (sk ((a * 6) + 5)) (sk ((b * 6) + 5)))))]) [0, 1, 2] (by decide) rfl
        exact (W.widen (k := 0) (n := 0) (Nat.le_of_ble_eq_true rfl) (Nat.le_of_ble_eq_true rfl) (W.zret (v := (nI (1))) hx hb hr (by decide) (fun t ht hW => ⟨⟨(nI (1)), (), rfl, (if_pos ⟨c_2, c_6, c_9⟩).symm, by rw [ht]; exact hP9, hD9.re [h, ak, ac] rfl rfl⟩, hS.F ht⟩) hS.2.2 d_J_findCommon_123))
set_option maxHeartbeats 4000000 in
set_option maxRecDepth 100000 in
theorem m_M_hasCommon (l : Launch) (g : gT) (z : Nat) (H0 : Heap) (h : Nat) (fs : List Value) (ak ac : Nat) (sk cm : Nat → Int32) (a b : Nat) : Met l y_M_hasCommon w_M_hasCommon ({ frames := 1, cells := 0, slots := 0, locals := 21 }) (va_Pc [.ref h, .int (nI (a)), .int (nI (b))] (pB g z H0 (va_P g.1 cls [(h, .inr (3, fs)), (ak, eI g 48 (sk)), (ac, eI g 6 (cm))] H0 ∧ va_D (zA z) [(h, .inr (3, fs)), (ak, eI g 48 (sk)), (ac, eI g 6 (cm))] ∧ (fs[2]? = some (.ref ak) ∧ fs[9]? = some (.ref ac) ∧ a < 8 ∧ b < 8)))) (va_Qi (fun (rr : Int32) (_ : Unit) => rr = (if (¬ (cxM sk (6 * a) (6 * b) 0) ≤ (cxL sk (6 * a) (6 * b) 0) ∧ ¬ (cxM sk (6 * a) (6 * b) 1) ≤ (cxL sk (6 * a) (6 * b) 1) ∧ ¬ (cxM sk (6 * a) (6 * b) 2) ≤ (cxL sk (6 * a) (6 * b) 2)) then nI 1 else nI 0)) (fun (_ : Unit) t => va_P g.1 cls [(h, .inr (3, fs)), (ak, eI g 48 (sk)), (ac, eI g 6 (cmF cm (cxL sk (6 * a) (6 * b) 0) (cxM sk (6 * a) (6 * b) 0) (cxL sk (6 * a) (6 * b) 1) (cxM sk (6 * a) (6 * b) 1) (cxL sk (6 * a) (6 * b) 2) (cxM sk (6 * a) (6 * b) 2)))] t.heap ∧ va_D (va_A [(h, .inr (3, fs)), (ak, eI g 48 (sk)), (ac, eI g 6 (cm))] H0.size) [(h, .inr (3, fs)), (ak, eI g 48 (sk)), (ac, eI g 6 (cmF cm (cxL sk (6 * a) (6 * b) 0) (cxM sk (6 * a) (6 * b) 0) (cxL sk (6 * a) (6 * b) 1) (cxM sk (6 * a) (6 * b) 1) (cxL sk (6 * a) (6 * b) 2) (cxM sk (6 * a) (6 * b) 2)))]) (va_A [(h, .inr (3, fs)), (ak, eI g 48 (sk)), (ac, eI g 6 (cm))] H0.size)) 0 0 (va_A [(h, .inr (3, fs)), (ak, eI g 48 (sk)), (ac, eI g 6 (cm))] H0.size) := by
  refine Met.ofW (cc := c_M_hasCommon) (maxL := 5) (ret := (some .boolean)) (by decide) rfl ?_
  intro p e s m args below meth c s₁ B hml hv
  obtain ⟨rfl, hH0, ha, hP, hD0, hfs, hfc, ha8, hb8⟩ := hv
  have hx := B.exec
  have hb := B.bytes
  have hr := B.returns
  have htB : ∀ w ∈ tB, w.before _ s = true := fun w h => atoms_spec (ws := w_M_hasCommon) B.pre w (List.mem_cons_of_mem _ h)
  have hown : s.vm.findClass "JointSolidsModel" = some m.cls := findClass_of_methodNamed B.named
  have hlocks := B.notSynchronized
  subst hH0
  have hD := hD0.self (sz := s.heap.size)
  have hz := aA_z hD0 ha.2.2.2.2.2
  generalize hAe : va_A [(h, .inr (3, fs)), (ak, eI g 48 (sk)), (ac, eI g 6 (cm))] s.heap.size = A at hD hz ⊢
  have hA : ∀ q : Nat, s.heap.size ≤ q → A q := fun q h => by rw [← hAe]; exact Or.inr h
  have hS : va_S A s.heap s.heap [] := va_S.rf
  refine W.ofH hP hS (fun H locs hP hS => ?_)
  have hl := lv_entry ([.ref h, .int (nI (a)), .int (nI (b))]) (n := 5) (Nat.le_of_ble_eq_true rfl)
  rw [lg_entry_eq]
  generalize (lg_sl ([.ref h, .int (nI (a)), .int (nI (b))]) ++ List.replicate (5 - (lg_sl ([.ref h, .int (nI (a)), .int (nI (b))])).length) Slot.unset).toArray = ls at hl ⊢
  have hl : lv_has ls 5 [(0, .ref h), (1, .int (nI (a))), (2, .int (nI (b)))] := hl
  refine lv_iconst (v := (nI (1))) hx hb d_M_hasCommon_0 (by decide) ?_
  refine lv_istore_n (lv' := [(3, .int (nI (1))), (0, .ref h), (1, .int (nI (a))), (2, .int (nI (b)))]) hx hb d_M_hasCommon_1 rfl hl (by decide) rfl (fun ls hl => ?_)
  refine lv_iconst (v := (nI (0))) hx hb d_M_hasCommon_2 (by decide) ?_
  refine lv_istore (lv' := [(4, .int (nI (0))), (3, .int (nI (1))), (0, .ref h), (1, .int (nI (a))), (2, .int (nI (b)))]) hx hb d_M_hasCommon_3 hl (by decide) rfl (fun ls hl => ?_)
  refine lv_iload hx hb d_M_hasCommon_5 (lv_at hl 0 rfl) ?_
  refine lv_iconst (v := (nI (3))) hx hb d_M_hasCommon_7 (by decide) ?_
  refine jv_icmp_ge (tgt := 120) hx hb (by omega) (by omega) d_M_hasCommon_8 (by decide) (fun h => absurd h (by decide)) (fun _ => ?_)
  refine lv_aload_n hx hb d_M_hasCommon_11 rfl (lv_at hl 2 rfl) ?_
  refine va_get (D := g.1) (ci := 3) (v := .ref ac) (C := R_M) (T := F_M) (N := 19) hx hb htB in_M hown ha.1 hP 0 rfl rfl 9 (by decide) (htB _ kw_451) (fun _ h9 => h9) hfc d_M_hasCommon_12 ?_
  refine lv_iload hx hb d_M_hasCommon_15 (lv_at hl 0 rfl) ?_
  refine lv_aload_n hx hb d_M_hasCommon_17 rfl (lv_at hl 2 rfl) ?_
  refine va_get (D := g.1) (ci := 3) (v := .ref ak) (C := R_M) (T := F_M) (N := 19) hx hb htB in_M hown ha.1 hP 0 rfl rfl 2 (by decide) (htB _ kw_444) (fun _ h9 => h9) hfs d_M_hasCommon_18 ?_
  refine lv_bipush (v := (nI (6))) hx hb d_M_hasCommon_21 (by decide) ?_
  refine lv_iload_n hx hb d_M_hasCommon_23 rfl (lv_at hl 3 rfl) ?_
  refine jv_imul hx hb d_M_hasCommon_24 ?_
  refine lv_iload hx hb d_M_hasCommon_25 (lv_at hl 0 rfl) ?_
  refine jv_iadd hx hb d_M_hasCommon_27 ?_
  refine ja_ald (k := (6 * a) + 0) hx hb ha.1 hP 1 0 rfl rfl (by omega) (by omega) d_M_hasCommon_28 ?_
  refine lv_aload_n hx hb d_M_hasCommon_29 rfl (lv_at hl 2 rfl) ?_
  refine va_get (D := g.1) (ci := 3) (v := .ref ak) (C := R_M) (T := F_M) (N := 19) hx hb htB in_M hown ha.1 hP 0 rfl rfl 2 (by decide) (htB _ kw_444) (fun _ h9 => h9) hfs d_M_hasCommon_30 ?_
  refine lv_bipush (v := (nI (6))) hx hb d_M_hasCommon_33 (by decide) ?_
  refine lv_iload_n hx hb d_M_hasCommon_35 rfl (lv_at hl 4 rfl) ?_
  refine jv_imul hx hb d_M_hasCommon_36 ?_
  refine lv_iload hx hb d_M_hasCommon_37 (lv_at hl 0 rfl) ?_
  refine jv_iadd hx hb d_M_hasCommon_39 ?_
  refine ja_ald (k := (6 * b) + 0) hx hb ha.1 hP 1 0 rfl rfl (by omega) (by omega) d_M_hasCommon_40 ?_
  refine va_calli (va_runS (As := [.int (sk ((6 * a) + 0)), .int (sk ((6 * b) + 0))]) (rest := [.int (nI (0)), .ref ac]) ⟨hx, hb, hml, hown, htB⟩ (p_M_more l g z _ (sk ((6 * a) + 0)) (sk ((6 * b) + 0))) (va_cwS 2 htB (gS kw_540 kw_541 kw_3 g_M_more) rfl rfl rfl (by decide +kernel) ⟨by decide, by decide⟩) (pre_S hS hz ha trivial) rfl rfl hl.1 rfl (lv_room (Nat.le_of_ble_eq_true rfl)) d_M_hasCommon_41 ⟨by decide, by decide⟩) hS (fun q _ h => h.elim) (fun q h => h.elim) (fun r_1 u t H1 locs ht hvm hw hB hz1 hk1 hS => ?_)
  obtain rfl := hB.symm.trans ht
  subst hw
  refine ja_ast (k := 0) hx hb ha.1 hP hD hS 2 0 rfl rfl (by omega) (by omega) d_M_hasCommon_44 (fun H locs hP hD hS => ?_)
  have hP : va_P g.1 cls [(h, .inr (3, fs)), (ak, eI g 48 (sk)), (ac, eI g 6 (upd (cm) (0) (mxI (sk ((6 * a) + 0)) (sk ((6 * b) + 0)))))] H := hP
  have hD : va_D A [(h, .inr (3, fs)), (ak, eI g 48 (sk)), (ac, eI g 6 (upd (cm) (0) (mxI (sk ((6 * a) + 0)) (sk ((6 * b) + 0)))))] := hD
  refine lv_aload_n hx hb d_M_hasCommon_45 rfl (lv_at hl 2 rfl) ?_
  refine va_get (D := g.1) (ci := 3) (v := .ref ac) (C := R_M) (T := F_M) (N := 19) hx hb htB in_M hown ha.1 hP 0 rfl rfl 9 (by decide) (htB _ kw_451) (fun _ h9 => h9) hfc d_M_hasCommon_46 ?_
  refine lv_iconst (v := (nI (3))) hx hb d_M_hasCommon_49 (by decide) ?_
  refine lv_iload hx hb d_M_hasCommon_50 (lv_at hl 0 rfl) ?_
  refine jv_iadd hx hb d_M_hasCommon_52 ?_
  refine lv_aload_n hx hb d_M_hasCommon_53 rfl (lv_at hl 2 rfl) ?_
  refine va_get (D := g.1) (ci := 3) (v := .ref ak) (C := R_M) (T := F_M) (N := 19) hx hb htB in_M hown ha.1 hP 0 rfl rfl 2 (by decide) (htB _ kw_444) (fun _ h9 => h9) hfs d_M_hasCommon_54 ?_
  refine lv_bipush (v := (nI (6))) hx hb d_M_hasCommon_57 (by decide) ?_
  refine lv_iload_n hx hb d_M_hasCommon_59 rfl (lv_at hl 3 rfl) ?_
  refine jv_imul hx hb d_M_hasCommon_60 ?_
  refine lv_iconst (v := (nI (3))) hx hb d_M_hasCommon_61 (by decide) ?_
  refine jv_iadd hx hb d_M_hasCommon_62 ?_
  refine lv_iload hx hb d_M_hasCommon_63 (lv_at hl 0 rfl) ?_
  refine jv_iadd hx hb d_M_hasCommon_65 ?_
  refine ja_ald (k := ((6 * a) + 3) + 0) hx hb ha.1 hP 1 0 rfl rfl (by omega) (by omega) d_M_hasCommon_66 ?_
  refine lv_aload_n hx hb d_M_hasCommon_67 rfl (lv_at hl 2 rfl) ?_
  refine va_get (D := g.1) (ci := 3) (v := .ref ak) (C := R_M) (T := F_M) (N := 19) hx hb htB in_M hown ha.1 hP 0 rfl rfl 2 (by decide) (htB _ kw_444) (fun _ h9 => h9) hfs d_M_hasCommon_68 ?_
  refine lv_bipush (v := (nI (6))) hx hb d_M_hasCommon_71 (by decide) ?_
  refine lv_iload_n hx hb d_M_hasCommon_73 rfl (lv_at hl 4 rfl) ?_
  refine jv_imul hx hb d_M_hasCommon_74 ?_
  refine lv_iconst (v := (nI (3))) hx hb d_M_hasCommon_75 (by decide) ?_
  refine jv_iadd hx hb d_M_hasCommon_76 ?_
  refine lv_iload hx hb d_M_hasCommon_77 (lv_at hl 0 rfl) ?_
  refine jv_iadd hx hb d_M_hasCommon_79 ?_
  refine ja_ald (k := ((6 * b) + 3) + 0) hx hb ha.1 hP 1 0 rfl rfl (by omega) (by omega) d_M_hasCommon_80 ?_
  refine va_calli (va_runS (As := [.int (sk (((6 * a) + 3) + 0)), .int (sk (((6 * b) + 3) + 0))]) (rest := [.int (nI (3)), .ref ac]) ⟨hx, hb, hml, hown, htB⟩ (p_M_less l g z _ (sk (((6 * a) + 3) + 0)) (sk (((6 * b) + 3) + 0))) (va_cwS 2 htB (gS kw_543 kw_544 kw_3 g_M_less) rfl rfl rfl (by decide +kernel) ⟨by decide, by decide⟩) (pre_S hS hz ha trivial) rfl rfl hl.1 rfl (lv_room (Nat.le_of_ble_eq_true rfl)) d_M_hasCommon_81 ⟨by decide, by decide⟩) hS (fun q _ h => h.elim) (fun q h => h.elim) (fun r_2 u t H1 locs ht hvm hw hB hz1 hk1 hS => ?_)
  obtain rfl := hB.symm.trans ht
  subst hw
  refine ja_ast (k := 3) hx hb ha.1 hP hD hS 2 0 rfl rfl (by omega) (by omega) d_M_hasCommon_84 (fun H locs hP hD hS => ?_)
  have hP : va_P g.1 cls [(h, .inr (3, fs)), (ak, eI g 48 (sk)), (ac, eI g 6 (upd (upd (cm) (0) (mxI (sk ((6 * a) + 0)) (sk ((6 * b) + 0)))) (3) (mnI (sk (((6 * a) + 3) + 0)) (sk (((6 * b) + 3) + 0)))))] H := hP
  have hD : va_D A [(h, .inr (3, fs)), (ak, eI g 48 (sk)), (ac, eI g 6 (upd (upd (cm) (0) (mxI (sk ((6 * a) + 0)) (sk ((6 * b) + 0)))) (3) (mnI (sk (((6 * a) + 3) + 0)) (sk (((6 * b) + 3) + 0)))))] := hD
  refine lv_iload_n hx hb d_M_hasCommon_85 rfl (lv_at hl 1 rfl) ?_
  refine lv_if_eq (tgt := 112) hx hb d_M_hasCommon_86 (by decide) (fun h => absurd h (by decide)) (fun _ => ?_)
  refine lv_aload_n hx hb d_M_hasCommon_89 rfl (lv_at hl 2 rfl) ?_
  refine va_get (D := g.1) (ci := 3) (v := .ref ac) (C := R_M) (T := F_M) (N := 19) hx hb htB in_M hown ha.1 hP 0 rfl rfl 9 (by decide) (htB _ kw_451) (fun _ h9 => h9) hfc d_M_hasCommon_90 ?_
  refine lv_iload hx hb d_M_hasCommon_93 (lv_at hl 0 rfl) ?_
  refine ja_ald (k := 0) hx hb ha.1 hP 2 0 rfl rfl (by omega) (by omega) d_M_hasCommon_95 ?_
  rw [show (upd (upd (cm) (0) (mxI (sk ((6 * a) + 0)) (sk ((6 * b) + 0)))) (3) (mnI (sk (((6 * a) + 3) + 0)) (sk (((6 * b) + 3) + 0)))) (0) = (mxI (sk ((6 * a) + 0)) (sk ((6 * b) + 0))) from rfl]
  refine lv_aload_n hx hb d_M_hasCommon_96 rfl (lv_at hl 2 rfl) ?_
  refine va_get (D := g.1) (ci := 3) (v := .ref ac) (C := R_M) (T := F_M) (N := 19) hx hb htB in_M hown ha.1 hP 0 rfl rfl 9 (by decide) (htB _ kw_451) (fun _ h9 => h9) hfc d_M_hasCommon_97 ?_
  refine lv_iconst (v := (nI (3))) hx hb d_M_hasCommon_100 (by decide) ?_
  refine lv_iload hx hb d_M_hasCommon_101 (lv_at hl 0 rfl) ?_
  refine jv_iadd hx hb d_M_hasCommon_103 ?_
  refine ja_ald (k := 3) hx hb ha.1 hP 2 0 rfl rfl (by omega) (by omega) d_M_hasCommon_104 ?_
  rw [show (upd (upd (cm) (0) (mxI (sk ((6 * a) + 0)) (sk ((6 * b) + 0)))) (3) (mnI (sk (((6 * a) + 3) + 0)) (sk (((6 * b) + 3) + 0)))) (3) = (mnI (sk (((6 * a) + 3) + 0)) (sk (((6 * b) + 3) + 0))) from rfl]
  refine lv_icmp_ge (tgt := 112) hx hb d_M_hasCommon_105 (by decide) (fun c_4 => ?_) (fun c_4 => ?_)
  · refine lv_iconst (v := (nI (0))) hx hb d_M_hasCommon_112 (by decide) ?_
    refine lv_istore_n (lv' := [(3, .int (nI (0))), (4, .int (nI (0))), (0, .ref h), (1, .int (nI (a))), (2, .int (nI (b)))]) hx hb d_M_hasCommon_113 rfl hl (by decide) rfl (fun ls hl => ?_)
    refine lv_iinc (v := nI (1)) (lv' := [(4, .int (nI (1))), (3, .int (nI (0))), (0, .ref h), (1, .int (nI (a))), (2, .int (nI (b)))]) hx hb d_M_hasCommon_114 hl (k := 1) rfl (nI_add _ 1) (by decide) rfl (fun ls hl => ?_)
    refine lv_goto (tgt := 5) hx hb d_M_hasCommon_117 (by decide) ?_
    refine lv_iload hx hb d_M_hasCommon_5 (lv_at hl 0 rfl) ?_
    refine lv_iconst (v := (nI (3))) hx hb d_M_hasCommon_7 (by decide) ?_
    refine jv_icmp_ge (tgt := 120) hx hb (by omega) (by omega) d_M_hasCommon_8 (by decide) (fun h => absurd h (by decide)) (fun _ => ?_)
    refine lv_aload_n hx hb d_M_hasCommon_11 rfl (lv_at hl 2 rfl) ?_
    refine va_get (D := g.1) (ci := 3) (v := .ref ac) (C := R_M) (T := F_M) (N := 19) hx hb htB in_M hown ha.1 hP 0 rfl rfl 9 (by decide) (htB _ kw_451) (fun _ h9 => h9) hfc d_M_hasCommon_12 ?_
    refine lv_iload hx hb d_M_hasCommon_15 (lv_at hl 0 rfl) ?_
    refine lv_aload_n hx hb d_M_hasCommon_17 rfl (lv_at hl 2 rfl) ?_
    refine va_get (D := g.1) (ci := 3) (v := .ref ak) (C := R_M) (T := F_M) (N := 19) hx hb htB in_M hown ha.1 hP 0 rfl rfl 2 (by decide) (htB _ kw_444) (fun _ h9 => h9) hfs d_M_hasCommon_18 ?_
    refine lv_bipush (v := (nI (6))) hx hb d_M_hasCommon_21 (by decide) ?_
    refine lv_iload_n hx hb d_M_hasCommon_23 rfl (lv_at hl 3 rfl) ?_
    refine jv_imul hx hb d_M_hasCommon_24 ?_
    refine lv_iload hx hb d_M_hasCommon_25 (lv_at hl 0 rfl) ?_
    refine jv_iadd hx hb d_M_hasCommon_27 ?_
    refine ja_ald (k := (6 * a) + 1) hx hb ha.1 hP 1 0 rfl rfl (by omega) (by omega) d_M_hasCommon_28 ?_
    refine lv_aload_n hx hb d_M_hasCommon_29 rfl (lv_at hl 2 rfl) ?_
    refine va_get (D := g.1) (ci := 3) (v := .ref ak) (C := R_M) (T := F_M) (N := 19) hx hb htB in_M hown ha.1 hP 0 rfl rfl 2 (by decide) (htB _ kw_444) (fun _ h9 => h9) hfs d_M_hasCommon_30 ?_
    refine lv_bipush (v := (nI (6))) hx hb d_M_hasCommon_33 (by decide) ?_
    refine lv_iload_n hx hb d_M_hasCommon_35 rfl (lv_at hl 4 rfl) ?_
    refine jv_imul hx hb d_M_hasCommon_36 ?_
    refine lv_iload hx hb d_M_hasCommon_37 (lv_at hl 0 rfl) ?_
    refine jv_iadd hx hb d_M_hasCommon_39 ?_
    refine ja_ald (k := (6 * b) + 1) hx hb ha.1 hP 1 0 rfl rfl (by omega) (by omega) d_M_hasCommon_40 ?_
    refine va_calli (va_runS (As := [.int (sk ((6 * a) + 1)), .int (sk ((6 * b) + 1))]) (rest := [.int (nI (1)), .ref ac]) ⟨hx, hb, hml, hown, htB⟩ (p_M_more l g z _ (sk ((6 * a) + 1)) (sk ((6 * b) + 1))) (va_cwS 2 htB (gS kw_540 kw_541 kw_3 g_M_more) rfl rfl rfl (by decide +kernel) ⟨by decide, by decide⟩) (pre_S hS hz ha trivial) rfl rfl hl.1 rfl (lv_room (Nat.le_of_ble_eq_true rfl)) d_M_hasCommon_41 ⟨by decide, by decide⟩) hS (fun q _ h => h.elim) (fun q h => h.elim) (fun r_5 u t H1 locs ht hvm hw hB hz1 hk1 hS => ?_)
    obtain rfl := hB.symm.trans ht
    subst hw
    refine ja_ast (k := 1) hx hb ha.1 hP hD hS 2 0 rfl rfl (by omega) (by omega) d_M_hasCommon_44 (fun H locs hP hD hS => ?_)
    have hP : va_P g.1 cls [(h, .inr (3, fs)), (ak, eI g 48 (sk)), (ac, eI g 6 (upd (upd (upd (cm) (0) (mxI (sk ((6 * a) + 0)) (sk ((6 * b) + 0)))) (3) (mnI (sk (((6 * a) + 3) + 0)) (sk (((6 * b) + 3) + 0)))) (1) (mxI (sk ((6 * a) + 1)) (sk ((6 * b) + 1)))))] H := hP
    have hD : va_D A [(h, .inr (3, fs)), (ak, eI g 48 (sk)), (ac, eI g 6 (upd (upd (upd (cm) (0) (mxI (sk ((6 * a) + 0)) (sk ((6 * b) + 0)))) (3) (mnI (sk (((6 * a) + 3) + 0)) (sk (((6 * b) + 3) + 0)))) (1) (mxI (sk ((6 * a) + 1)) (sk ((6 * b) + 1)))))] := hD
    refine lv_aload_n hx hb d_M_hasCommon_45 rfl (lv_at hl 2 rfl) ?_
    refine va_get (D := g.1) (ci := 3) (v := .ref ac) (C := R_M) (T := F_M) (N := 19) hx hb htB in_M hown ha.1 hP 0 rfl rfl 9 (by decide) (htB _ kw_451) (fun _ h9 => h9) hfc d_M_hasCommon_46 ?_
    refine lv_iconst (v := (nI (3))) hx hb d_M_hasCommon_49 (by decide) ?_
    refine lv_iload hx hb d_M_hasCommon_50 (lv_at hl 0 rfl) ?_
    refine jv_iadd hx hb d_M_hasCommon_52 ?_
    refine lv_aload_n hx hb d_M_hasCommon_53 rfl (lv_at hl 2 rfl) ?_
    refine va_get (D := g.1) (ci := 3) (v := .ref ak) (C := R_M) (T := F_M) (N := 19) hx hb htB in_M hown ha.1 hP 0 rfl rfl 2 (by decide) (htB _ kw_444) (fun _ h9 => h9) hfs d_M_hasCommon_54 ?_
    refine lv_bipush (v := (nI (6))) hx hb d_M_hasCommon_57 (by decide) ?_
    refine lv_iload_n hx hb d_M_hasCommon_59 rfl (lv_at hl 3 rfl) ?_
    refine jv_imul hx hb d_M_hasCommon_60 ?_
    refine lv_iconst (v := (nI (3))) hx hb d_M_hasCommon_61 (by decide) ?_
    refine jv_iadd hx hb d_M_hasCommon_62 ?_
    refine lv_iload hx hb d_M_hasCommon_63 (lv_at hl 0 rfl) ?_
    refine jv_iadd hx hb d_M_hasCommon_65 ?_
    refine ja_ald (k := ((6 * a) + 3) + 1) hx hb ha.1 hP 1 0 rfl rfl (by omega) (by omega) d_M_hasCommon_66 ?_
    refine lv_aload_n hx hb d_M_hasCommon_67 rfl (lv_at hl 2 rfl) ?_
    refine va_get (D := g.1) (ci := 3) (v := .ref ak) (C := R_M) (T := F_M) (N := 19) hx hb htB in_M hown ha.1 hP 0 rfl rfl 2 (by decide) (htB _ kw_444) (fun _ h9 => h9) hfs d_M_hasCommon_68 ?_
    refine lv_bipush (v := (nI (6))) hx hb d_M_hasCommon_71 (by decide) ?_
    refine lv_iload_n hx hb d_M_hasCommon_73 rfl (lv_at hl 4 rfl) ?_
    refine jv_imul hx hb d_M_hasCommon_74 ?_
    refine lv_iconst (v := (nI (3))) hx hb d_M_hasCommon_75 (by decide) ?_
    refine jv_iadd hx hb d_M_hasCommon_76 ?_
    refine lv_iload hx hb d_M_hasCommon_77 (lv_at hl 0 rfl) ?_
    refine jv_iadd hx hb d_M_hasCommon_79 ?_
    refine ja_ald (k := ((6 * b) + 3) + 1) hx hb ha.1 hP 1 0 rfl rfl (by omega) (by omega) d_M_hasCommon_80 ?_
    refine va_calli (va_runS (As := [.int (sk (((6 * a) + 3) + 1)), .int (sk (((6 * b) + 3) + 1))]) (rest := [.int (nI (4)), .ref ac]) ⟨hx, hb, hml, hown, htB⟩ (p_M_less l g z _ (sk (((6 * a) + 3) + 1)) (sk (((6 * b) + 3) + 1))) (va_cwS 2 htB (gS kw_543 kw_544 kw_3 g_M_less) rfl rfl rfl (by decide +kernel) ⟨by decide, by decide⟩) (pre_S hS hz ha trivial) rfl rfl hl.1 rfl (lv_room (Nat.le_of_ble_eq_true rfl)) d_M_hasCommon_81 ⟨by decide, by decide⟩) hS (fun q _ h => h.elim) (fun q h => h.elim) (fun r_6 u t H1 locs ht hvm hw hB hz1 hk1 hS => ?_)
    obtain rfl := hB.symm.trans ht
    subst hw
    refine ja_ast (k := 4) hx hb ha.1 hP hD hS 2 0 rfl rfl (by omega) (by omega) d_M_hasCommon_84 (fun H locs hP hD hS => ?_)
    have hP : va_P g.1 cls [(h, .inr (3, fs)), (ak, eI g 48 (sk)), (ac, eI g 6 (upd (upd (upd (upd (cm) (0) (mxI (sk ((6 * a) + 0)) (sk ((6 * b) + 0)))) (3) (mnI (sk (((6 * a) + 3) + 0)) (sk (((6 * b) + 3) + 0)))) (1) (mxI (sk ((6 * a) + 1)) (sk ((6 * b) + 1)))) (4) (mnI (sk (((6 * a) + 3) + 1)) (sk (((6 * b) + 3) + 1)))))] H := hP
    have hD : va_D A [(h, .inr (3, fs)), (ak, eI g 48 (sk)), (ac, eI g 6 (upd (upd (upd (upd (cm) (0) (mxI (sk ((6 * a) + 0)) (sk ((6 * b) + 0)))) (3) (mnI (sk (((6 * a) + 3) + 0)) (sk (((6 * b) + 3) + 0)))) (1) (mxI (sk ((6 * a) + 1)) (sk ((6 * b) + 1)))) (4) (mnI (sk (((6 * a) + 3) + 1)) (sk (((6 * b) + 3) + 1)))))] := hD
    refine lv_iload_n hx hb d_M_hasCommon_85 rfl (lv_at hl 1 rfl) ?_
    refine lv_if_eq (tgt := 112) hx hb d_M_hasCommon_86 (by decide) (fun _ => ?_) (fun h => absurd h (by decide))
    refine lv_iconst (v := (nI (0))) hx hb d_M_hasCommon_112 (by decide) ?_
    refine lv_istore_n (lv' := [(3, .int (nI (0))), (4, .int (nI (1))), (0, .ref h), (1, .int (nI (a))), (2, .int (nI (b)))]) hx hb d_M_hasCommon_113 rfl hl (by decide) rfl (fun ls hl => ?_)
    refine lv_iinc (v := nI (2)) (lv' := [(4, .int (nI (2))), (3, .int (nI (0))), (0, .ref h), (1, .int (nI (a))), (2, .int (nI (b)))]) hx hb d_M_hasCommon_114 hl (k := 1) rfl (nI_add _ 1) (by decide) rfl (fun ls hl => ?_)
    refine lv_goto (tgt := 5) hx hb d_M_hasCommon_117 (by decide) ?_
    refine lv_iload hx hb d_M_hasCommon_5 (lv_at hl 0 rfl) ?_
    refine lv_iconst (v := (nI (3))) hx hb d_M_hasCommon_7 (by decide) ?_
    refine jv_icmp_ge (tgt := 120) hx hb (by omega) (by omega) d_M_hasCommon_8 (by decide) (fun h => absurd h (by decide)) (fun _ => ?_)
    refine lv_aload_n hx hb d_M_hasCommon_11 rfl (lv_at hl 2 rfl) ?_
    refine va_get (D := g.1) (ci := 3) (v := .ref ac) (C := R_M) (T := F_M) (N := 19) hx hb htB in_M hown ha.1 hP 0 rfl rfl 9 (by decide) (htB _ kw_451) (fun _ h9 => h9) hfc d_M_hasCommon_12 ?_
    refine lv_iload hx hb d_M_hasCommon_15 (lv_at hl 0 rfl) ?_
    refine lv_aload_n hx hb d_M_hasCommon_17 rfl (lv_at hl 2 rfl) ?_
    refine va_get (D := g.1) (ci := 3) (v := .ref ak) (C := R_M) (T := F_M) (N := 19) hx hb htB in_M hown ha.1 hP 0 rfl rfl 2 (by decide) (htB _ kw_444) (fun _ h9 => h9) hfs d_M_hasCommon_18 ?_
    refine lv_bipush (v := (nI (6))) hx hb d_M_hasCommon_21 (by decide) ?_
    refine lv_iload_n hx hb d_M_hasCommon_23 rfl (lv_at hl 3 rfl) ?_
    refine jv_imul hx hb d_M_hasCommon_24 ?_
    refine lv_iload hx hb d_M_hasCommon_25 (lv_at hl 0 rfl) ?_
    refine jv_iadd hx hb d_M_hasCommon_27 ?_
    refine ja_ald (k := (6 * a) + 2) hx hb ha.1 hP 1 0 rfl rfl (by omega) (by omega) d_M_hasCommon_28 ?_
    refine lv_aload_n hx hb d_M_hasCommon_29 rfl (lv_at hl 2 rfl) ?_
    refine va_get (D := g.1) (ci := 3) (v := .ref ak) (C := R_M) (T := F_M) (N := 19) hx hb htB in_M hown ha.1 hP 0 rfl rfl 2 (by decide) (htB _ kw_444) (fun _ h9 => h9) hfs d_M_hasCommon_30 ?_
    refine lv_bipush (v := (nI (6))) hx hb d_M_hasCommon_33 (by decide) ?_
    refine lv_iload_n hx hb d_M_hasCommon_35 rfl (lv_at hl 4 rfl) ?_
    refine jv_imul hx hb d_M_hasCommon_36 ?_
    refine lv_iload hx hb d_M_hasCommon_37 (lv_at hl 0 rfl) ?_
    refine jv_iadd hx hb d_M_hasCommon_39 ?_
    refine ja_ald (k := (6 * b) + 2) hx hb ha.1 hP 1 0 rfl rfl (by omega) (by omega) d_M_hasCommon_40 ?_
    refine va_calli (va_runS (As := [.int (sk ((6 * a) + 2)), .int (sk ((6 * b) + 2))]) (rest := [.int (nI (2)), .ref ac]) ⟨hx, hb, hml, hown, htB⟩ (p_M_more l g z _ (sk ((6 * a) + 2)) (sk ((6 * b) + 2))) (va_cwS 2 htB (gS kw_540 kw_541 kw_3 g_M_more) rfl rfl rfl (by decide +kernel) ⟨by decide, by decide⟩) (pre_S hS hz ha trivial) rfl rfl hl.1 rfl (lv_room (Nat.le_of_ble_eq_true rfl)) d_M_hasCommon_41 ⟨by decide, by decide⟩) hS (fun q _ h => h.elim) (fun q h => h.elim) (fun r_8 u t H1 locs ht hvm hw hB hz1 hk1 hS => ?_)
    obtain rfl := hB.symm.trans ht
    subst hw
    refine ja_ast (k := 2) hx hb ha.1 hP hD hS 2 0 rfl rfl (by omega) (by omega) d_M_hasCommon_44 (fun H locs hP hD hS => ?_)
    have hP : va_P g.1 cls [(h, .inr (3, fs)), (ak, eI g 48 (sk)), (ac, eI g 6 (upd (upd (upd (upd (upd (cm) (0) (mxI (sk ((6 * a) + 0)) (sk ((6 * b) + 0)))) (3) (mnI (sk (((6 * a) + 3) + 0)) (sk (((6 * b) + 3) + 0)))) (1) (mxI (sk ((6 * a) + 1)) (sk ((6 * b) + 1)))) (4) (mnI (sk (((6 * a) + 3) + 1)) (sk (((6 * b) + 3) + 1)))) (2) (mxI (sk ((6 * a) + 2)) (sk ((6 * b) + 2)))))] H := hP
    have hD : va_D A [(h, .inr (3, fs)), (ak, eI g 48 (sk)), (ac, eI g 6 (upd (upd (upd (upd (upd (cm) (0) (mxI (sk ((6 * a) + 0)) (sk ((6 * b) + 0)))) (3) (mnI (sk (((6 * a) + 3) + 0)) (sk (((6 * b) + 3) + 0)))) (1) (mxI (sk ((6 * a) + 1)) (sk ((6 * b) + 1)))) (4) (mnI (sk (((6 * a) + 3) + 1)) (sk (((6 * b) + 3) + 1)))) (2) (mxI (sk ((6 * a) + 2)) (sk ((6 * b) + 2)))))] := hD
    refine lv_aload_n hx hb d_M_hasCommon_45 rfl (lv_at hl 2 rfl) ?_
    refine va_get (D := g.1) (ci := 3) (v := .ref ac) (C := R_M) (T := F_M) (N := 19) hx hb htB in_M hown ha.1 hP 0 rfl rfl 9 (by decide) (htB _ kw_451) (fun _ h9 => h9) hfc d_M_hasCommon_46 ?_
    refine lv_iconst (v := (nI (3))) hx hb d_M_hasCommon_49 (by decide) ?_
    refine lv_iload hx hb d_M_hasCommon_50 (lv_at hl 0 rfl) ?_
    refine jv_iadd hx hb d_M_hasCommon_52 ?_
    refine lv_aload_n hx hb d_M_hasCommon_53 rfl (lv_at hl 2 rfl) ?_
    refine va_get (D := g.1) (ci := 3) (v := .ref ak) (C := R_M) (T := F_M) (N := 19) hx hb htB in_M hown ha.1 hP 0 rfl rfl 2 (by decide) (htB _ kw_444) (fun _ h9 => h9) hfs d_M_hasCommon_54 ?_
    refine lv_bipush (v := (nI (6))) hx hb d_M_hasCommon_57 (by decide) ?_
    refine lv_iload_n hx hb d_M_hasCommon_59 rfl (lv_at hl 3 rfl) ?_
    refine jv_imul hx hb d_M_hasCommon_60 ?_
    refine lv_iconst (v := (nI (3))) hx hb d_M_hasCommon_61 (by decide) ?_
    refine jv_iadd hx hb d_M_hasCommon_62 ?_
    refine lv_iload hx hb d_M_hasCommon_63 (lv_at hl 0 rfl) ?_
    refine jv_iadd hx hb d_M_hasCommon_65 ?_
    refine ja_ald (k := ((6 * a) + 3) + 2) hx hb ha.1 hP 1 0 rfl rfl (by omega) (by omega) d_M_hasCommon_66 ?_
    refine lv_aload_n hx hb d_M_hasCommon_67 rfl (lv_at hl 2 rfl) ?_
    refine va_get (D := g.1) (ci := 3) (v := .ref ak) (C := R_M) (T := F_M) (N := 19) hx hb htB in_M hown ha.1 hP 0 rfl rfl 2 (by decide) (htB _ kw_444) (fun _ h9 => h9) hfs d_M_hasCommon_68 ?_
    refine lv_bipush (v := (nI (6))) hx hb d_M_hasCommon_71 (by decide) ?_
    refine lv_iload_n hx hb d_M_hasCommon_73 rfl (lv_at hl 4 rfl) ?_
    refine jv_imul hx hb d_M_hasCommon_74 ?_
    refine lv_iconst (v := (nI (3))) hx hb d_M_hasCommon_75 (by decide) ?_
    refine jv_iadd hx hb d_M_hasCommon_76 ?_
    refine lv_iload hx hb d_M_hasCommon_77 (lv_at hl 0 rfl) ?_
    refine jv_iadd hx hb d_M_hasCommon_79 ?_
    refine ja_ald (k := ((6 * b) + 3) + 2) hx hb ha.1 hP 1 0 rfl rfl (by omega) (by omega) d_M_hasCommon_80 ?_
    refine va_calli (va_runS (As := [.int (sk (((6 * a) + 3) + 2)), .int (sk (((6 * b) + 3) + 2))]) (rest := [.int (nI (5)), .ref ac]) ⟨hx, hb, hml, hown, htB⟩ (p_M_less l g z _ (sk (((6 * a) + 3) + 2)) (sk (((6 * b) + 3) + 2))) (va_cwS 2 htB (gS kw_543 kw_544 kw_3 g_M_less) rfl rfl rfl (by decide +kernel) ⟨by decide, by decide⟩) (pre_S hS hz ha trivial) rfl rfl hl.1 rfl (lv_room (Nat.le_of_ble_eq_true rfl)) d_M_hasCommon_81 ⟨by decide, by decide⟩) hS (fun q _ h => h.elim) (fun q h => h.elim) (fun r_9 u t H1 locs ht hvm hw hB hz1 hk1 hS => ?_)
    obtain rfl := hB.symm.trans ht
    subst hw
    refine ja_ast (k := 5) hx hb ha.1 hP hD hS 2 0 rfl rfl (by omega) (by omega) d_M_hasCommon_84 (fun H locs hP hD hS => ?_)
    have hP : va_P g.1 cls [(h, .inr (3, fs)), (ak, eI g 48 (sk)), (ac, eI g 6 (upd (upd (upd (upd (upd (upd (cm) (0) (mxI (sk ((6 * a) + 0)) (sk ((6 * b) + 0)))) (3) (mnI (sk (((6 * a) + 3) + 0)) (sk (((6 * b) + 3) + 0)))) (1) (mxI (sk ((6 * a) + 1)) (sk ((6 * b) + 1)))) (4) (mnI (sk (((6 * a) + 3) + 1)) (sk (((6 * b) + 3) + 1)))) (2) (mxI (sk ((6 * a) + 2)) (sk ((6 * b) + 2)))) (5) (mnI (sk (((6 * a) + 3) + 2)) (sk (((6 * b) + 3) + 2)))))] H := hP
    have hD : va_D A [(h, .inr (3, fs)), (ak, eI g 48 (sk)), (ac, eI g 6 (upd (upd (upd (upd (upd (upd (cm) (0) (mxI (sk ((6 * a) + 0)) (sk ((6 * b) + 0)))) (3) (mnI (sk (((6 * a) + 3) + 0)) (sk (((6 * b) + 3) + 0)))) (1) (mxI (sk ((6 * a) + 1)) (sk ((6 * b) + 1)))) (4) (mnI (sk (((6 * a) + 3) + 1)) (sk (((6 * b) + 3) + 1)))) (2) (mxI (sk ((6 * a) + 2)) (sk ((6 * b) + 2)))) (5) (mnI (sk (((6 * a) + 3) + 2)) (sk (((6 * b) + 3) + 2)))))] := hD
    refine lv_iload_n hx hb d_M_hasCommon_85 rfl (lv_at hl 1 rfl) ?_
    refine lv_if_eq (tgt := 112) hx hb d_M_hasCommon_86 (by decide) (fun _ => ?_) (fun h => absurd h (by decide))
    refine lv_iconst (v := (nI (0))) hx hb d_M_hasCommon_112 (by decide) ?_
    refine lv_istore_n (lv' := [(3, .int (nI (0))), (4, .int (nI (2))), (0, .ref h), (1, .int (nI (a))), (2, .int (nI (b)))]) hx hb d_M_hasCommon_113 rfl hl (by decide) rfl (fun ls hl => ?_)
    refine lv_iinc (v := nI (3)) (lv' := [(4, .int (nI (3))), (3, .int (nI (0))), (0, .ref h), (1, .int (nI (a))), (2, .int (nI (b)))]) hx hb d_M_hasCommon_114 hl (k := 1) rfl (nI_add _ 1) (by decide) rfl (fun ls hl => ?_)
    refine lv_goto (tgt := 5) hx hb d_M_hasCommon_117 (by decide) ?_
    refine lv_iload hx hb d_M_hasCommon_5 (lv_at hl 0 rfl) ?_
    refine lv_iconst (v := (nI (3))) hx hb d_M_hasCommon_7 (by decide) ?_
    refine jv_icmp_ge (tgt := 120) hx hb (by omega) (by omega) d_M_hasCommon_8 (by decide) (fun _ => ?_) (fun h => absurd h (by decide))
    refine lv_iload_n hx hb d_M_hasCommon_120 rfl (lv_at hl 1 rfl) ?_
    have hP9 := hP.sub (ws' := [(h, .inr (3, fs)), (ak, eI g 48 (sk)), (ac, eI g 6 (upd (upd (upd (upd (upd (upd (cm) (0) (mxI (sk ((6 * a) + 0)) (sk ((6 * b) + 0)))) (3) (mnI (sk (((6 * a) + 3) + 0)) (sk (((6 * b) + 3) + 0)))) (1) (mxI (sk ((6 * a) + 1)) (sk ((6 * b) + 1)))) (4) (mnI (sk (((6 * a) + 3) + 1)) (sk (((6 * b) + 3) + 1)))) (2) (mxI (sk ((6 * a) + 2)) (sk ((6 * b) + 2)))) (5) (mnI (sk (((6 * a) + 3) + 2)) (sk (((6 * b) + 3) + 2)))))]) [0, 1, 2] rfl
    have hD9 := hD.sub (ws' := [(h, .inr (3, fs)), (ak, eI g 48 (sk)), (ac, eI g 6 (upd (upd (upd (upd (upd (upd (cm) (0) (mxI (sk ((6 * a) + 0)) (sk ((6 * b) + 0)))) (3) (mnI (sk (((6 * a) + 3) + 0)) (sk (((6 * b) + 3) + 0)))) (1) (mxI (sk ((6 * a) + 1)) (sk ((6 * b) + 1)))) (4) (mnI (sk (((6 * a) + 3) + 1)) (sk (((6 * b) + 3) + 1)))) (2) (mxI (sk ((6 * a) + 2)) (sk ((6 * b) + 2)))) (5) (mnI (sk (((6 * a) + 3) + 2)) (sk (((6 * b) + 3) + 2)))))]) [0, 1, 2] (by decide) rfl
    exact (W.widen (k := 0) (n := 0) (Nat.le_of_ble_eq_true rfl) (Nat.le_of_ble_eq_true rfl) (W.zret (v := (nI (0))) hx hb hr (by decide) (fun t ht hW => ⟨⟨(nI (0)), (), rfl, (if_neg (fun q => q.1 c_4)).symm, by rw [ht]; exact hP9, hD9.re [h, ak, ac] rfl rfl⟩, hS.F ht⟩) hS.2.2 d_M_hasCommon_121))
  · refine lv_iconst (v := (nI (1))) hx hb d_M_hasCommon_108 (by decide) ?_
    refine lv_goto (tgt := 113) hx hb d_M_hasCommon_109 (by decide) ?_
    refine lv_istore_n (lv' := [(3, .int (nI (1))), (4, .int (nI (0))), (0, .ref h), (1, .int (nI (a))), (2, .int (nI (b)))]) hx hb d_M_hasCommon_113 rfl hl (by decide) rfl (fun ls hl => ?_)
    refine lv_iinc (v := nI (1)) (lv' := [(4, .int (nI (1))), (3, .int (nI (1))), (0, .ref h), (1, .int (nI (a))), (2, .int (nI (b)))]) hx hb d_M_hasCommon_114 hl (k := 1) rfl (nI_add _ 1) (by decide) rfl (fun ls hl => ?_)
    refine lv_goto (tgt := 5) hx hb d_M_hasCommon_117 (by decide) ?_
    refine lv_iload hx hb d_M_hasCommon_5 (lv_at hl 0 rfl) ?_
    refine lv_iconst (v := (nI (3))) hx hb d_M_hasCommon_7 (by decide) ?_
    refine jv_icmp_ge (tgt := 120) hx hb (by omega) (by omega) d_M_hasCommon_8 (by decide) (fun h => absurd h (by decide)) (fun _ => ?_)
    refine lv_aload_n hx hb d_M_hasCommon_11 rfl (lv_at hl 2 rfl) ?_
    refine va_get (D := g.1) (ci := 3) (v := .ref ac) (C := R_M) (T := F_M) (N := 19) hx hb htB in_M hown ha.1 hP 0 rfl rfl 9 (by decide) (htB _ kw_451) (fun _ h9 => h9) hfc d_M_hasCommon_12 ?_
    refine lv_iload hx hb d_M_hasCommon_15 (lv_at hl 0 rfl) ?_
    refine lv_aload_n hx hb d_M_hasCommon_17 rfl (lv_at hl 2 rfl) ?_
    refine va_get (D := g.1) (ci := 3) (v := .ref ak) (C := R_M) (T := F_M) (N := 19) hx hb htB in_M hown ha.1 hP 0 rfl rfl 2 (by decide) (htB _ kw_444) (fun _ h9 => h9) hfs d_M_hasCommon_18 ?_
    refine lv_bipush (v := (nI (6))) hx hb d_M_hasCommon_21 (by decide) ?_
    refine lv_iload_n hx hb d_M_hasCommon_23 rfl (lv_at hl 3 rfl) ?_
    refine jv_imul hx hb d_M_hasCommon_24 ?_
    refine lv_iload hx hb d_M_hasCommon_25 (lv_at hl 0 rfl) ?_
    refine jv_iadd hx hb d_M_hasCommon_27 ?_
    refine ja_ald (k := (6 * a) + 1) hx hb ha.1 hP 1 0 rfl rfl (by omega) (by omega) d_M_hasCommon_28 ?_
    refine lv_aload_n hx hb d_M_hasCommon_29 rfl (lv_at hl 2 rfl) ?_
    refine va_get (D := g.1) (ci := 3) (v := .ref ak) (C := R_M) (T := F_M) (N := 19) hx hb htB in_M hown ha.1 hP 0 rfl rfl 2 (by decide) (htB _ kw_444) (fun _ h9 => h9) hfs d_M_hasCommon_30 ?_
    refine lv_bipush (v := (nI (6))) hx hb d_M_hasCommon_33 (by decide) ?_
    refine lv_iload_n hx hb d_M_hasCommon_35 rfl (lv_at hl 4 rfl) ?_
    refine jv_imul hx hb d_M_hasCommon_36 ?_
    refine lv_iload hx hb d_M_hasCommon_37 (lv_at hl 0 rfl) ?_
    refine jv_iadd hx hb d_M_hasCommon_39 ?_
    refine ja_ald (k := (6 * b) + 1) hx hb ha.1 hP 1 0 rfl rfl (by omega) (by omega) d_M_hasCommon_40 ?_
    refine va_calli (va_runS (As := [.int (sk ((6 * a) + 1)), .int (sk ((6 * b) + 1))]) (rest := [.int (nI (1)), .ref ac]) ⟨hx, hb, hml, hown, htB⟩ (p_M_more l g z _ (sk ((6 * a) + 1)) (sk ((6 * b) + 1))) (va_cwS 2 htB (gS kw_540 kw_541 kw_3 g_M_more) rfl rfl rfl (by decide +kernel) ⟨by decide, by decide⟩) (pre_S hS hz ha trivial) rfl rfl hl.1 rfl (lv_room (Nat.le_of_ble_eq_true rfl)) d_M_hasCommon_41 ⟨by decide, by decide⟩) hS (fun q _ h => h.elim) (fun q h => h.elim) (fun r_11 u t H1 locs ht hvm hw hB hz1 hk1 hS => ?_)
    obtain rfl := hB.symm.trans ht
    subst hw
    refine ja_ast (k := 1) hx hb ha.1 hP hD hS 2 0 rfl rfl (by omega) (by omega) d_M_hasCommon_44 (fun H locs hP hD hS => ?_)
    have hP : va_P g.1 cls [(h, .inr (3, fs)), (ak, eI g 48 (sk)), (ac, eI g 6 (upd (upd (upd (cm) (0) (mxI (sk ((6 * a) + 0)) (sk ((6 * b) + 0)))) (3) (mnI (sk (((6 * a) + 3) + 0)) (sk (((6 * b) + 3) + 0)))) (1) (mxI (sk ((6 * a) + 1)) (sk ((6 * b) + 1)))))] H := hP
    have hD : va_D A [(h, .inr (3, fs)), (ak, eI g 48 (sk)), (ac, eI g 6 (upd (upd (upd (cm) (0) (mxI (sk ((6 * a) + 0)) (sk ((6 * b) + 0)))) (3) (mnI (sk (((6 * a) + 3) + 0)) (sk (((6 * b) + 3) + 0)))) (1) (mxI (sk ((6 * a) + 1)) (sk ((6 * b) + 1)))))] := hD
    refine lv_aload_n hx hb d_M_hasCommon_45 rfl (lv_at hl 2 rfl) ?_
    refine va_get (D := g.1) (ci := 3) (v := .ref ac) (C := R_M) (T := F_M) (N := 19) hx hb htB in_M hown ha.1 hP 0 rfl rfl 9 (by decide) (htB _ kw_451) (fun _ h9 => h9) hfc d_M_hasCommon_46 ?_
    refine lv_iconst (v := (nI (3))) hx hb d_M_hasCommon_49 (by decide) ?_
    refine lv_iload hx hb d_M_hasCommon_50 (lv_at hl 0 rfl) ?_
    refine jv_iadd hx hb d_M_hasCommon_52 ?_
    refine lv_aload_n hx hb d_M_hasCommon_53 rfl (lv_at hl 2 rfl) ?_
    refine va_get (D := g.1) (ci := 3) (v := .ref ak) (C := R_M) (T := F_M) (N := 19) hx hb htB in_M hown ha.1 hP 0 rfl rfl 2 (by decide) (htB _ kw_444) (fun _ h9 => h9) hfs d_M_hasCommon_54 ?_
    refine lv_bipush (v := (nI (6))) hx hb d_M_hasCommon_57 (by decide) ?_
    refine lv_iload_n hx hb d_M_hasCommon_59 rfl (lv_at hl 3 rfl) ?_
    refine jv_imul hx hb d_M_hasCommon_60 ?_
    refine lv_iconst (v := (nI (3))) hx hb d_M_hasCommon_61 (by decide) ?_
    refine jv_iadd hx hb d_M_hasCommon_62 ?_
    refine lv_iload hx hb d_M_hasCommon_63 (lv_at hl 0 rfl) ?_
    refine jv_iadd hx hb d_M_hasCommon_65 ?_
    refine ja_ald (k := ((6 * a) + 3) + 1) hx hb ha.1 hP 1 0 rfl rfl (by omega) (by omega) d_M_hasCommon_66 ?_
    refine lv_aload_n hx hb d_M_hasCommon_67 rfl (lv_at hl 2 rfl) ?_
    refine va_get (D := g.1) (ci := 3) (v := .ref ak) (C := R_M) (T := F_M) (N := 19) hx hb htB in_M hown ha.1 hP 0 rfl rfl 2 (by decide) (htB _ kw_444) (fun _ h9 => h9) hfs d_M_hasCommon_68 ?_
    refine lv_bipush (v := (nI (6))) hx hb d_M_hasCommon_71 (by decide) ?_
    refine lv_iload_n hx hb d_M_hasCommon_73 rfl (lv_at hl 4 rfl) ?_
    refine jv_imul hx hb d_M_hasCommon_74 ?_
    refine lv_iconst (v := (nI (3))) hx hb d_M_hasCommon_75 (by decide) ?_
    refine jv_iadd hx hb d_M_hasCommon_76 ?_
    refine lv_iload hx hb d_M_hasCommon_77 (lv_at hl 0 rfl) ?_
    refine jv_iadd hx hb d_M_hasCommon_79 ?_
    refine ja_ald (k := ((6 * b) + 3) + 1) hx hb ha.1 hP 1 0 rfl rfl (by omega) (by omega) d_M_hasCommon_80 ?_
    refine va_calli (va_runS (As := [.int (sk (((6 * a) + 3) + 1)), .int (sk (((6 * b) + 3) + 1))]) (rest := [.int (nI (4)), .ref ac]) ⟨hx, hb, hml, hown, htB⟩ (p_M_less l g z _ (sk (((6 * a) + 3) + 1)) (sk (((6 * b) + 3) + 1))) (va_cwS 2 htB (gS kw_543 kw_544 kw_3 g_M_less) rfl rfl rfl (by decide +kernel) ⟨by decide, by decide⟩) (pre_S hS hz ha trivial) rfl rfl hl.1 rfl (lv_room (Nat.le_of_ble_eq_true rfl)) d_M_hasCommon_81 ⟨by decide, by decide⟩) hS (fun q _ h => h.elim) (fun q h => h.elim) (fun r_12 u t H1 locs ht hvm hw hB hz1 hk1 hS => ?_)
    obtain rfl := hB.symm.trans ht
    subst hw
    refine ja_ast (k := 4) hx hb ha.1 hP hD hS 2 0 rfl rfl (by omega) (by omega) d_M_hasCommon_84 (fun H locs hP hD hS => ?_)
    have hP : va_P g.1 cls [(h, .inr (3, fs)), (ak, eI g 48 (sk)), (ac, eI g 6 (upd (upd (upd (upd (cm) (0) (mxI (sk ((6 * a) + 0)) (sk ((6 * b) + 0)))) (3) (mnI (sk (((6 * a) + 3) + 0)) (sk (((6 * b) + 3) + 0)))) (1) (mxI (sk ((6 * a) + 1)) (sk ((6 * b) + 1)))) (4) (mnI (sk (((6 * a) + 3) + 1)) (sk (((6 * b) + 3) + 1)))))] H := hP
    have hD : va_D A [(h, .inr (3, fs)), (ak, eI g 48 (sk)), (ac, eI g 6 (upd (upd (upd (upd (cm) (0) (mxI (sk ((6 * a) + 0)) (sk ((6 * b) + 0)))) (3) (mnI (sk (((6 * a) + 3) + 0)) (sk (((6 * b) + 3) + 0)))) (1) (mxI (sk ((6 * a) + 1)) (sk ((6 * b) + 1)))) (4) (mnI (sk (((6 * a) + 3) + 1)) (sk (((6 * b) + 3) + 1)))))] := hD
    refine lv_iload_n hx hb d_M_hasCommon_85 rfl (lv_at hl 1 rfl) ?_
    refine lv_if_eq (tgt := 112) hx hb d_M_hasCommon_86 (by decide) (fun h => absurd h (by decide)) (fun _ => ?_)
    refine lv_aload_n hx hb d_M_hasCommon_89 rfl (lv_at hl 2 rfl) ?_
    refine va_get (D := g.1) (ci := 3) (v := .ref ac) (C := R_M) (T := F_M) (N := 19) hx hb htB in_M hown ha.1 hP 0 rfl rfl 9 (by decide) (htB _ kw_451) (fun _ h9 => h9) hfc d_M_hasCommon_90 ?_
    refine lv_iload hx hb d_M_hasCommon_93 (lv_at hl 0 rfl) ?_
    refine ja_ald (k := 1) hx hb ha.1 hP 2 0 rfl rfl (by omega) (by omega) d_M_hasCommon_95 ?_
    rw [show (upd (upd (upd (upd (cm) (0) (mxI (sk ((6 * a) + 0)) (sk ((6 * b) + 0)))) (3) (mnI (sk (((6 * a) + 3) + 0)) (sk (((6 * b) + 3) + 0)))) (1) (mxI (sk ((6 * a) + 1)) (sk ((6 * b) + 1)))) (4) (mnI (sk (((6 * a) + 3) + 1)) (sk (((6 * b) + 3) + 1)))) (1) = (mxI (sk ((6 * a) + 1)) (sk ((6 * b) + 1))) from rfl]
    refine lv_aload_n hx hb d_M_hasCommon_96 rfl (lv_at hl 2 rfl) ?_
    refine va_get (D := g.1) (ci := 3) (v := .ref ac) (C := R_M) (T := F_M) (N := 19) hx hb htB in_M hown ha.1 hP 0 rfl rfl 9 (by decide) (htB _ kw_451) (fun _ h9 => h9) hfc d_M_hasCommon_97 ?_
    refine lv_iconst (v := (nI (3))) hx hb d_M_hasCommon_100 (by decide) ?_
    refine lv_iload hx hb d_M_hasCommon_101 (lv_at hl 0 rfl) ?_
    refine jv_iadd hx hb d_M_hasCommon_103 ?_
    refine ja_ald (k := 4) hx hb ha.1 hP 2 0 rfl rfl (by omega) (by omega) d_M_hasCommon_104 ?_
    rw [show (upd (upd (upd (upd (cm) (0) (mxI (sk ((6 * a) + 0)) (sk ((6 * b) + 0)))) (3) (mnI (sk (((6 * a) + 3) + 0)) (sk (((6 * b) + 3) + 0)))) (1) (mxI (sk ((6 * a) + 1)) (sk ((6 * b) + 1)))) (4) (mnI (sk (((6 * a) + 3) + 1)) (sk (((6 * b) + 3) + 1)))) (4) = (mnI (sk (((6 * a) + 3) + 1)) (sk (((6 * b) + 3) + 1))) from rfl]
    refine lv_icmp_ge (tgt := 112) hx hb d_M_hasCommon_105 (by decide) (fun c_14 => ?_) (fun c_14 => ?_)
    · refine lv_iconst (v := (nI (0))) hx hb d_M_hasCommon_112 (by decide) ?_
      refine lv_istore_n (lv' := [(3, .int (nI (0))), (4, .int (nI (1))), (0, .ref h), (1, .int (nI (a))), (2, .int (nI (b)))]) hx hb d_M_hasCommon_113 rfl hl (by decide) rfl (fun ls hl => ?_)
      refine lv_iinc (v := nI (2)) (lv' := [(4, .int (nI (2))), (3, .int (nI (0))), (0, .ref h), (1, .int (nI (a))), (2, .int (nI (b)))]) hx hb d_M_hasCommon_114 hl (k := 1) rfl (nI_add _ 1) (by decide) rfl (fun ls hl => ?_)
      refine lv_goto (tgt := 5) hx hb d_M_hasCommon_117 (by decide) ?_
      refine lv_iload hx hb d_M_hasCommon_5 (lv_at hl 0 rfl) ?_
      refine lv_iconst (v := (nI (3))) hx hb d_M_hasCommon_7 (by decide) ?_
      refine jv_icmp_ge (tgt := 120) hx hb (by omega) (by omega) d_M_hasCommon_8 (by decide) (fun h => absurd h (by decide)) (fun _ => ?_)
      refine lv_aload_n hx hb d_M_hasCommon_11 rfl (lv_at hl 2 rfl) ?_
      refine va_get (D := g.1) (ci := 3) (v := .ref ac) (C := R_M) (T := F_M) (N := 19) hx hb htB in_M hown ha.1 hP 0 rfl rfl 9 (by decide) (htB _ kw_451) (fun _ h9 => h9) hfc d_M_hasCommon_12 ?_
      refine lv_iload hx hb d_M_hasCommon_15 (lv_at hl 0 rfl) ?_
      refine lv_aload_n hx hb d_M_hasCommon_17 rfl (lv_at hl 2 rfl) ?_
      refine va_get (D := g.1) (ci := 3) (v := .ref ak) (C := R_M) (T := F_M) (N := 19) hx hb htB in_M hown ha.1 hP 0 rfl rfl 2 (by decide) (htB _ kw_444) (fun _ h9 => h9) hfs d_M_hasCommon_18 ?_
      refine lv_bipush (v := (nI (6))) hx hb d_M_hasCommon_21 (by decide) ?_
      refine lv_iload_n hx hb d_M_hasCommon_23 rfl (lv_at hl 3 rfl) ?_
      refine jv_imul hx hb d_M_hasCommon_24 ?_
      refine lv_iload hx hb d_M_hasCommon_25 (lv_at hl 0 rfl) ?_
      refine jv_iadd hx hb d_M_hasCommon_27 ?_
      refine ja_ald (k := (6 * a) + 2) hx hb ha.1 hP 1 0 rfl rfl (by omega) (by omega) d_M_hasCommon_28 ?_
      refine lv_aload_n hx hb d_M_hasCommon_29 rfl (lv_at hl 2 rfl) ?_
      refine va_get (D := g.1) (ci := 3) (v := .ref ak) (C := R_M) (T := F_M) (N := 19) hx hb htB in_M hown ha.1 hP 0 rfl rfl 2 (by decide) (htB _ kw_444) (fun _ h9 => h9) hfs d_M_hasCommon_30 ?_
      refine lv_bipush (v := (nI (6))) hx hb d_M_hasCommon_33 (by decide) ?_
      refine lv_iload_n hx hb d_M_hasCommon_35 rfl (lv_at hl 4 rfl) ?_
      refine jv_imul hx hb d_M_hasCommon_36 ?_
      refine lv_iload hx hb d_M_hasCommon_37 (lv_at hl 0 rfl) ?_
      refine jv_iadd hx hb d_M_hasCommon_39 ?_
      refine ja_ald (k := (6 * b) + 2) hx hb ha.1 hP 1 0 rfl rfl (by omega) (by omega) d_M_hasCommon_40 ?_
      refine va_calli (va_runS (As := [.int (sk ((6 * a) + 2)), .int (sk ((6 * b) + 2))]) (rest := [.int (nI (2)), .ref ac]) ⟨hx, hb, hml, hown, htB⟩ (p_M_more l g z _ (sk ((6 * a) + 2)) (sk ((6 * b) + 2))) (va_cwS 2 htB (gS kw_540 kw_541 kw_3 g_M_more) rfl rfl rfl (by decide +kernel) ⟨by decide, by decide⟩) (pre_S hS hz ha trivial) rfl rfl hl.1 rfl (lv_room (Nat.le_of_ble_eq_true rfl)) d_M_hasCommon_41 ⟨by decide, by decide⟩) hS (fun q _ h => h.elim) (fun q h => h.elim) (fun r_15 u t H1 locs ht hvm hw hB hz1 hk1 hS => ?_)
      obtain rfl := hB.symm.trans ht
      subst hw
      refine ja_ast (k := 2) hx hb ha.1 hP hD hS 2 0 rfl rfl (by omega) (by omega) d_M_hasCommon_44 (fun H locs hP hD hS => ?_)
      have hP : va_P g.1 cls [(h, .inr (3, fs)), (ak, eI g 48 (sk)), (ac, eI g 6 (upd (upd (upd (upd (upd (cm) (0) (mxI (sk ((6 * a) + 0)) (sk ((6 * b) + 0)))) (3) (mnI (sk (((6 * a) + 3) + 0)) (sk (((6 * b) + 3) + 0)))) (1) (mxI (sk ((6 * a) + 1)) (sk ((6 * b) + 1)))) (4) (mnI (sk (((6 * a) + 3) + 1)) (sk (((6 * b) + 3) + 1)))) (2) (mxI (sk ((6 * a) + 2)) (sk ((6 * b) + 2)))))] H := hP
      have hD : va_D A [(h, .inr (3, fs)), (ak, eI g 48 (sk)), (ac, eI g 6 (upd (upd (upd (upd (upd (cm) (0) (mxI (sk ((6 * a) + 0)) (sk ((6 * b) + 0)))) (3) (mnI (sk (((6 * a) + 3) + 0)) (sk (((6 * b) + 3) + 0)))) (1) (mxI (sk ((6 * a) + 1)) (sk ((6 * b) + 1)))) (4) (mnI (sk (((6 * a) + 3) + 1)) (sk (((6 * b) + 3) + 1)))) (2) (mxI (sk ((6 * a) + 2)) (sk ((6 * b) + 2)))))] := hD
      refine lv_aload_n hx hb d_M_hasCommon_45 rfl (lv_at hl 2 rfl) ?_
      refine va_get (D := g.1) (ci := 3) (v := .ref ac) (C := R_M) (T := F_M) (N := 19) hx hb htB in_M hown ha.1 hP 0 rfl rfl 9 (by decide) (htB _ kw_451) (fun _ h9 => h9) hfc d_M_hasCommon_46 ?_
      refine lv_iconst (v := (nI (3))) hx hb d_M_hasCommon_49 (by decide) ?_
      refine lv_iload hx hb d_M_hasCommon_50 (lv_at hl 0 rfl) ?_
      refine jv_iadd hx hb d_M_hasCommon_52 ?_
      refine lv_aload_n hx hb d_M_hasCommon_53 rfl (lv_at hl 2 rfl) ?_
      refine va_get (D := g.1) (ci := 3) (v := .ref ak) (C := R_M) (T := F_M) (N := 19) hx hb htB in_M hown ha.1 hP 0 rfl rfl 2 (by decide) (htB _ kw_444) (fun _ h9 => h9) hfs d_M_hasCommon_54 ?_
      refine lv_bipush (v := (nI (6))) hx hb d_M_hasCommon_57 (by decide) ?_
      refine lv_iload_n hx hb d_M_hasCommon_59 rfl (lv_at hl 3 rfl) ?_
      refine jv_imul hx hb d_M_hasCommon_60 ?_
      refine lv_iconst (v := (nI (3))) hx hb d_M_hasCommon_61 (by decide) ?_
      refine jv_iadd hx hb d_M_hasCommon_62 ?_
      refine lv_iload hx hb d_M_hasCommon_63 (lv_at hl 0 rfl) ?_
      refine jv_iadd hx hb d_M_hasCommon_65 ?_
      refine ja_ald (k := ((6 * a) + 3) + 2) hx hb ha.1 hP 1 0 rfl rfl (by omega) (by omega) d_M_hasCommon_66 ?_
      refine lv_aload_n hx hb d_M_hasCommon_67 rfl (lv_at hl 2 rfl) ?_
      refine va_get (D := g.1) (ci := 3) (v := .ref ak) (C := R_M) (T := F_M) (N := 19) hx hb htB in_M hown ha.1 hP 0 rfl rfl 2 (by decide) (htB _ kw_444) (fun _ h9 => h9) hfs d_M_hasCommon_68 ?_
      refine lv_bipush (v := (nI (6))) hx hb d_M_hasCommon_71 (by decide) ?_
      refine lv_iload_n hx hb d_M_hasCommon_73 rfl (lv_at hl 4 rfl) ?_
      refine jv_imul hx hb d_M_hasCommon_74 ?_
      refine lv_iconst (v := (nI (3))) hx hb d_M_hasCommon_75 (by decide) ?_
      refine jv_iadd hx hb d_M_hasCommon_76 ?_
      refine lv_iload hx hb d_M_hasCommon_77 (lv_at hl 0 rfl) ?_
      refine jv_iadd hx hb d_M_hasCommon_79 ?_
      refine ja_ald (k := ((6 * b) + 3) + 2) hx hb ha.1 hP 1 0 rfl rfl (by omega) (by omega) d_M_hasCommon_80 ?_
      refine va_calli (va_runS (As := [.int (sk (((6 * a) + 3) + 2)), .int (sk (((6 * b) + 3) + 2))]) (rest := [.int (nI (5)), .ref ac]) ⟨hx, hb, hml, hown, htB⟩ (p_M_less l g z _ (sk (((6 * a) + 3) + 2)) (sk (((6 * b) + 3) + 2))) (va_cwS 2 htB (gS kw_543 kw_544 kw_3 g_M_less) rfl rfl rfl (by decide +kernel) ⟨by decide, by decide⟩) (pre_S hS hz ha trivial) rfl rfl hl.1 rfl (lv_room (Nat.le_of_ble_eq_true rfl)) d_M_hasCommon_81 ⟨by decide, by decide⟩) hS (fun q _ h => h.elim) (fun q h => h.elim) (fun r_16 u t H1 locs ht hvm hw hB hz1 hk1 hS => ?_)
      obtain rfl := hB.symm.trans ht
      subst hw
      refine ja_ast (k := 5) hx hb ha.1 hP hD hS 2 0 rfl rfl (by omega) (by omega) d_M_hasCommon_84 (fun H locs hP hD hS => ?_)
      have hP : va_P g.1 cls [(h, .inr (3, fs)), (ak, eI g 48 (sk)), (ac, eI g 6 (upd (upd (upd (upd (upd (upd (cm) (0) (mxI (sk ((6 * a) + 0)) (sk ((6 * b) + 0)))) (3) (mnI (sk (((6 * a) + 3) + 0)) (sk (((6 * b) + 3) + 0)))) (1) (mxI (sk ((6 * a) + 1)) (sk ((6 * b) + 1)))) (4) (mnI (sk (((6 * a) + 3) + 1)) (sk (((6 * b) + 3) + 1)))) (2) (mxI (sk ((6 * a) + 2)) (sk ((6 * b) + 2)))) (5) (mnI (sk (((6 * a) + 3) + 2)) (sk (((6 * b) + 3) + 2)))))] H := hP
      have hD : va_D A [(h, .inr (3, fs)), (ak, eI g 48 (sk)), (ac, eI g 6 (upd (upd (upd (upd (upd (upd (cm) (0) (mxI (sk ((6 * a) + 0)) (sk ((6 * b) + 0)))) (3) (mnI (sk (((6 * a) + 3) + 0)) (sk (((6 * b) + 3) + 0)))) (1) (mxI (sk ((6 * a) + 1)) (sk ((6 * b) + 1)))) (4) (mnI (sk (((6 * a) + 3) + 1)) (sk (((6 * b) + 3) + 1)))) (2) (mxI (sk ((6 * a) + 2)) (sk ((6 * b) + 2)))) (5) (mnI (sk (((6 * a) + 3) + 2)) (sk (((6 * b) + 3) + 2)))))] := hD
      refine lv_iload_n hx hb d_M_hasCommon_85 rfl (lv_at hl 1 rfl) ?_
      refine lv_if_eq (tgt := 112) hx hb d_M_hasCommon_86 (by decide) (fun _ => ?_) (fun h => absurd h (by decide))
      refine lv_iconst (v := (nI (0))) hx hb d_M_hasCommon_112 (by decide) ?_
      refine lv_istore_n (lv' := [(3, .int (nI (0))), (4, .int (nI (2))), (0, .ref h), (1, .int (nI (a))), (2, .int (nI (b)))]) hx hb d_M_hasCommon_113 rfl hl (by decide) rfl (fun ls hl => ?_)
      refine lv_iinc (v := nI (3)) (lv' := [(4, .int (nI (3))), (3, .int (nI (0))), (0, .ref h), (1, .int (nI (a))), (2, .int (nI (b)))]) hx hb d_M_hasCommon_114 hl (k := 1) rfl (nI_add _ 1) (by decide) rfl (fun ls hl => ?_)
      refine lv_goto (tgt := 5) hx hb d_M_hasCommon_117 (by decide) ?_
      refine lv_iload hx hb d_M_hasCommon_5 (lv_at hl 0 rfl) ?_
      refine lv_iconst (v := (nI (3))) hx hb d_M_hasCommon_7 (by decide) ?_
      refine jv_icmp_ge (tgt := 120) hx hb (by omega) (by omega) d_M_hasCommon_8 (by decide) (fun _ => ?_) (fun h => absurd h (by decide))
      refine lv_iload_n hx hb d_M_hasCommon_120 rfl (lv_at hl 1 rfl) ?_
      have hP9 := hP.sub (ws' := [(h, .inr (3, fs)), (ak, eI g 48 (sk)), (ac, eI g 6 (upd (upd (upd (upd (upd (upd (cm) (0) (mxI (sk ((6 * a) + 0)) (sk ((6 * b) + 0)))) (3) (mnI (sk (((6 * a) + 3) + 0)) (sk (((6 * b) + 3) + 0)))) (1) (mxI (sk ((6 * a) + 1)) (sk ((6 * b) + 1)))) (4) (mnI (sk (((6 * a) + 3) + 1)) (sk (((6 * b) + 3) + 1)))) (2) (mxI (sk ((6 * a) + 2)) (sk ((6 * b) + 2)))) (5) (mnI (sk (((6 * a) + 3) + 2)) (sk (((6 * b) + 3) + 2)))))]) [0, 1, 2] rfl
      have hD9 := hD.sub (ws' := [(h, .inr (3, fs)), (ak, eI g 48 (sk)), (ac, eI g 6 (upd (upd (upd (upd (upd (upd (cm) (0) (mxI (sk ((6 * a) + 0)) (sk ((6 * b) + 0)))) (3) (mnI (sk (((6 * a) + 3) + 0)) (sk (((6 * b) + 3) + 0)))) (1) (mxI (sk ((6 * a) + 1)) (sk ((6 * b) + 1)))) (4) (mnI (sk (((6 * a) + 3) + 1)) (sk (((6 * b) + 3) + 1)))) (2) (mxI (sk ((6 * a) + 2)) (sk ((6 * b) + 2)))) (5) (mnI (sk (((6 * a) + 3) + 2)) (sk (((6 * b) + 3) + 2)))))]) [0, 1, 2] (by decide) rfl
      exact (W.widen (k := 0) (n := 0) (Nat.le_of_ble_eq_true rfl) (Nat.le_of_ble_eq_true rfl) (W.zret (v := (nI (0))) hx hb hr (by decide) (fun t ht hW => ⟨⟨(nI (0)), (), rfl, (if_neg (fun q => q.2.1 c_14)).symm, by rw [ht]; exact hP9, hD9.re [h, ak, ac] rfl rfl⟩, hS.F ht⟩) hS.2.2 d_M_hasCommon_121))
    · refine lv_iconst (v := (nI (1))) hx hb d_M_hasCommon_108 (by decide) ?_
      refine lv_goto (tgt := 113) hx hb d_M_hasCommon_109 (by decide) ?_
      refine lv_istore_n (lv' := [(3, .int (nI (1))), (4, .int (nI (1))), (0, .ref h), (1, .int (nI (a))), (2, .int (nI (b)))]) hx hb d_M_hasCommon_113 rfl hl (by decide) rfl (fun ls hl => ?_)
      refine lv_iinc (v := nI (2)) (lv' := [(4, .int (nI (2))), (3, .int (nI (1))), (0, .ref h), (1, .int (nI (a))), (2, .int (nI (b)))]) hx hb d_M_hasCommon_114 hl (k := 1) rfl (nI_add _ 1) (by decide) rfl (fun ls hl => ?_)
      refine lv_goto (tgt := 5) hx hb d_M_hasCommon_117 (by decide) ?_
      refine lv_iload hx hb d_M_hasCommon_5 (lv_at hl 0 rfl) ?_
      refine lv_iconst (v := (nI (3))) hx hb d_M_hasCommon_7 (by decide) ?_
      refine jv_icmp_ge (tgt := 120) hx hb (by omega) (by omega) d_M_hasCommon_8 (by decide) (fun h => absurd h (by decide)) (fun _ => ?_)
      refine lv_aload_n hx hb d_M_hasCommon_11 rfl (lv_at hl 2 rfl) ?_
      refine va_get (D := g.1) (ci := 3) (v := .ref ac) (C := R_M) (T := F_M) (N := 19) hx hb htB in_M hown ha.1 hP 0 rfl rfl 9 (by decide) (htB _ kw_451) (fun _ h9 => h9) hfc d_M_hasCommon_12 ?_
      refine lv_iload hx hb d_M_hasCommon_15 (lv_at hl 0 rfl) ?_
      refine lv_aload_n hx hb d_M_hasCommon_17 rfl (lv_at hl 2 rfl) ?_
      refine va_get (D := g.1) (ci := 3) (v := .ref ak) (C := R_M) (T := F_M) (N := 19) hx hb htB in_M hown ha.1 hP 0 rfl rfl 2 (by decide) (htB _ kw_444) (fun _ h9 => h9) hfs d_M_hasCommon_18 ?_
      refine lv_bipush (v := (nI (6))) hx hb d_M_hasCommon_21 (by decide) ?_
      refine lv_iload_n hx hb d_M_hasCommon_23 rfl (lv_at hl 3 rfl) ?_
      refine jv_imul hx hb d_M_hasCommon_24 ?_
      refine lv_iload hx hb d_M_hasCommon_25 (lv_at hl 0 rfl) ?_
      refine jv_iadd hx hb d_M_hasCommon_27 ?_
      refine ja_ald (k := (6 * a) + 2) hx hb ha.1 hP 1 0 rfl rfl (by omega) (by omega) d_M_hasCommon_28 ?_
      refine lv_aload_n hx hb d_M_hasCommon_29 rfl (lv_at hl 2 rfl) ?_
      refine va_get (D := g.1) (ci := 3) (v := .ref ak) (C := R_M) (T := F_M) (N := 19) hx hb htB in_M hown ha.1 hP 0 rfl rfl 2 (by decide) (htB _ kw_444) (fun _ h9 => h9) hfs d_M_hasCommon_30 ?_
      refine lv_bipush (v := (nI (6))) hx hb d_M_hasCommon_33 (by decide) ?_
      refine lv_iload_n hx hb d_M_hasCommon_35 rfl (lv_at hl 4 rfl) ?_
      refine jv_imul hx hb d_M_hasCommon_36 ?_
      refine lv_iload hx hb d_M_hasCommon_37 (lv_at hl 0 rfl) ?_
      refine jv_iadd hx hb d_M_hasCommon_39 ?_
      refine ja_ald (k := (6 * b) + 2) hx hb ha.1 hP 1 0 rfl rfl (by omega) (by omega) d_M_hasCommon_40 ?_
      refine va_calli (va_runS (As := [.int (sk ((6 * a) + 2)), .int (sk ((6 * b) + 2))]) (rest := [.int (nI (2)), .ref ac]) ⟨hx, hb, hml, hown, htB⟩ (p_M_more l g z _ (sk ((6 * a) + 2)) (sk ((6 * b) + 2))) (va_cwS 2 htB (gS kw_540 kw_541 kw_3 g_M_more) rfl rfl rfl (by decide +kernel) ⟨by decide, by decide⟩) (pre_S hS hz ha trivial) rfl rfl hl.1 rfl (lv_room (Nat.le_of_ble_eq_true rfl)) d_M_hasCommon_41 ⟨by decide, by decide⟩) hS (fun q _ h => h.elim) (fun q h => h.elim) (fun r_18 u t H1 locs ht hvm hw hB hz1 hk1 hS => ?_)
      obtain rfl := hB.symm.trans ht
      subst hw
      refine ja_ast (k := 2) hx hb ha.1 hP hD hS 2 0 rfl rfl (by omega) (by omega) d_M_hasCommon_44 (fun H locs hP hD hS => ?_)
      have hP : va_P g.1 cls [(h, .inr (3, fs)), (ak, eI g 48 (sk)), (ac, eI g 6 (upd (upd (upd (upd (upd (cm) (0) (mxI (sk ((6 * a) + 0)) (sk ((6 * b) + 0)))) (3) (mnI (sk (((6 * a) + 3) + 0)) (sk (((6 * b) + 3) + 0)))) (1) (mxI (sk ((6 * a) + 1)) (sk ((6 * b) + 1)))) (4) (mnI (sk (((6 * a) + 3) + 1)) (sk (((6 * b) + 3) + 1)))) (2) (mxI (sk ((6 * a) + 2)) (sk ((6 * b) + 2)))))] H := hP
      have hD : va_D A [(h, .inr (3, fs)), (ak, eI g 48 (sk)), (ac, eI g 6 (upd (upd (upd (upd (upd (cm) (0) (mxI (sk ((6 * a) + 0)) (sk ((6 * b) + 0)))) (3) (mnI (sk (((6 * a) + 3) + 0)) (sk (((6 * b) + 3) + 0)))) (1) (mxI (sk ((6 * a) + 1)) (sk ((6 * b) + 1)))) (4) (mnI (sk (((6 * a) + 3) + 1)) (sk (((6 * b) + 3) + 1)))) (2) (mxI (sk ((6 * a) + 2)) (sk ((6 * b) + 2)))))] := hD
      refine lv_aload_n hx hb d_M_hasCommon_45 rfl (lv_at hl 2 rfl) ?_
      refine va_get (D := g.1) (ci := 3) (v := .ref ac) (C := R_M) (T := F_M) (N := 19) hx hb htB in_M hown ha.1 hP 0 rfl rfl 9 (by decide) (htB _ kw_451) (fun _ h9 => h9) hfc d_M_hasCommon_46 ?_
      refine lv_iconst (v := (nI (3))) hx hb d_M_hasCommon_49 (by decide) ?_
      refine lv_iload hx hb d_M_hasCommon_50 (lv_at hl 0 rfl) ?_
      refine jv_iadd hx hb d_M_hasCommon_52 ?_
      refine lv_aload_n hx hb d_M_hasCommon_53 rfl (lv_at hl 2 rfl) ?_
      refine va_get (D := g.1) (ci := 3) (v := .ref ak) (C := R_M) (T := F_M) (N := 19) hx hb htB in_M hown ha.1 hP 0 rfl rfl 2 (by decide) (htB _ kw_444) (fun _ h9 => h9) hfs d_M_hasCommon_54 ?_
      refine lv_bipush (v := (nI (6))) hx hb d_M_hasCommon_57 (by decide) ?_
      refine lv_iload_n hx hb d_M_hasCommon_59 rfl (lv_at hl 3 rfl) ?_
      refine jv_imul hx hb d_M_hasCommon_60 ?_
      refine lv_iconst (v := (nI (3))) hx hb d_M_hasCommon_61 (by decide) ?_
      refine jv_iadd hx hb d_M_hasCommon_62 ?_
      refine lv_iload hx hb d_M_hasCommon_63 (lv_at hl 0 rfl) ?_
      refine jv_iadd hx hb d_M_hasCommon_65 ?_
      refine ja_ald (k := ((6 * a) + 3) + 2) hx hb ha.1 hP 1 0 rfl rfl (by omega) (by omega) d_M_hasCommon_66 ?_
      refine lv_aload_n hx hb d_M_hasCommon_67 rfl (lv_at hl 2 rfl) ?_
      refine va_get (D := g.1) (ci := 3) (v := .ref ak) (C := R_M) (T := F_M) (N := 19) hx hb htB in_M hown ha.1 hP 0 rfl rfl 2 (by decide) (htB _ kw_444) (fun _ h9 => h9) hfs d_M_hasCommon_68 ?_
      refine lv_bipush (v := (nI (6))) hx hb d_M_hasCommon_71 (by decide) ?_
      refine lv_iload_n hx hb d_M_hasCommon_73 rfl (lv_at hl 4 rfl) ?_
      refine jv_imul hx hb d_M_hasCommon_74 ?_
      refine lv_iconst (v := (nI (3))) hx hb d_M_hasCommon_75 (by decide) ?_
      refine jv_iadd hx hb d_M_hasCommon_76 ?_
      refine lv_iload hx hb d_M_hasCommon_77 (lv_at hl 0 rfl) ?_
      refine jv_iadd hx hb d_M_hasCommon_79 ?_
      refine ja_ald (k := ((6 * b) + 3) + 2) hx hb ha.1 hP 1 0 rfl rfl (by omega) (by omega) d_M_hasCommon_80 ?_
      refine va_calli (va_runS (As := [.int (sk (((6 * a) + 3) + 2)), .int (sk (((6 * b) + 3) + 2))]) (rest := [.int (nI (5)), .ref ac]) ⟨hx, hb, hml, hown, htB⟩ (p_M_less l g z _ (sk (((6 * a) + 3) + 2)) (sk (((6 * b) + 3) + 2))) (va_cwS 2 htB (gS kw_543 kw_544 kw_3 g_M_less) rfl rfl rfl (by decide +kernel) ⟨by decide, by decide⟩) (pre_S hS hz ha trivial) rfl rfl hl.1 rfl (lv_room (Nat.le_of_ble_eq_true rfl)) d_M_hasCommon_81 ⟨by decide, by decide⟩) hS (fun q _ h => h.elim) (fun q h => h.elim) (fun r_19 u t H1 locs ht hvm hw hB hz1 hk1 hS => ?_)
      obtain rfl := hB.symm.trans ht
      subst hw
      refine ja_ast (k := 5) hx hb ha.1 hP hD hS 2 0 rfl rfl (by omega) (by omega) d_M_hasCommon_84 (fun H locs hP hD hS => ?_)
      have hP : va_P g.1 cls [(h, .inr (3, fs)), (ak, eI g 48 (sk)), (ac, eI g 6 (upd (upd (upd (upd (upd (upd (cm) (0) (mxI (sk ((6 * a) + 0)) (sk ((6 * b) + 0)))) (3) (mnI (sk (((6 * a) + 3) + 0)) (sk (((6 * b) + 3) + 0)))) (1) (mxI (sk ((6 * a) + 1)) (sk ((6 * b) + 1)))) (4) (mnI (sk (((6 * a) + 3) + 1)) (sk (((6 * b) + 3) + 1)))) (2) (mxI (sk ((6 * a) + 2)) (sk ((6 * b) + 2)))) (5) (mnI (sk (((6 * a) + 3) + 2)) (sk (((6 * b) + 3) + 2)))))] H := hP
      have hD : va_D A [(h, .inr (3, fs)), (ak, eI g 48 (sk)), (ac, eI g 6 (upd (upd (upd (upd (upd (upd (cm) (0) (mxI (sk ((6 * a) + 0)) (sk ((6 * b) + 0)))) (3) (mnI (sk (((6 * a) + 3) + 0)) (sk (((6 * b) + 3) + 0)))) (1) (mxI (sk ((6 * a) + 1)) (sk ((6 * b) + 1)))) (4) (mnI (sk (((6 * a) + 3) + 1)) (sk (((6 * b) + 3) + 1)))) (2) (mxI (sk ((6 * a) + 2)) (sk ((6 * b) + 2)))) (5) (mnI (sk (((6 * a) + 3) + 2)) (sk (((6 * b) + 3) + 2)))))] := hD
      refine lv_iload_n hx hb d_M_hasCommon_85 rfl (lv_at hl 1 rfl) ?_
      refine lv_if_eq (tgt := 112) hx hb d_M_hasCommon_86 (by decide) (fun h => absurd h (by decide)) (fun _ => ?_)
      refine lv_aload_n hx hb d_M_hasCommon_89 rfl (lv_at hl 2 rfl) ?_
      refine va_get (D := g.1) (ci := 3) (v := .ref ac) (C := R_M) (T := F_M) (N := 19) hx hb htB in_M hown ha.1 hP 0 rfl rfl 9 (by decide) (htB _ kw_451) (fun _ h9 => h9) hfc d_M_hasCommon_90 ?_
      refine lv_iload hx hb d_M_hasCommon_93 (lv_at hl 0 rfl) ?_
      refine ja_ald (k := 2) hx hb ha.1 hP 2 0 rfl rfl (by omega) (by omega) d_M_hasCommon_95 ?_
      rw [show (upd (upd (upd (upd (upd (upd (cm) (0) (mxI (sk ((6 * a) + 0)) (sk ((6 * b) + 0)))) (3) (mnI (sk (((6 * a) + 3) + 0)) (sk (((6 * b) + 3) + 0)))) (1) (mxI (sk ((6 * a) + 1)) (sk ((6 * b) + 1)))) (4) (mnI (sk (((6 * a) + 3) + 1)) (sk (((6 * b) + 3) + 1)))) (2) (mxI (sk ((6 * a) + 2)) (sk ((6 * b) + 2)))) (5) (mnI (sk (((6 * a) + 3) + 2)) (sk (((6 * b) + 3) + 2)))) (2) = (mxI (sk ((6 * a) + 2)) (sk ((6 * b) + 2))) from rfl]
      refine lv_aload_n hx hb d_M_hasCommon_96 rfl (lv_at hl 2 rfl) ?_
      refine va_get (D := g.1) (ci := 3) (v := .ref ac) (C := R_M) (T := F_M) (N := 19) hx hb htB in_M hown ha.1 hP 0 rfl rfl 9 (by decide) (htB _ kw_451) (fun _ h9 => h9) hfc d_M_hasCommon_97 ?_
      refine lv_iconst (v := (nI (3))) hx hb d_M_hasCommon_100 (by decide) ?_
      refine lv_iload hx hb d_M_hasCommon_101 (lv_at hl 0 rfl) ?_
      refine jv_iadd hx hb d_M_hasCommon_103 ?_
      refine ja_ald (k := 5) hx hb ha.1 hP 2 0 rfl rfl (by omega) (by omega) d_M_hasCommon_104 ?_
      rw [show (upd (upd (upd (upd (upd (upd (cm) (0) (mxI (sk ((6 * a) + 0)) (sk ((6 * b) + 0)))) (3) (mnI (sk (((6 * a) + 3) + 0)) (sk (((6 * b) + 3) + 0)))) (1) (mxI (sk ((6 * a) + 1)) (sk ((6 * b) + 1)))) (4) (mnI (sk (((6 * a) + 3) + 1)) (sk (((6 * b) + 3) + 1)))) (2) (mxI (sk ((6 * a) + 2)) (sk ((6 * b) + 2)))) (5) (mnI (sk (((6 * a) + 3) + 2)) (sk (((6 * b) + 3) + 2)))) (5) = (mnI (sk (((6 * a) + 3) + 2)) (sk (((6 * b) + 3) + 2))) from rfl]
      refine lv_icmp_ge (tgt := 112) hx hb d_M_hasCommon_105 (by decide) (fun c_21 => ?_) (fun c_21 => ?_)
      · refine lv_iconst (v := (nI (0))) hx hb d_M_hasCommon_112 (by decide) ?_
        refine lv_istore_n (lv' := [(3, .int (nI (0))), (4, .int (nI (2))), (0, .ref h), (1, .int (nI (a))), (2, .int (nI (b)))]) hx hb d_M_hasCommon_113 rfl hl (by decide) rfl (fun ls hl => ?_)
        refine lv_iinc (v := nI (3)) (lv' := [(4, .int (nI (3))), (3, .int (nI (0))), (0, .ref h), (1, .int (nI (a))), (2, .int (nI (b)))]) hx hb d_M_hasCommon_114 hl (k := 1) rfl (nI_add _ 1) (by decide) rfl (fun ls hl => ?_)
        refine lv_goto (tgt := 5) hx hb d_M_hasCommon_117 (by decide) ?_
        refine lv_iload hx hb d_M_hasCommon_5 (lv_at hl 0 rfl) ?_
        refine lv_iconst (v := (nI (3))) hx hb d_M_hasCommon_7 (by decide) ?_
        refine jv_icmp_ge (tgt := 120) hx hb (by omega) (by omega) d_M_hasCommon_8 (by decide) (fun _ => ?_) (fun h => absurd h (by decide))
        refine lv_iload_n hx hb d_M_hasCommon_120 rfl (lv_at hl 1 rfl) ?_
        have hP9 := hP.sub (ws' := [(h, .inr (3, fs)), (ak, eI g 48 (sk)), (ac, eI g 6 (upd (upd (upd (upd (upd (upd (cm) (0) (mxI (sk ((6 * a) + 0)) (sk ((6 * b) + 0)))) (3) (mnI (sk (((6 * a) + 3) + 0)) (sk (((6 * b) + 3) + 0)))) (1) (mxI (sk ((6 * a) + 1)) (sk ((6 * b) + 1)))) (4) (mnI (sk (((6 * a) + 3) + 1)) (sk (((6 * b) + 3) + 1)))) (2) (mxI (sk ((6 * a) + 2)) (sk ((6 * b) + 2)))) (5) (mnI (sk (((6 * a) + 3) + 2)) (sk (((6 * b) + 3) + 2)))))]) [0, 1, 2] rfl
        have hD9 := hD.sub (ws' := [(h, .inr (3, fs)), (ak, eI g 48 (sk)), (ac, eI g 6 (upd (upd (upd (upd (upd (upd (cm) (0) (mxI (sk ((6 * a) + 0)) (sk ((6 * b) + 0)))) (3) (mnI (sk (((6 * a) + 3) + 0)) (sk (((6 * b) + 3) + 0)))) (1) (mxI (sk ((6 * a) + 1)) (sk ((6 * b) + 1)))) (4) (mnI (sk (((6 * a) + 3) + 1)) (sk (((6 * b) + 3) + 1)))) (2) (mxI (sk ((6 * a) + 2)) (sk ((6 * b) + 2)))) (5) (mnI (sk (((6 * a) + 3) + 2)) (sk (((6 * b) + 3) + 2)))))]) [0, 1, 2] (by decide) rfl
        exact (W.widen (k := 0) (n := 0) (Nat.le_of_ble_eq_true rfl) (Nat.le_of_ble_eq_true rfl) (W.zret (v := (nI (0))) hx hb hr (by decide) (fun t ht hW => ⟨⟨(nI (0)), (), rfl, (if_neg (fun q => q.2.2 c_21)).symm, by rw [ht]; exact hP9, hD9.re [h, ak, ac] rfl rfl⟩, hS.F ht⟩) hS.2.2 d_M_hasCommon_121))
      · refine lv_iconst (v := (nI (1))) hx hb d_M_hasCommon_108 (by decide) ?_
        refine lv_goto (tgt := 113) hx hb d_M_hasCommon_109 (by decide) ?_
        refine lv_istore_n (lv' := [(3, .int (nI (1))), (4, .int (nI (2))), (0, .ref h), (1, .int (nI (a))), (2, .int (nI (b)))]) hx hb d_M_hasCommon_113 rfl hl (by decide) rfl (fun ls hl => ?_)
        refine lv_iinc (v := nI (3)) (lv' := [(4, .int (nI (3))), (3, .int (nI (1))), (0, .ref h), (1, .int (nI (a))), (2, .int (nI (b)))]) hx hb d_M_hasCommon_114 hl (k := 1) rfl (nI_add _ 1) (by decide) rfl (fun ls hl => ?_)
        refine lv_goto (tgt := 5) hx hb d_M_hasCommon_117 (by decide) ?_
        refine lv_iload hx hb d_M_hasCommon_5 (lv_at hl 0 rfl) ?_
        refine lv_iconst (v := (nI (3))) hx hb d_M_hasCommon_7 (by decide) ?_
        refine jv_icmp_ge (tgt := 120) hx hb (by omega) (by omega) d_M_hasCommon_8 (by decide) (fun _ => ?_) (fun h => absurd h (by decide))
        refine lv_iload_n hx hb d_M_hasCommon_120 rfl (lv_at hl 1 rfl) ?_
        have hP9 := hP.sub (ws' := [(h, .inr (3, fs)), (ak, eI g 48 (sk)), (ac, eI g 6 (upd (upd (upd (upd (upd (upd (cm) (0) (mxI (sk ((6 * a) + 0)) (sk ((6 * b) + 0)))) (3) (mnI (sk (((6 * a) + 3) + 0)) (sk (((6 * b) + 3) + 0)))) (1) (mxI (sk ((6 * a) + 1)) (sk ((6 * b) + 1)))) (4) (mnI (sk (((6 * a) + 3) + 1)) (sk (((6 * b) + 3) + 1)))) (2) (mxI (sk ((6 * a) + 2)) (sk ((6 * b) + 2)))) (5) (mnI (sk (((6 * a) + 3) + 2)) (sk (((6 * b) + 3) + 2)))))]) [0, 1, 2] rfl
        have hD9 := hD.sub (ws' := [(h, .inr (3, fs)), (ak, eI g 48 (sk)), (ac, eI g 6 (upd (upd (upd (upd (upd (upd (cm) (0) (mxI (sk ((6 * a) + 0)) (sk ((6 * b) + 0)))) (3) (mnI (sk (((6 * a) + 3) + 0)) (sk (((6 * b) + 3) + 0)))) (1) (mxI (sk ((6 * a) + 1)) (sk ((6 * b) + 1)))) (4) (mnI (sk (((6 * a) + 3) + 1)) (sk (((6 * b) + 3) + 1)))) (2) (mxI (sk ((6 * a) + 2)) (sk ((6 * b) + 2)))) (5) (mnI (sk (((6 * a) + 3) + 2)) (sk (((6 * b) + 3) + 2)))))]) [0, 1, 2] (by decide) rfl
        exact (W.widen (k := 0) (n := 0) (Nat.le_of_ble_eq_true rfl) (Nat.le_of_ble_eq_true rfl) (W.zret (v := (nI (1))) hx hb hr (by decide) (fun t ht hW => ⟨⟨(nI (1)), (), rfl, (if_pos ⟨c_4, c_14, c_21⟩).symm, by rw [ht]; exact hP9, hD9.re [h, ak, ac] rfl rfl⟩, hS.F ht⟩) hS.2.2 d_M_hasCommon_121))
theorem cpy_step00 (f g : Nat → Int32) (n : Nat) : upd (va_cpy f g 0 0 n) n (f n) = va_cpy f g 0 0 (n + 1) := by
  have h := cpy_step f g 0 0 n
  rw [Nat.zero_add] at h; exact h
/-- a slab of the common box -/
def spT (cm t : Nat → Int32) (k : Nat) (fr tt mo : Int32) : Nat → Int32 := upd (upd (va_cpy cm t 0 0 6) k (mxI (cm k) (cm k + fr - mo))) (k + 3) (mnI (cm (k + 3)) (cm k + tt + mo))
def lsB (cm t : Nat → Int32) (k : Nat) (fr tt mo : Int32) : Nat → Int32 := upd (upd (va_cpy cm t 0 0 6) k (mxI (cm k) (fr - mo))) (3 + k) (mnI (cm (3 + k)) (tt + mo))
set_option maxHeartbeats 4000000 in
set_option maxRecDepth 100000 in
theorem m_J_setSpan (l : Launch) (g : gT) (z : Nat) (H0 : Heap) (h : Nat) (fs : List Value) (att ac : Nat) (ft cm : Nat → Int32) (k : Nat) (fr tt mo : Int32) : Met l y_J_setSpan w_J_setSpan ({ frames := 1, cells := 0, slots := 0, locals := 40 }) (va_Pc [.ref h, .int (nI (k)), .int (fr), .int (tt), .int (mo)] (pB g z H0 (va_P g.1 cls [(h, .inr (1, fs)), (att, eI g 6 (ft)), (ac, eI g 6 (cm))] H0 ∧ va_D (zA z) [(h, .inr (1, fs)), (att, eI g 6 (ft)), (ac, eI g 6 (cm))] ∧ (fs[10]? = some (.ref att) ∧ fs[12]? = some (.ref ac) ∧ k < 3)))) (va_Qv (fun (_ : Unit) => True) (fun (_ : Unit) t => va_P g.1 cls [(h, .inr (1, fs)), (att, eI g 6 (spT cm ft k fr tt mo)), (ac, eI g 6 (cm))] t.heap ∧ va_D (va_A [(h, .inr (1, fs)), (att, eI g 6 (ft)), (ac, eI g 6 (cm))] H0.size) [(h, .inr (1, fs)), (att, eI g 6 (spT cm ft k fr tt mo)), (ac, eI g 6 (cm))]) (va_A [(h, .inr (1, fs)), (att, eI g 6 (ft)), (ac, eI g 6 (cm))] H0.size)) 0 0 (va_A [(h, .inr (1, fs)), (att, eI g 6 (ft)), (ac, eI g 6 (cm))] H0.size) := by
  refine Met.ofW (cc := c_J_setSpan) (maxL := 7) (ret := none) (by decide) rfl ?_
  intro p e s m args below meth c s₁ B hml hv
  obtain ⟨rfl, hH0, ha, hP, hD0, hf10, hf12, hk⟩ := hv
  have hx := B.exec
  have hb := B.bytes
  have hr := B.returns
  have htB : ∀ w ∈ tB, w.before _ s = true := fun w h => atoms_spec (ws := w_J_setSpan) B.pre w (List.mem_cons_of_mem _ h)
  have hown : s.vm.findClass "JointSolids" = some m.cls := findClass_of_methodNamed B.named
  have hlocks := B.notSynchronized
  subst hH0
  have hD := hD0.self (sz := s.heap.size)
  have hz := aA_z hD0 ha.2.2.2.2.2
  generalize hAe : va_A [(h, .inr (1, fs)), (att, eI g 6 (ft)), (ac, eI g 6 (cm))] s.heap.size = A at hD hz ⊢
  have hA : ∀ q : Nat, s.heap.size ≤ q → A q := fun q h => by rw [← hAe]; exact Or.inr h
  have hS : va_S A s.heap s.heap [] := va_S.rf
  refine W.ofH hP hS (fun H locs hP hS => ?_)
  have hl := lv_entry ([.ref h, .int (nI (k)), .int (fr), .int (tt), .int (mo)]) (n := 7) (Nat.le_of_ble_eq_true rfl)
  rw [lg_entry_eq]
  generalize (lg_sl ([.ref h, .int (nI (k)), .int (fr), .int (tt), .int (mo)]) ++ List.replicate (7 - (lg_sl ([.ref h, .int (nI (k)), .int (fr), .int (tt), .int (mo)])).length) Slot.unset).toArray = ls at hl ⊢
  have hl : lv_has ls 7 [(0, .ref h), (1, .int (nI (k))), (2, .int (fr)), (3, .int (tt)), (4, .int (mo))] := hl
  refine lv_aload_n hx hb d_J_setSpan_0 rfl (lv_at hl 0 rfl) ?_
  refine va_get (D := g.1) (ci := 1) (v := .ref ac) (C := R_J) (T := F_J) (N := 14) hx hb htB in_J hown ha.1 hP 0 rfl rfl 12 (by decide) (htB _ kw_52) (fun _ h9 => h9) hf12 d_J_setSpan_1 ?_
  refine lv_iconst (v := (nI (0))) hx hb d_J_setSpan_4 (by decide) ?_
  refine lv_aload_n hx hb d_J_setSpan_5 rfl (lv_at hl 0 rfl) ?_
  refine va_get (D := g.1) (ci := 1) (v := .ref att) (C := R_J) (T := F_J) (N := 14) hx hb htB in_J hown ha.1 hP 0 rfl rfl 10 (by decide) (htB _ kw_50) (fun _ h9 => h9) hf10 d_J_setSpan_6 ?_
  refine lv_iconst (v := (nI (0))) hx hb d_J_setSpan_9 (by decide) ?_
  refine lv_bipush (v := (nI (6))) hx hb d_J_setSpan_10 (by decide) ?_
  refine ja_copy (sp := 0) (dp := 0) (n := 6) (own := "JointSolids") hx hb (hml.trans hl.1.symm) hown (htB _ kw_226) (htB _ kw_228) (htB _ kw_227) (htB _ kw_10) ha.1 hP hD hS 2 1 0 0 rfl rfl rfl rfl (by omega) (by omega) (by omega) (by omega) (Nat.le_of_ble_eq_true rfl) (Nat.le_of_ble_eq_true rfl) d_J_setSpan_12 (fun H locs hP hD hS => ?_)
  have hP : va_P g.1 cls [(h, .inr (1, fs)), (att, eI g 6 (va_cpy (cm) (ft) (0) (0) (6))), (ac, eI g 6 (cm))] H := hP
  have hD : va_D A [(h, .inr (1, fs)), (att, eI g 6 (va_cpy (cm) (ft) (0) (0) (6))), (ac, eI g 6 (cm))] := hD
  refine lv_aload_n hx hb d_J_setSpan_15 rfl (lv_at hl 0 rfl) ?_
  refine va_get (D := g.1) (ci := 1) (v := .ref ac) (C := R_J) (T := F_J) (N := 14) hx hb htB in_J hown ha.1 hP 0 rfl rfl 12 (by decide) (htB _ kw_52) (fun _ h9 => h9) hf12 d_J_setSpan_16 ?_
  refine lv_iload_n hx hb d_J_setSpan_19 rfl (lv_at hl 1 rfl) ?_
  refine ja_ald (k := k) hx hb ha.1 hP 2 0 rfl rfl (by omega) (by omega) d_J_setSpan_20 ?_
  refine lv_istore (lv' := [(5, .int (cm (k))), (0, .ref h), (1, .int (nI (k))), (2, .int (fr)), (3, .int (tt)), (4, .int (mo))]) hx hb d_J_setSpan_21 hl (by decide) rfl (fun ls hl => ?_)
  refine lv_aload_n hx hb d_J_setSpan_23 rfl (lv_at hl 1 rfl) ?_
  refine va_get (D := g.1) (ci := 1) (v := .ref ac) (C := R_J) (T := F_J) (N := 14) hx hb htB in_J hown ha.1 hP 0 rfl rfl 12 (by decide) (htB _ kw_52) (fun _ h9 => h9) hf12 d_J_setSpan_24 ?_
  refine lv_iload_n hx hb d_J_setSpan_27 rfl (lv_at hl 2 rfl) ?_
  refine lv_iconst (v := (nI (3))) hx hb d_J_setSpan_28 (by decide) ?_
  refine jv_iadd hx hb d_J_setSpan_29 ?_
  refine ja_ald (k := k + 3) hx hb ha.1 hP 2 0 rfl rfl (by omega) (by omega) d_J_setSpan_30 ?_
  refine lv_istore (lv' := [(6, .int (cm (k + 3))), (5, .int (cm (k))), (0, .ref h), (1, .int (nI (k))), (2, .int (fr)), (3, .int (tt)), (4, .int (mo))]) hx hb d_J_setSpan_31 hl (by decide) rfl (fun ls hl => ?_)
  refine lv_aload_n hx hb d_J_setSpan_33 rfl (lv_at hl 2 rfl) ?_
  refine va_get (D := g.1) (ci := 1) (v := .ref att) (C := R_J) (T := F_J) (N := 14) hx hb htB in_J hown ha.1 hP 0 rfl rfl 10 (by decide) (htB _ kw_50) (fun _ h9 => h9) hf10 d_J_setSpan_34 ?_
  refine lv_iload_n hx hb d_J_setSpan_37 rfl (lv_at hl 3 rfl) ?_
  refine lv_iload hx hb d_J_setSpan_38 (lv_at hl 1 rfl) ?_
  refine lv_iload hx hb d_J_setSpan_40 (lv_at hl 1 rfl) ?_
  refine lv_iload_n hx hb d_J_setSpan_42 rfl (lv_at hl 4 rfl) ?_
  refine lv_iadd hx hb d_J_setSpan_43 ?_
  refine lv_iload hx hb d_J_setSpan_44 (lv_at hl 6 rfl) ?_
  refine lv_isub hx hb d_J_setSpan_46 ?_
  refine va_mmax (own := "JointSolids") hx hb (hml.trans hl.1.symm) hown (htB _ kw_168) (htB _ kw_169) (htB _ kw_4) (htB _ kw_170) (Nat.le_of_ble_eq_true rfl) (Nat.le_of_ble_eq_true rfl) (Nat.le_of_ble_eq_true rfl) (Nat.le_of_ble_eq_true rfl) d_J_setSpan_47 ?_
  refine ja_ast (k := k) hx hb ha.1 hP hD hS 1 0 rfl rfl (by omega) (by omega) d_J_setSpan_50 (fun H locs hP hD hS => ?_)
  have hP : va_P g.1 cls [(h, .inr (1, fs)), (att, eI g 6 (upd (va_cpy (cm) (ft) (0) (0) (6)) (k) (mxI (cm (k)) (((cm (k)) + (fr)) - (mo))))), (ac, eI g 6 (cm))] H := hP
  have hD : va_D A [(h, .inr (1, fs)), (att, eI g 6 (upd (va_cpy (cm) (ft) (0) (0) (6)) (k) (mxI (cm (k)) (((cm (k)) + (fr)) - (mo))))), (ac, eI g 6 (cm))] := hD
  refine lv_aload_n hx hb d_J_setSpan_51 rfl (lv_at hl 2 rfl) ?_
  refine va_get (D := g.1) (ci := 1) (v := .ref att) (C := R_J) (T := F_J) (N := 14) hx hb htB in_J hown ha.1 hP 0 rfl rfl 10 (by decide) (htB _ kw_50) (fun _ h9 => h9) hf10 d_J_setSpan_52 ?_
  refine lv_iload_n hx hb d_J_setSpan_55 rfl (lv_at hl 3 rfl) ?_
  refine lv_iconst (v := (nI (3))) hx hb d_J_setSpan_56 (by decide) ?_
  refine jv_iadd hx hb d_J_setSpan_57 ?_
  refine lv_iload hx hb d_J_setSpan_58 (lv_at hl 0 rfl) ?_
  refine lv_iload hx hb d_J_setSpan_60 (lv_at hl 1 rfl) ?_
  refine lv_iload_n hx hb d_J_setSpan_62 rfl (lv_at hl 5 rfl) ?_
  refine lv_iadd hx hb d_J_setSpan_63 ?_
  refine lv_iload hx hb d_J_setSpan_64 (lv_at hl 6 rfl) ?_
  refine lv_iadd hx hb d_J_setSpan_66 ?_
  refine va_mmin (own := "JointSolids") hx hb (hml.trans hl.1.symm) hown (htB _ kw_171) (htB _ kw_172) (htB _ kw_4) (htB _ kw_173) (Nat.le_of_ble_eq_true rfl) (Nat.le_of_ble_eq_true rfl) (Nat.le_of_ble_eq_true rfl) (Nat.le_of_ble_eq_true rfl) d_J_setSpan_67 ?_
  refine ja_ast (k := k + 3) hx hb ha.1 hP hD hS 1 0 rfl rfl (by omega) (by omega) d_J_setSpan_70 (fun H locs hP hD hS => ?_)
  have hP : va_P g.1 cls [(h, .inr (1, fs)), (att, eI g 6 (upd (upd (va_cpy (cm) (ft) (0) (0) (6)) (k) (mxI (cm (k)) (((cm (k)) + (fr)) - (mo)))) (k + 3) (mnI (cm (k + 3)) (((cm (k)) + (tt)) + (mo))))), (ac, eI g 6 (cm))] H := hP
  have hD : va_D A [(h, .inr (1, fs)), (att, eI g 6 (upd (upd (va_cpy (cm) (ft) (0) (0) (6)) (k) (mxI (cm (k)) (((cm (k)) + (fr)) - (mo)))) (k + 3) (mnI (cm (k + 3)) (((cm (k)) + (tt)) + (mo))))), (ac, eI g 6 (cm))] := hD
  have hP9 := hP.sub (ws' := [(h, .inr (1, fs)), (att, eI g 6 (upd (upd (va_cpy (cm) (ft) (0) (0) (6)) (k) (mxI (cm (k)) (((cm (k)) + (fr)) - (mo)))) (k + 3) (mnI (cm (k + 3)) (((cm (k)) + (tt)) + (mo))))), (ac, eI g 6 (cm))]) [0, 1, 2] rfl
  have hD9 := hD.sub (ws' := [(h, .inr (1, fs)), (att, eI g 6 (upd (upd (va_cpy (cm) (ft) (0) (0) (6)) (k) (mxI (cm (k)) (((cm (k)) + (fr)) - (mo)))) (k + 3) (mnI (cm (k + 3)) (((cm (k)) + (tt)) + (mo))))), (ac, eI g 6 (cm))]) [0, 1, 2] (by decide) rfl
  exact (W.widen (k := 0) (n := 0) (Nat.le_of_ble_eq_true rfl) (Nat.le_of_ble_eq_true rfl) (W.vret hx hb hr (fun t ht hW => ⟨⟨(), rfl, trivial, by rw [ht]; exact hP9, hD9.re [h, att, ac] rfl rfl⟩, hS.F ht⟩) hS.2.2 d_J_setSpan_71))
