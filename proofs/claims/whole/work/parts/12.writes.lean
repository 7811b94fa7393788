/-- six numbers at the head of a row -/
def st6 (f : Nat → Int32) (a b c d e h : Int32) : Nat → Int32 := upd (upd (upd (upd (upd (upd f 0 a) 1 b) 2 c) 3 d) 4 e) 5 h
theorem cpy_zero {α : Type} (f g : Nat → α) (sp dp : Nat) : va_cpy f g sp dp 0 = g := funext fun k => if_neg (by omega)
theorem cpy_step (f g : Nat → Int32) (sp dp n : Nat) : upd (va_cpy f g sp dp n) (dp + n) (f (sp + n)) = va_cpy f g sp dp (n + 1) := funext fun k => by
  unfold upd va_cpy
  by_cases h : k = dp + n
  · subst h; rw [if_pos rfl, if_pos (by omega), show dp + n - dp = n by omega]
  · rw [if_neg h]
    by_cases h2 : dp ≤ k ∧ k < dp + n
    · rw [if_pos h2, if_pos (by omega)]
    · rw [if_neg h2, if_neg (by omega)]
set_option maxHeartbeats 4000000 in
set_option maxRecDepth 100000 in
theorem m_J_setTool (l : Launch) (g : gT) (z : Nat) (H0 : Heap) (h : Nat) (fs : List Value) (ab : Nat) (f : Nat → Int32) (x y zz w hh dd : Int32) : Met l y_J_setTool w_J_setTool ({ frames := 0, cells := 0, slots := 0, locals := 0 }) (va_Pc [.ref h, .int (x), .int (y), .int (zz), .int (w), .int (hh), .int (dd)] (pB g z H0 (va_P g.1 cls [(h, .inr (1, fs)), (ab, eI g 6 (f))] H0 ∧ va_D (zA z) [(h, .inr (1, fs)), (ab, eI g 6 (f))] ∧ (fs[10]? = some (.ref ab))))) (va_Qv (fun (_ : Unit) => True) (fun (_ : Unit) t => va_P g.1 cls [(h, .inr (1, fs)), (ab, eI g 6 (st6 f x y zz (x + w) (y + hh) (zz + dd)))] t.heap ∧ va_D (va_A [(h, .inr (1, fs)), (ab, eI g 6 (f))] H0.size) [(h, .inr (1, fs)), (ab, eI g 6 (st6 f x y zz (x + w) (y + hh) (zz + dd)))]) (va_A [(h, .inr (1, fs)), (ab, eI g 6 (f))] H0.size)) 0 0 (va_A [(h, .inr (1, fs)), (ab, eI g 6 (f))] H0.size) := by
  refine Met.ofW (cc := c_J_setTool) (maxL := 7) (ret := none) (by decide) rfl ?_
  intro p e s m args below meth c s₁ B hml hv
  obtain ⟨rfl, hH0, ha, hP, hD0, hf⟩ := hv
  have hx := B.exec
  have hb := B.bytes
  have hr := B.returns
  have htB : ∀ w ∈ tB, w.before _ s = true := fun w h => atoms_spec (ws := w_J_setTool) B.pre w (List.mem_cons_of_mem _ h)
  have hown : s.vm.findClass "JointSolids" = some m.cls := findClass_of_methodNamed B.named
  have hlocks := B.notSynchronized
  subst hH0
  have hD := hD0.self (sz := s.heap.size)
  have hz := aA_z hD0 ha.2.2.2.2.2
  generalize hAe : va_A [(h, .inr (1, fs)), (ab, eI g 6 (f))] s.heap.size = A at hD hz ⊢
  have hA : ∀ q : Nat, s.heap.size ≤ q → A q := fun q h => by rw [← hAe]; exact Or.inr h
  have hS : va_S A s.heap s.heap [] := va_S.rf
  refine W.ofH hP hS (fun H locs hP hS => ?_)
  have hl := lv_entry ([.ref h, .int (x), .int (y), .int (zz), .int (w), .int (hh), .int (dd)]) (n := 7) (Nat.le_of_ble_eq_true rfl)
  rw [lg_entry_eq]
  generalize (lg_sl ([.ref h, .int (x), .int (y), .int (zz), .int (w), .int (hh), .int (dd)]) ++ List.replicate (7 - (lg_sl ([.ref h, .int (x), .int (y), .int (zz), .int (w), .int (hh), .int (dd)])).length) Slot.unset).toArray = ls at hl ⊢
  have hl : lv_has ls 7 [(0, .ref h), (1, .int (x)), (2, .int (y)), (3, .int (zz)), (4, .int (w)), (5, .int (hh)), (6, .int (dd))] := hl
  refine lv_aload_n hx hb d_J_setTool_0 rfl (lv_at hl 0 rfl) ?_
  refine va_get (D := g.1) (ci := 1) (v := .ref ab) (C := R_J) (T := F_J) (N := 14) hx hb htB in_J hown ha.1 hP 0 rfl rfl 10 (by decide) (htB _ kw_50) (fun _ h9 => h9) hf d_J_setTool_1 ?_
  refine lv_iconst (v := (nI (0))) hx hb d_J_setTool_4 (by decide) ?_
  refine lv_iload_n hx hb d_J_setTool_5 rfl (lv_at hl 1 rfl) ?_
  refine ja_ast (k := 0) hx hb ha.1 hP hD hS 1 0 rfl rfl (by omega) (by omega) d_J_setTool_6 (fun H locs hP hD hS => ?_)
  have hP : va_P g.1 cls [(h, .inr (1, fs)), (ab, eI g 6 (upd (f) (0) (x)))] H := hP
  have hD : va_D A [(h, .inr (1, fs)), (ab, eI g 6 (upd (f) (0) (x)))] := hD
  refine lv_aload_n hx hb d_J_setTool_7 rfl (lv_at hl 0 rfl) ?_
  refine va_get (D := g.1) (ci := 1) (v := .ref ab) (C := R_J) (T := F_J) (N := 14) hx hb htB in_J hown ha.1 hP 0 rfl rfl 10 (by decide) (htB _ kw_50) (fun _ h9 => h9) hf d_J_setTool_8 ?_
  refine lv_iconst (v := (nI (1))) hx hb d_J_setTool_11 (by decide) ?_
  refine lv_iload_n hx hb d_J_setTool_12 rfl (lv_at hl 2 rfl) ?_
  refine ja_ast (k := 1) hx hb ha.1 hP hD hS 1 0 rfl rfl (by omega) (by omega) d_J_setTool_13 (fun H locs hP hD hS => ?_)
  have hP : va_P g.1 cls [(h, .inr (1, fs)), (ab, eI g 6 (upd (upd (f) (0) (x)) (1) (y)))] H := hP
  have hD : va_D A [(h, .inr (1, fs)), (ab, eI g 6 (upd (upd (f) (0) (x)) (1) (y)))] := hD
  refine lv_aload_n hx hb d_J_setTool_14 rfl (lv_at hl 0 rfl) ?_
  refine va_get (D := g.1) (ci := 1) (v := .ref ab) (C := R_J) (T := F_J) (N := 14) hx hb htB in_J hown ha.1 hP 0 rfl rfl 10 (by decide) (htB _ kw_50) (fun _ h9 => h9) hf d_J_setTool_15 ?_
  refine lv_iconst (v := (nI (2))) hx hb d_J_setTool_18 (by decide) ?_
  refine lv_iload_n hx hb d_J_setTool_19 rfl (lv_at hl 3 rfl) ?_
  refine ja_ast (k := 2) hx hb ha.1 hP hD hS 1 0 rfl rfl (by omega) (by omega) d_J_setTool_20 (fun H locs hP hD hS => ?_)
  have hP : va_P g.1 cls [(h, .inr (1, fs)), (ab, eI g 6 (upd (upd (upd (f) (0) (x)) (1) (y)) (2) (zz)))] H := hP
  have hD : va_D A [(h, .inr (1, fs)), (ab, eI g 6 (upd (upd (upd (f) (0) (x)) (1) (y)) (2) (zz)))] := hD
  refine lv_aload_n hx hb d_J_setTool_21 rfl (lv_at hl 0 rfl) ?_
  refine va_get (D := g.1) (ci := 1) (v := .ref ab) (C := R_J) (T := F_J) (N := 14) hx hb htB in_J hown ha.1 hP 0 rfl rfl 10 (by decide) (htB _ kw_50) (fun _ h9 => h9) hf d_J_setTool_22 ?_
  refine lv_iconst (v := (nI (3))) hx hb d_J_setTool_25 (by decide) ?_
  refine lv_iload_n hx hb d_J_setTool_26 rfl (lv_at hl 1 rfl) ?_
  refine lv_iload hx hb d_J_setTool_27 (lv_at hl 4 rfl) ?_
  refine lv_iadd hx hb d_J_setTool_29 ?_
  refine ja_ast (k := 3) hx hb ha.1 hP hD hS 1 0 rfl rfl (by omega) (by omega) d_J_setTool_30 (fun H locs hP hD hS => ?_)
  have hP : va_P g.1 cls [(h, .inr (1, fs)), (ab, eI g 6 (upd (upd (upd (upd (f) (0) (x)) (1) (y)) (2) (zz)) (3) ((x) + (w))))] H := hP
  have hD : va_D A [(h, .inr (1, fs)), (ab, eI g 6 (upd (upd (upd (upd (f) (0) (x)) (1) (y)) (2) (zz)) (3) ((x) + (w))))] := hD
  refine lv_aload_n hx hb d_J_setTool_31 rfl (lv_at hl 0 rfl) ?_
  refine va_get (D := g.1) (ci := 1) (v := .ref ab) (C := R_J) (T := F_J) (N := 14) hx hb htB in_J hown ha.1 hP 0 rfl rfl 10 (by decide) (htB _ kw_50) (fun _ h9 => h9) hf d_J_setTool_32 ?_
  refine lv_iconst (v := (nI (4))) hx hb d_J_setTool_35 (by decide) ?_
  refine lv_iload_n hx hb d_J_setTool_36 rfl (lv_at hl 2 rfl) ?_
  refine lv_iload hx hb d_J_setTool_37 (lv_at hl 5 rfl) ?_
  refine lv_iadd hx hb d_J_setTool_39 ?_
  refine ja_ast (k := 4) hx hb ha.1 hP hD hS 1 0 rfl rfl (by omega) (by omega) d_J_setTool_40 (fun H locs hP hD hS => ?_)
  have hP : va_P g.1 cls [(h, .inr (1, fs)), (ab, eI g 6 (upd (upd (upd (upd (upd (f) (0) (x)) (1) (y)) (2) (zz)) (3) ((x) + (w))) (4) ((y) + (hh))))] H := hP
  have hD : va_D A [(h, .inr (1, fs)), (ab, eI g 6 (upd (upd (upd (upd (upd (f) (0) (x)) (1) (y)) (2) (zz)) (3) ((x) + (w))) (4) ((y) + (hh))))] := hD
  refine lv_aload_n hx hb d_J_setTool_41 rfl (lv_at hl 0 rfl) ?_
  refine va_get (D := g.1) (ci := 1) (v := .ref ab) (C := R_J) (T := F_J) (N := 14) hx hb htB in_J hown ha.1 hP 0 rfl rfl 10 (by decide) (htB _ kw_50) (fun _ h9 => h9) hf d_J_setTool_42 ?_
  refine lv_iconst (v := (nI (5))) hx hb d_J_setTool_45 (by decide) ?_
  refine lv_iload_n hx hb d_J_setTool_46 rfl (lv_at hl 3 rfl) ?_
  refine lv_iload hx hb d_J_setTool_47 (lv_at hl 6 rfl) ?_
  refine lv_iadd hx hb d_J_setTool_49 ?_
  refine ja_ast (k := 5) hx hb ha.1 hP hD hS 1 0 rfl rfl (by omega) (by omega) d_J_setTool_50 (fun H locs hP hD hS => ?_)
  have hP : va_P g.1 cls [(h, .inr (1, fs)), (ab, eI g 6 (upd (upd (upd (upd (upd (upd (f) (0) (x)) (1) (y)) (2) (zz)) (3) ((x) + (w))) (4) ((y) + (hh))) (5) ((zz) + (dd))))] H := hP
  have hD : va_D A [(h, .inr (1, fs)), (ab, eI g 6 (upd (upd (upd (upd (upd (upd (f) (0) (x)) (1) (y)) (2) (zz)) (3) ((x) + (w))) (4) ((y) + (hh))) (5) ((zz) + (dd))))] := hD
  have hP9 := hP.sub (ws' := [(h, .inr (1, fs)), (ab, eI g 6 (upd (upd (upd (upd (upd (upd (f) (0) (x)) (1) (y)) (2) (zz)) (3) ((x) + (w))) (4) ((y) + (hh))) (5) ((zz) + (dd))))]) [0, 1] rfl
  have hD9 := hD.sub (ws' := [(h, .inr (1, fs)), (ab, eI g 6 (upd (upd (upd (upd (upd (upd (f) (0) (x)) (1) (y)) (2) (zz)) (3) ((x) + (w))) (4) ((y) + (hh))) (5) ((zz) + (dd))))]) [0, 1] (by decide) rfl
  exact (W.widen (k := 0) (n := 0) (Nat.le_of_ble_eq_true rfl) (Nat.le_of_ble_eq_true rfl) (W.vret hx hb hr (fun t ht hW => ⟨⟨(), rfl, trivial, by rw [ht]; exact hP9, hD9.re [h, ab] rfl rfl⟩, hS.F ht⟩) hS.2.2 d_J_setTool_51))
set_option maxHeartbeats 4000000 in
set_option maxRecDepth 100000 in
theorem m_M_tell (l : Launch) (g : gT) (z : Nat) (H0 : Heap) (h : Nat) (fs : List Value) (ab : Nat) (f : Nat → Int32) (x y zz w hh dd : Int32) : Met l y_M_tell w_M_tell ({ frames := 0, cells := 0, slots := 0, locals := 0 }) (va_Pc [.ref h, .int (x), .int (y), .int (zz), .int (w), .int (hh), .int (dd)] (pB g z H0 (va_P g.1 cls [(h, .inr (3, fs)), (ab, eI g 6 (f))] H0 ∧ va_D (zA z) [(h, .inr (3, fs)), (ab, eI g 6 (f))] ∧ (fs[8]? = some (.ref ab))))) (va_Qv (fun (_ : Unit) => True) (fun (_ : Unit) t => va_P g.1 cls [(h, .inr (3, fs)), (ab, eI g 6 (st6 f x y zz (x + w) (y + hh) (zz + dd)))] t.heap ∧ va_D (va_A [(h, .inr (3, fs)), (ab, eI g 6 (f))] H0.size) [(h, .inr (3, fs)), (ab, eI g 6 (st6 f x y zz (x + w) (y + hh) (zz + dd)))]) (va_A [(h, .inr (3, fs)), (ab, eI g 6 (f))] H0.size)) 0 0 (va_A [(h, .inr (3, fs)), (ab, eI g 6 (f))] H0.size) := by
  refine Met.ofW (cc := c_M_tell) (maxL := 7) (ret := none) (by decide) rfl ?_
  intro p e s m args below meth c s₁ B hml hv
  obtain ⟨rfl, hH0, ha, hP, hD0, hf⟩ := hv
  have hx := B.exec
  have hb := B.bytes
  have hr := B.returns
  have htB : ∀ w ∈ tB, w.before _ s = true := fun w h => atoms_spec (ws := w_M_tell) B.pre w (List.mem_cons_of_mem _ h)
  have hown : s.vm.findClass "JointSolidsModel" = some m.cls := findClass_of_methodNamed B.named
  have hlocks := B.notSynchronized
  subst hH0
  have hD := hD0.self (sz := s.heap.size)
  have hz := aA_z hD0 ha.2.2.2.2.2
  generalize hAe : va_A [(h, .inr (3, fs)), (ab, eI g 6 (f))] s.heap.size = A at hD hz ⊢
  have hA : ∀ q : Nat, s.heap.size ≤ q → A q := fun q h => by rw [← hAe]; exact Or.inr h
  have hS : va_S A s.heap s.heap [] := va_S.rf
  refine W.ofH hP hS (fun H locs hP hS => ?_)
  have hl := lv_entry ([.ref h, .int (x), .int (y), .int (zz), .int (w), .int (hh), .int (dd)]) (n := 7) (Nat.le_of_ble_eq_true rfl)
  rw [lg_entry_eq]
  generalize (lg_sl ([.ref h, .int (x), .int (y), .int (zz), .int (w), .int (hh), .int (dd)]) ++ List.replicate (7 - (lg_sl ([.ref h, .int (x), .int (y), .int (zz), .int (w), .int (hh), .int (dd)])).length) Slot.unset).toArray = ls at hl ⊢
  have hl : lv_has ls 7 [(0, .ref h), (1, .int (x)), (2, .int (y)), (3, .int (zz)), (4, .int (w)), (5, .int (hh)), (6, .int (dd))] := hl
  refine lv_aload_n hx hb d_M_tell_0 rfl (lv_at hl 0 rfl) ?_
  refine va_get (D := g.1) (ci := 3) (v := .ref ab) (C := R_M) (T := F_M) (N := 19) hx hb htB in_M hown ha.1 hP 0 rfl rfl 8 (by decide) (htB _ kw_450) (fun _ h9 => h9) hf d_M_tell_1 ?_
  refine lv_iconst (v := (nI (0))) hx hb d_M_tell_4 (by decide) ?_
  refine lv_iload_n hx hb d_M_tell_5 rfl (lv_at hl 1 rfl) ?_
  refine ja_ast (k := 0) hx hb ha.1 hP hD hS 1 0 rfl rfl (by omega) (by omega) d_M_tell_6 (fun H locs hP hD hS => ?_)
  have hP : va_P g.1 cls [(h, .inr (3, fs)), (ab, eI g 6 (upd (f) (0) (x)))] H := hP
  have hD : va_D A [(h, .inr (3, fs)), (ab, eI g 6 (upd (f) (0) (x)))] := hD
  refine lv_aload_n hx hb d_M_tell_7 rfl (lv_at hl 0 rfl) ?_
  refine va_get (D := g.1) (ci := 3) (v := .ref ab) (C := R_M) (T := F_M) (N := 19) hx hb htB in_M hown ha.1 hP 0 rfl rfl 8 (by decide) (htB _ kw_450) (fun _ h9 => h9) hf d_M_tell_8 ?_
  refine lv_iconst (v := (nI (1))) hx hb d_M_tell_11 (by decide) ?_
  refine lv_iload_n hx hb d_M_tell_12 rfl (lv_at hl 2 rfl) ?_
  refine ja_ast (k := 1) hx hb ha.1 hP hD hS 1 0 rfl rfl (by omega) (by omega) d_M_tell_13 (fun H locs hP hD hS => ?_)
  have hP : va_P g.1 cls [(h, .inr (3, fs)), (ab, eI g 6 (upd (upd (f) (0) (x)) (1) (y)))] H := hP
  have hD : va_D A [(h, .inr (3, fs)), (ab, eI g 6 (upd (upd (f) (0) (x)) (1) (y)))] := hD
  refine lv_aload_n hx hb d_M_tell_14 rfl (lv_at hl 0 rfl) ?_
  refine va_get (D := g.1) (ci := 3) (v := .ref ab) (C := R_M) (T := F_M) (N := 19) hx hb htB in_M hown ha.1 hP 0 rfl rfl 8 (by decide) (htB _ kw_450) (fun _ h9 => h9) hf d_M_tell_15 ?_
  refine lv_iconst (v := (nI (2))) hx hb d_M_tell_18 (by decide) ?_
  refine lv_iload_n hx hb d_M_tell_19 rfl (lv_at hl 3 rfl) ?_
  refine ja_ast (k := 2) hx hb ha.1 hP hD hS 1 0 rfl rfl (by omega) (by omega) d_M_tell_20 (fun H locs hP hD hS => ?_)
  have hP : va_P g.1 cls [(h, .inr (3, fs)), (ab, eI g 6 (upd (upd (upd (f) (0) (x)) (1) (y)) (2) (zz)))] H := hP
  have hD : va_D A [(h, .inr (3, fs)), (ab, eI g 6 (upd (upd (upd (f) (0) (x)) (1) (y)) (2) (zz)))] := hD
  refine lv_aload_n hx hb d_M_tell_21 rfl (lv_at hl 0 rfl) ?_
  refine va_get (D := g.1) (ci := 3) (v := .ref ab) (C := R_M) (T := F_M) (N := 19) hx hb htB in_M hown ha.1 hP 0 rfl rfl 8 (by decide) (htB _ kw_450) (fun _ h9 => h9) hf d_M_tell_22 ?_
  refine lv_iconst (v := (nI (3))) hx hb d_M_tell_25 (by decide) ?_
  refine lv_iload_n hx hb d_M_tell_26 rfl (lv_at hl 1 rfl) ?_
  refine lv_iload hx hb d_M_tell_27 (lv_at hl 4 rfl) ?_
  refine lv_iadd hx hb d_M_tell_29 ?_
  refine ja_ast (k := 3) hx hb ha.1 hP hD hS 1 0 rfl rfl (by omega) (by omega) d_M_tell_30 (fun H locs hP hD hS => ?_)
  have hP : va_P g.1 cls [(h, .inr (3, fs)), (ab, eI g 6 (upd (upd (upd (upd (f) (0) (x)) (1) (y)) (2) (zz)) (3) ((x) + (w))))] H := hP
  have hD : va_D A [(h, .inr (3, fs)), (ab, eI g 6 (upd (upd (upd (upd (f) (0) (x)) (1) (y)) (2) (zz)) (3) ((x) + (w))))] := hD
  refine lv_aload_n hx hb d_M_tell_31 rfl (lv_at hl 0 rfl) ?_
  refine va_get (D := g.1) (ci := 3) (v := .ref ab) (C := R_M) (T := F_M) (N := 19) hx hb htB in_M hown ha.1 hP 0 rfl rfl 8 (by decide) (htB _ kw_450) (fun _ h9 => h9) hf d_M_tell_32 ?_
  refine lv_iconst (v := (nI (4))) hx hb d_M_tell_35 (by decide) ?_
  refine lv_iload_n hx hb d_M_tell_36 rfl (lv_at hl 2 rfl) ?_
  refine lv_iload hx hb d_M_tell_37 (lv_at hl 5 rfl) ?_
  refine lv_iadd hx hb d_M_tell_39 ?_
  refine ja_ast (k := 4) hx hb ha.1 hP hD hS 1 0 rfl rfl (by omega) (by omega) d_M_tell_40 (fun H locs hP hD hS => ?_)
  have hP : va_P g.1 cls [(h, .inr (3, fs)), (ab, eI g 6 (upd (upd (upd (upd (upd (f) (0) (x)) (1) (y)) (2) (zz)) (3) ((x) + (w))) (4) ((y) + (hh))))] H := hP
  have hD : va_D A [(h, .inr (3, fs)), (ab, eI g 6 (upd (upd (upd (upd (upd (f) (0) (x)) (1) (y)) (2) (zz)) (3) ((x) + (w))) (4) ((y) + (hh))))] := hD
  refine lv_aload_n hx hb d_M_tell_41 rfl (lv_at hl 0 rfl) ?_
  refine va_get (D := g.1) (ci := 3) (v := .ref ab) (C := R_M) (T := F_M) (N := 19) hx hb htB in_M hown ha.1 hP 0 rfl rfl 8 (by decide) (htB _ kw_450) (fun _ h9 => h9) hf d_M_tell_42 ?_
  refine lv_iconst (v := (nI (5))) hx hb d_M_tell_45 (by decide) ?_
  refine lv_iload_n hx hb d_M_tell_46 rfl (lv_at hl 3 rfl) ?_
  refine lv_iload hx hb d_M_tell_47 (lv_at hl 6 rfl) ?_
  refine lv_iadd hx hb d_M_tell_49 ?_
  refine ja_ast (k := 5) hx hb ha.1 hP hD hS 1 0 rfl rfl (by omega) (by omega) d_M_tell_50 (fun H locs hP hD hS => ?_)
  have hP : va_P g.1 cls [(h, .inr (3, fs)), (ab, eI g 6 (upd (upd (upd (upd (upd (upd (f) (0) (x)) (1) (y)) (2) (zz)) (3) ((x) + (w))) (4) ((y) + (hh))) (5) ((zz) + (dd))))] H := hP
  have hD : va_D A [(h, .inr (3, fs)), (ab, eI g 6 (upd (upd (upd (upd (upd (upd (f) (0) (x)) (1) (y)) (2) (zz)) (3) ((x) + (w))) (4) ((y) + (hh))) (5) ((zz) + (dd))))] := hD
  have hP9 := hP.sub (ws' := [(h, .inr (3, fs)), (ab, eI g 6 (upd (upd (upd (upd (upd (upd (f) (0) (x)) (1) (y)) (2) (zz)) (3) ((x) + (w))) (4) ((y) + (hh))) (5) ((zz) + (dd))))]) [0, 1] rfl
  have hD9 := hD.sub (ws' := [(h, .inr (3, fs)), (ab, eI g 6 (upd (upd (upd (upd (upd (upd (f) (0) (x)) (1) (y)) (2) (zz)) (3) ((x) + (w))) (4) ((y) + (hh))) (5) ((zz) + (dd))))]) [0, 1] (by decide) rfl
  exact (W.widen (k := 0) (n := 0) (Nat.le_of_ble_eq_true rfl) (Nat.le_of_ble_eq_true rfl) (W.vret hx hb hr (fun t ht hW => ⟨⟨(), rfl, trivial, by rw [ht]; exact hP9, hD9.re [h, ab] rfl rfl⟩, hS.F ht⟩) hS.2.2 d_M_tell_51))
set_option maxHeartbeats 4000000 in
set_option maxRecDepth 100000 in
theorem m_S_empty (l : Launch) (g : gT) (z : Nat) (H0 : Heap) (sa ba na : Nat) : Met l y_S_empty w_S_empty ({ frames := 0, cells := 0, slots := 0, locals := 0 }) (va_Pc [.ref sa] (pB g z H0 (va_P g.1 cls [(sa, .inr (0, [.ref ba, .int (nI (na))]))] H0 ∧ va_D (zA z) [(sa, .inr (0, [.ref ba, .int (nI (na))]))] ∧ (True)))) (va_Qv (fun (_ : Unit) => True) (fun (_ : Unit) t => va_P g.1 cls [(sa, .inr (0, [.ref ba, .int (nI (0))]))] t.heap ∧ va_D (va_A [(sa, .inr (0, [.ref ba, .int (nI (na))]))] H0.size) [(sa, .inr (0, [.ref ba, .int (nI (0))]))]) (va_A [(sa, .inr (0, [.ref ba, .int (nI (na))]))] H0.size)) 0 0 (va_A [(sa, .inr (0, [.ref ba, .int (nI (na))]))] H0.size) := by
  refine Met.ofW (cc := c_S_empty) (maxL := 1) (ret := none) (by decide) rfl ?_
  intro p e s m args below meth c s₁ B hml hv
  obtain ⟨rfl, hH0, ha, hP, hD0, -⟩ := hv
  have hx := B.exec
  have hb := B.bytes
  have hr := B.returns
  have htB : ∀ w ∈ tB, w.before _ s = true := fun w h => atoms_spec (ws := w_S_empty) B.pre w (List.mem_cons_of_mem _ h)
  have hown : s.vm.findClass "JointSolids$Solid" = some m.cls := findClass_of_methodNamed B.named
  have hlocks := B.notSynchronized
  subst hH0
  have hD := hD0.self (sz := s.heap.size)
  have hz := aA_z hD0 ha.2.2.2.2.2
  generalize hAe : va_A [(sa, .inr (0, [.ref ba, .int (nI (na))]))] s.heap.size = A at hD hz ⊢
  have hA : ∀ q : Nat, s.heap.size ≤ q → A q := fun q h => by rw [← hAe]; exact Or.inr h
  have hS : va_S A s.heap s.heap [] := va_S.rf
  refine W.ofH hP hS (fun H locs hP hS => ?_)
  have hl := lv_entry ([.ref sa]) (n := 1) (Nat.le_of_ble_eq_true rfl)
  rw [lg_entry_eq]
  generalize (lg_sl ([.ref sa]) ++ List.replicate (1 - (lg_sl ([.ref sa])).length) Slot.unset).toArray = ls at hl ⊢
  have hl : lv_has ls 1 [(0, .ref sa)] := hl
  refine lv_aload_n hx hb d_S_empty_0 rfl (lv_at hl 0 rfl) ?_
  refine lv_iconst (v := (nI (0))) hx hb d_S_empty_1 (by decide) ?_
  refine va_put (D := g.1) (ci := 0) (v := .int (nI (0))) (ty := .int) (C := R_S) (T := F_S) (N := 2) hx hb htB in_S t_S t_S_ok n_S hown ha.1 hP hD hS 0 rfl rfl 1 (by decide) (htB _ kw_32) (fun _ h9 => h9) rfl (by decide +kernel) rfl rfl (Nat.le_of_ble_eq_true rfl) d_S_empty_2 (fun H locs hP hD hS => ?_)
  have hP : va_P g.1 cls [(sa, .inr (0, [.ref ba, .int (nI (0))]))] H := hP
  have hD : va_D A [(sa, .inr (0, [.ref ba, .int (nI (0))]))] := hD
  have hP9 := hP.sub (ws' := [(sa, .inr (0, [.ref ba, .int (nI (0))]))]) [0] rfl
  have hD9 := hD.sub (ws' := [(sa, .inr (0, [.ref ba, .int (nI (0))]))]) [0] (by decide) rfl
  exact (W.widen (k := 0) (n := 0) (Nat.le_of_ble_eq_true rfl) (Nat.le_of_ble_eq_true rfl) (W.vret hx hb hr (fun t ht hW => ⟨⟨(), rfl, trivial, by rw [ht]; exact hP9, hD9.re [sa] rfl rfl⟩, hS.F ht⟩) hS.2.2 d_S_empty_5))
/-- box number n of the row B becomes the six numbers of f from o on, if there is room -/
def adB (B : Nat → Int32) (n : Nat) (f : Nat → Int32) (o : Nat) : Nat → Int32 := if n < 24 then va_cpy f B o (n * 6) 6 else B
set_option maxHeartbeats 4000000 in
set_option maxRecDepth 100000 in
theorem m_S_add (l : Launch) (g : gT) (z : Nat) (H0 : Heap) (sa ba na qf n aa : Nat) (fa f : Nat → Int32) : Met l y_S_add w_S_add ({ frames := 1, cells := 0, slots := 0, locals := 40 }) (va_Pc [.ref sa, .ref qf, .int (nI (aa))] (pB g z H0 (va_P g.1 cls [(sa, .inr (0, [.ref ba, .int (nI (na))])), (ba, eI g 144 (fa)), (qf, eI g n (f))] H0 ∧ va_D (zA z) [(sa, .inr (0, [.ref ba, .int (nI (na))])), (ba, eI g 144 (fa)), (qf, eI g n (f))] ∧ (na < 200 ∧ aa + 6 ≤ n ∧ n < 2 ^ 31)))) (va_Qv (fun (_ : Unit) => True) (fun (_ : Unit) t => va_P g.1 cls [(sa, .inr (0, [.ref ba, .int (nI (na + 1))])), (ba, eI g 144 (adB fa na f aa)), (qf, eI g n (f))] t.heap ∧ va_D (va_A [(sa, .inr (0, [.ref ba, .int (nI (na))])), (ba, eI g 144 (fa)), (qf, eI g n (f))] H0.size) [(sa, .inr (0, [.ref ba, .int (nI (na + 1))])), (ba, eI g 144 (adB fa na f aa)), (qf, eI g n (f))]) (va_A [(sa, .inr (0, [.ref ba, .int (nI (na))])), (ba, eI g 144 (fa)), (qf, eI g n (f))] H0.size)) 0 0 (va_A [(sa, .inr (0, [.ref ba, .int (nI (na))])), (ba, eI g 144 (fa)), (qf, eI g n (f))] H0.size) := by
  refine Met.ofW (cc := c_S_add) (maxL := 3) (ret := none) (by decide) rfl ?_
  intro p e s m args below meth c s₁ B hml hv
  obtain ⟨rfl, hH0, ha, hP, hD0, hna, haa, hn⟩ := hv
  have hx := B.exec
  have hb := B.bytes
  have hr := B.returns
  have htB : ∀ w ∈ tB, w.before _ s = true := fun w h => atoms_spec (ws := w_S_add) B.pre w (List.mem_cons_of_mem _ h)
  have hown : s.vm.findClass "JointSolids$Solid" = some m.cls := findClass_of_methodNamed B.named
  have hlocks := B.notSynchronized
  subst hH0
  have hD := hD0.self (sz := s.heap.size)
  have hz := aA_z hD0 ha.2.2.2.2.2
  generalize hAe : va_A [(sa, .inr (0, [.ref ba, .int (nI (na))])), (ba, eI g 144 (fa)), (qf, eI g n (f))] s.heap.size = A at hD hz ⊢
  have hA : ∀ q : Nat, s.heap.size ≤ q → A q := fun q h => by rw [← hAe]; exact Or.inr h
  have hS : va_S A s.heap s.heap [] := va_S.rf
  refine W.ofH hP hS (fun H locs hP hS => ?_)
  have hl := lv_entry ([.ref sa, .ref qf, .int (nI (aa))]) (n := 3) (Nat.le_of_ble_eq_true rfl)
  rw [lg_entry_eq]
  generalize (lg_sl ([.ref sa, .ref qf, .int (nI (aa))]) ++ List.replicate (3 - (lg_sl ([.ref sa, .ref qf, .int (nI (aa))])).length) Slot.unset).toArray = ls at hl ⊢
  have hl : lv_has ls 3 [(0, .ref sa), (1, .ref qf), (2, .int (nI (aa)))] := hl
  refine lv_aload_n hx hb d_S_add_0 rfl (lv_at hl 0 rfl) ?_
  refine va_get (D := g.1) (ci := 0) (v := .int (nI (na))) (C := R_S) (T := F_S) (N := 2) hx hb htB in_S hown ha.1 hP 0 rfl rfl 1 (by decide) (htB _ kw_32) (fun _ h9 => h9) rfl d_S_add_1 ?_
  refine lv_bipush (v := (nI (24))) hx hb d_S_add_4 (by decide) ?_
  refine jv_icmp_ge (tgt := 27) hx hb (by omega) (by omega) d_S_add_6 (by decide) (fun c_1 => ?_) (fun c_1 => ?_)
  · refine lv_aload_n hx hb d_S_add_27 rfl (lv_at hl 0 rfl) ?_
    refine lv_dup hx hb d_S_add_28 rfl ?_
    refine va_get (D := g.1) (ci := 0) (v := .int (nI (na))) (C := R_S) (T := F_S) (N := 2) hx hb htB in_S hown ha.1 hP 0 rfl rfl 1 (by decide) (htB _ kw_32) (fun _ h9 => h9) rfl d_S_add_29 ?_
    refine lv_iconst (v := (nI (1))) hx hb d_S_add_32 (by decide) ?_
    refine jv_iadd hx hb d_S_add_33 ?_
    refine va_put (D := g.1) (ci := 0) (v := .int (nI (na + 1))) (ty := .int) (C := R_S) (T := F_S) (N := 2) hx hb htB in_S t_S t_S_ok n_S hown ha.1 hP hD hS 0 rfl rfl 1 (by decide) (htB _ kw_32) (fun _ h9 => h9) rfl (by decide +kernel) rfl rfl (Nat.le_of_ble_eq_true rfl) d_S_add_34 (fun H locs hP hD hS => ?_)
    have hP : va_P g.1 cls [(sa, .inr (0, [.ref ba, .int (nI (na + 1))])), (ba, eI g 144 (fa)), (qf, eI g n (f))] H := hP
    have hD : va_D A [(sa, .inr (0, [.ref ba, .int (nI (na + 1))])), (ba, eI g 144 (fa)), (qf, eI g n (f))] := hD
    have hP9 := hP.sub (ws' := [(sa, .inr (0, [.ref ba, .int (nI (na + 1))])), (ba, eI g 144 (fa)), (qf, eI g n (f))]) [0, 1, 2] rfl
    have hD9 := hD.sub (ws' := [(sa, .inr (0, [.ref ba, .int (nI (na + 1))])), (ba, eI g 144 (fa)), (qf, eI g n (f))]) [0, 1, 2] (by decide) rfl
    exact (W.widen (k := 0) (n := 0) (Nat.le_of_ble_eq_true rfl) (Nat.le_of_ble_eq_true rfl) (W.vret hx hb hr (fun t ht hW => ⟨⟨(), rfl, trivial, by rw [ht, show adB fa na f aa = fa from if_neg (by omega)]; exact hP9, hD9.re [sa, ba, qf] rfl rfl⟩, hS.F ht⟩) hS.2.2 d_S_add_37))
  · refine lv_aload_n hx hb d_S_add_9 rfl (lv_at hl 1 rfl) ?_
    refine lv_iload_n hx hb d_S_add_10 rfl (lv_at hl 2 rfl) ?_
    refine lv_aload_n hx hb d_S_add_11 rfl (lv_at hl 0 rfl) ?_
    refine va_get (D := g.1) (ci := 0) (v := .ref ba) (C := R_S) (T := F_S) (N := 2) hx hb htB in_S hown ha.1 hP 0 rfl rfl 0 (by decide) (htB _ kw_30) (fun _ h9 => h9) rfl d_S_add_12 ?_
    refine lv_aload_n hx hb d_S_add_15 rfl (lv_at hl 0 rfl) ?_
    refine va_get (D := g.1) (ci := 0) (v := .int (nI (na))) (C := R_S) (T := F_S) (N := 2) hx hb htB in_S hown ha.1 hP 0 rfl rfl 1 (by decide) (htB _ kw_32) (fun _ h9 => h9) rfl d_S_add_16 ?_
    refine lv_bipush (v := (nI (6))) hx hb d_S_add_19 (by decide) ?_
    refine jv_imul hx hb d_S_add_21 ?_
    refine lv_bipush (v := (nI (6))) hx hb d_S_add_22 (by decide) ?_
    refine ja_copy (sp := aa) (dp := na * 6) (n := 6) (own := "JointSolids$Solid") hx hb (hml.trans hl.1.symm) hown (htB _ kw_233) (htB _ kw_228) (htB _ kw_227) (htB _ kw_10) ha.1 hP hD hS 2 1 0 0 rfl rfl rfl rfl (by omega) (by omega) (by omega) (by omega) (Nat.le_of_ble_eq_true rfl) (Nat.le_of_ble_eq_true rfl) d_S_add_24 (fun H locs hP hD hS => ?_)
    have hP : va_P g.1 cls [(sa, .inr (0, [.ref ba, .int (nI (na))])), (ba, eI g 144 (va_cpy (f) (fa) (aa) (na * 6) (6))), (qf, eI g n (f))] H := hP
    have hD : va_D A [(sa, .inr (0, [.ref ba, .int (nI (na))])), (ba, eI g 144 (va_cpy (f) (fa) (aa) (na * 6) (6))), (qf, eI g n (f))] := hD
    refine lv_aload_n hx hb d_S_add_27 rfl (lv_at hl 0 rfl) ?_
    refine lv_dup hx hb d_S_add_28 rfl ?_
    refine va_get (D := g.1) (ci := 0) (v := .int (nI (na))) (C := R_S) (T := F_S) (N := 2) hx hb htB in_S hown ha.1 hP 0 rfl rfl 1 (by decide) (htB _ kw_32) (fun _ h9 => h9) rfl d_S_add_29 ?_
    refine lv_iconst (v := (nI (1))) hx hb d_S_add_32 (by decide) ?_
    refine jv_iadd hx hb d_S_add_33 ?_
    refine va_put (D := g.1) (ci := 0) (v := .int (nI (na + 1))) (ty := .int) (C := R_S) (T := F_S) (N := 2) hx hb htB in_S t_S t_S_ok n_S hown ha.1 hP hD hS 0 rfl rfl 1 (by decide) (htB _ kw_32) (fun _ h9 => h9) rfl (by decide +kernel) rfl rfl (Nat.le_of_ble_eq_true rfl) d_S_add_34 (fun H locs hP hD hS => ?_)
    have hP : va_P g.1 cls [(sa, .inr (0, [.ref ba, .int (nI (na + 1))])), (ba, eI g 144 (va_cpy (f) (fa) (aa) (na * 6) (6))), (qf, eI g n (f))] H := hP
    have hD : va_D A [(sa, .inr (0, [.ref ba, .int (nI (na + 1))])), (ba, eI g 144 (va_cpy (f) (fa) (aa) (na * 6) (6))), (qf, eI g n (f))] := hD
    have hP9 := hP.sub (ws' := [(sa, .inr (0, [.ref ba, .int (nI (na + 1))])), (ba, eI g 144 (va_cpy (f) (fa) (aa) (na * 6) (6))), (qf, eI g n (f))]) [0, 1, 2] rfl
    have hD9 := hD.sub (ws' := [(sa, .inr (0, [.ref ba, .int (nI (na + 1))])), (ba, eI g 144 (va_cpy (f) (fa) (aa) (na * 6) (6))), (qf, eI g n (f))]) [0, 1, 2] (by decide) rfl
    exact (W.widen (k := 0) (n := 0) (Nat.le_of_ble_eq_true rfl) (Nat.le_of_ble_eq_true rfl) (W.vret hx hb hr (fun t ht hW => ⟨⟨(), rfl, trivial, by rw [ht, show adB fa na f aa = va_cpy f fa aa (na * 6) 6 from if_pos (by omega)]; exact hP9, hD9.re [sa, ba, qf] rfl rfl⟩, hS.F ht⟩) hS.2.2 d_S_add_37))
set_option maxHeartbeats 4000000 in
set_option maxRecDepth 100000 in
theorem m_S_copy (l : Launch) (g : gT) (z : Nat) (H0 : Heap) (sa ba na so bo no : Nat) (fa fo : Nat → Int32) : Met l y_S_copy w_S_copy ({ frames := 1, cells := 0, slots := 0, locals := 40 }) (va_Pc [.ref sa, .ref so] (pB g z H0 (va_P g.1 cls [(sa, .inr (0, [.ref ba, .int (nI (na))])), (ba, eI g 144 (fa)), (so, .inr (0, [.ref bo, .int (nI (no))])), (bo, eI g 144 (fo))] H0 ∧ va_D (zA z) [(sa, .inr (0, [.ref ba, .int (nI (na))])), (ba, eI g 144 (fa)), (so, .inr (0, [.ref bo, .int (nI (no))])), (bo, eI g 144 (fo))] ∧ (no ≤ 24)))) (va_Qv (fun (_ : Unit) => True) (fun (_ : Unit) t => va_P g.1 cls [(sa, .inr (0, [.ref ba, .int (nI (no))])), (ba, eI g 144 (va_cpy fo fa 0 0 (no * 6))), (so, .inr (0, [.ref bo, .int (nI (no))])), (bo, eI g 144 (fo))] t.heap ∧ va_D (va_A [(sa, .inr (0, [.ref ba, .int (nI (na))])), (ba, eI g 144 (fa)), (so, .inr (0, [.ref bo, .int (nI (no))])), (bo, eI g 144 (fo))] H0.size) [(sa, .inr (0, [.ref ba, .int (nI (no))])), (ba, eI g 144 (va_cpy fo fa 0 0 (no * 6))), (so, .inr (0, [.ref bo, .int (nI (no))])), (bo, eI g 144 (fo))]) (va_A [(sa, .inr (0, [.ref ba, .int (nI (na))])), (ba, eI g 144 (fa)), (so, .inr (0, [.ref bo, .int (nI (no))])), (bo, eI g 144 (fo))] H0.size)) 0 0 (va_A [(sa, .inr (0, [.ref ba, .int (nI (na))])), (ba, eI g 144 (fa)), (so, .inr (0, [.ref bo, .int (nI (no))])), (bo, eI g 144 (fo))] H0.size) := by
  refine Met.ofW (cc := c_S_copy) (maxL := 2) (ret := none) (by decide) rfl ?_
  intro p e s m args below meth c s₁ B hml hv
  obtain ⟨rfl, hH0, ha, hP, hD0, hno⟩ := hv
  have hx := B.exec
  have hb := B.bytes
  have hr := B.returns
  have htB : ∀ w ∈ tB, w.before _ s = true := fun w h => atoms_spec (ws := w_S_copy) B.pre w (List.mem_cons_of_mem _ h)
  have hown : s.vm.findClass "JointSolids$Solid" = some m.cls := findClass_of_methodNamed B.named
  have hlocks := B.notSynchronized
  subst hH0
  have hD := hD0.self (sz := s.heap.size)
  have hz := aA_z hD0 ha.2.2.2.2.2
  generalize hAe : va_A [(sa, .inr (0, [.ref ba, .int (nI (na))])), (ba, eI g 144 (fa)), (so, .inr (0, [.ref bo, .int (nI (no))])), (bo, eI g 144 (fo))] s.heap.size = A at hD hz ⊢
  have hA : ∀ q : Nat, s.heap.size ≤ q → A q := fun q h => by rw [← hAe]; exact Or.inr h
  have hS : va_S A s.heap s.heap [] := va_S.rf
  refine W.ofH hP hS (fun H locs hP hS => ?_)
  have hl := lv_entry ([.ref sa, .ref so]) (n := 2) (Nat.le_of_ble_eq_true rfl)
  rw [lg_entry_eq]
  generalize (lg_sl ([.ref sa, .ref so]) ++ List.replicate (2 - (lg_sl ([.ref sa, .ref so])).length) Slot.unset).toArray = ls at hl ⊢
  have hl : lv_has ls 2 [(0, .ref sa), (1, .ref so)] := hl
  refine lv_aload_n hx hb d_S_copy_0 rfl (lv_at hl 0 rfl) ?_
  refine lv_aload_n hx hb d_S_copy_1 rfl (lv_at hl 1 rfl) ?_
  refine va_get (D := g.1) (ci := 0) (v := .int (nI (no))) (C := R_S) (T := F_S) (N := 2) hx hb htB in_S hown ha.1 hP 2 rfl rfl 1 (by decide) (htB _ kw_32) (fun _ h9 => h9) rfl d_S_copy_2 ?_
  refine lv_bipush (v := (nI (24))) hx hb d_S_copy_5 (by decide) ?_
  refine va_mmin (own := "JointSolids$Solid") hx hb (hml.trans hl.1.symm) hown (htB _ kw_267) (htB _ kw_172) (htB _ kw_4) (htB _ kw_173) (Nat.le_of_ble_eq_true rfl) (Nat.le_of_ble_eq_true rfl) (Nat.le_of_ble_eq_true rfl) (Nat.le_of_ble_eq_true rfl) d_S_copy_7 ?_
  rw [show (if (nI (24)) < (nI (no)) then (nI (24)) else (nI (no))) = (nI (no)) from mn_le hno (by decide)]
  refine va_put (D := g.1) (ci := 0) (v := .int (nI (no))) (ty := .int) (C := R_S) (T := F_S) (N := 2) hx hb htB in_S t_S t_S_ok n_S hown ha.1 hP hD hS 0 rfl rfl 1 (by decide) (htB _ kw_32) (fun _ h9 => h9) rfl (by decide +kernel) rfl rfl (Nat.le_of_ble_eq_true rfl) d_S_copy_10 (fun H locs hP hD hS => ?_)
  have hP : va_P g.1 cls [(sa, .inr (0, [.ref ba, .int (nI (no))])), (ba, eI g 144 (fa)), (so, .inr (0, [.ref bo, .int (nI (no))])), (bo, eI g 144 (fo))] H := hP
  have hD : va_D A [(sa, .inr (0, [.ref ba, .int (nI (no))])), (ba, eI g 144 (fa)), (so, .inr (0, [.ref bo, .int (nI (no))])), (bo, eI g 144 (fo))] := hD
  refine lv_aload_n hx hb d_S_copy_13 rfl (lv_at hl 1 rfl) ?_
  refine va_get (D := g.1) (ci := 0) (v := .ref bo) (C := R_S) (T := F_S) (N := 2) hx hb htB in_S hown ha.1 hP 2 rfl rfl 0 (by decide) (htB _ kw_30) (fun _ h9 => h9) rfl d_S_copy_14 ?_
  refine lv_iconst (v := (nI (0))) hx hb d_S_copy_17 (by decide) ?_
  refine lv_aload_n hx hb d_S_copy_18 rfl (lv_at hl 0 rfl) ?_
  refine va_get (D := g.1) (ci := 0) (v := .ref ba) (C := R_S) (T := F_S) (N := 2) hx hb htB in_S hown ha.1 hP 0 rfl rfl 0 (by decide) (htB _ kw_30) (fun _ h9 => h9) rfl d_S_copy_19 ?_
  refine lv_iconst (v := (nI (0))) hx hb d_S_copy_22 (by decide) ?_
  refine lv_aload_n hx hb d_S_copy_23 rfl (lv_at hl 0 rfl) ?_
  refine va_get (D := g.1) (ci := 0) (v := .int (nI (no))) (C := R_S) (T := F_S) (N := 2) hx hb htB in_S hown ha.1 hP 0 rfl rfl 1 (by decide) (htB _ kw_32) (fun _ h9 => h9) rfl d_S_copy_24 ?_
  refine lv_bipush (v := (nI (6))) hx hb d_S_copy_27 (by decide) ?_
  refine jv_imul hx hb d_S_copy_29 ?_
  refine ja_copy (sp := 0) (dp := 0) (n := no * 6) (own := "JointSolids$Solid") hx hb (hml.trans hl.1.symm) hown (htB _ kw_233) (htB _ kw_228) (htB _ kw_227) (htB _ kw_10) ha.1 hP hD hS 3 1 0 0 rfl rfl rfl rfl (by omega) (by omega) (by omega) (by omega) (Nat.le_of_ble_eq_true rfl) (Nat.le_of_ble_eq_true rfl) d_S_copy_30 (fun H locs hP hD hS => ?_)
  have hP : va_P g.1 cls [(sa, .inr (0, [.ref ba, .int (nI (no))])), (ba, eI g 144 (va_cpy (fo) (fa) (0) (0) (no * 6))), (so, .inr (0, [.ref bo, .int (nI (no))])), (bo, eI g 144 (fo))] H := hP
  have hD : va_D A [(sa, .inr (0, [.ref ba, .int (nI (no))])), (ba, eI g 144 (va_cpy (fo) (fa) (0) (0) (no * 6))), (so, .inr (0, [.ref bo, .int (nI (no))])), (bo, eI g 144 (fo))] := hD
  have hP9 := hP.sub (ws' := [(sa, .inr (0, [.ref ba, .int (nI (no))])), (ba, eI g 144 (va_cpy (fo) (fa) (0) (0) (no * 6))), (so, .inr (0, [.ref bo, .int (nI (no))])), (bo, eI g 144 (fo))]) [0, 1, 2, 3] rfl
  have hD9 := hD.sub (ws' := [(sa, .inr (0, [.ref ba, .int (nI (no))])), (ba, eI g 144 (va_cpy (fo) (fa) (0) (0) (no * 6))), (so, .inr (0, [.ref bo, .int (nI (no))])), (bo, eI g 144 (fo))]) [0, 1, 2, 3] (by decide) rfl
  exact (W.widen (k := 0) (n := 0) (Nat.le_of_ble_eq_true rfl) (Nat.le_of_ble_eq_true rfl) (W.vret hx hb hr (fun t ht hW => ⟨⟨(), rfl, trivial, by rw [ht]; exact hP9, hD9.re [sa, ba, so, bo] rfl rfl⟩, hS.F ht⟩) hS.2.2 d_S_copy_33))
def slR (r : Nat → Int32) (k : Nat) (a b : Int32) : Nat → Int32 := if a < b then upd (upd r k a) (k + 3) b else r
def slN (n : Nat) (a b : Int32) : Nat := if a < b then n + 1 else n
def slB (B : Nat → Int32) (n : Nat) (r : Nat → Int32) (k : Nat) (a b : Int32) : Nat → Int32 := if a < b then adB B n (upd (upd r k a) (k + 3) b) 0 else B
set_option maxHeartbeats 4000000 in
set_option maxRecDepth 100000 in
theorem m_J_addSlab (l : Launch) (g : gT) (z : Nat) (H0 : Heap) (h : Nat) (fs : List Value) (ar sp bs n : Nat) (r fb : Nat → Int32) (k : Nat) (a b : Int32) : Met l y_J_addSlab w_J_addSlab ({ frames := 2, cells := 0, slots := 0, locals := 62 }) (va_Pc [.ref h, .int (nI (k)), .int (a), .int (b)] (pB g z H0 (va_P g.1 cls [(h, .inr (1, fs)), (ar, eI g 6 (r)), (sp, .inr (0, [.ref bs, .int (nI (n))])), (bs, eI g 144 (fb))] H0 ∧ va_D (zA z) [(h, .inr (1, fs)), (ar, eI g 6 (r)), (sp, .inr (0, [.ref bs, .int (nI (n))])), (bs, eI g 144 (fb))] ∧ (fs[9]? = some (.ref sp) ∧ fs[11]? = some (.ref ar) ∧ k < 3 ∧ n < 200)))) (va_Qv (fun (_ : Unit) => True) (fun (_ : Unit) t => va_P g.1 cls [(h, .inr (1, fs)), (ar, eI g 6 (slR r k a b)), (sp, .inr (0, [.ref bs, .int (nI (slN n a b))])), (bs, eI g 144 (slB fb n r k a b))] t.heap ∧ va_D (va_A [(h, .inr (1, fs)), (ar, eI g 6 (r)), (sp, .inr (0, [.ref bs, .int (nI (n))])), (bs, eI g 144 (fb))] H0.size) [(h, .inr (1, fs)), (ar, eI g 6 (slR r k a b)), (sp, .inr (0, [.ref bs, .int (nI (slN n a b))])), (bs, eI g 144 (slB fb n r k a b))]) (va_A [(h, .inr (1, fs)), (ar, eI g 6 (r)), (sp, .inr (0, [.ref bs, .int (nI (n))])), (bs, eI g 144 (fb))] H0.size)) 0 0 (va_A [(h, .inr (1, fs)), (ar, eI g 6 (r)), (sp, .inr (0, [.ref bs, .int (nI (n))])), (bs, eI g 144 (fb))] H0.size) := by
  refine Met.ofW (cc := c_J_addSlab) (maxL := 4) (ret := none) (by decide) rfl ?_
  intro p e s m args below meth c s₁ B hml hv
  obtain ⟨rfl, hH0, ha, hP, hD0, hf9, hf11, hk, hn⟩ := hv
  have hx := B.exec
  have hb := B.bytes
  have hr := B.returns
  have htB : ∀ w ∈ tB, w.before _ s = true := fun w h => atoms_spec (ws := w_J_addSlab) B.pre w (List.mem_cons_of_mem _ h)
  have hown : s.vm.findClass "JointSolids" = some m.cls := findClass_of_methodNamed B.named
  have hlocks := B.notSynchronized
  subst hH0
  have hD := hD0.self (sz := s.heap.size)
  have hz := aA_z hD0 ha.2.2.2.2.2
  generalize hAe : va_A [(h, .inr (1, fs)), (ar, eI g 6 (r)), (sp, .inr (0, [.ref bs, .int (nI (n))])), (bs, eI g 144 (fb))] s.heap.size = A at hD hz ⊢
  have hA : ∀ q : Nat, s.heap.size ≤ q → A q := fun q h => by rw [← hAe]; exact Or.inr h
  have hS : va_S A s.heap s.heap [] := va_S.rf
  refine W.ofH hP hS (fun H locs hP hS => ?_)
  have hl := lv_entry ([.ref h, .int (nI (k)), .int (a), .int (b)]) (n := 4) (Nat.le_of_ble_eq_true rfl)
  rw [lg_entry_eq]
  generalize (lg_sl ([.ref h, .int (nI (k)), .int (a), .int (b)]) ++ List.replicate (4 - (lg_sl ([.ref h, .int (nI (k)), .int (a), .int (b)])).length) Slot.unset).toArray = ls at hl ⊢
  have hl : lv_has ls 4 [(0, .ref h), (1, .int (nI (k))), (2, .int (a)), (3, .int (b))] := hl
  refine lv_iload_n hx hb d_J_addSlab_0 rfl (lv_at hl 2 rfl) ?_
  refine lv_iload_n hx hb d_J_addSlab_1 rfl (lv_at hl 3 rfl) ?_
  refine lv_icmp_ge (tgt := 33) hx hb d_J_addSlab_2 (by decide) (fun c_1 => ?_) (fun c_1 => ?_)
  · have hP9 := hP.sub (ws' := [(h, .inr (1, fs)), (ar, eI g 6 (r)), (sp, .inr (0, [.ref bs, .int (nI (n))])), (bs, eI g 144 (fb))]) [0, 1, 2, 3] rfl
    have hD9 := hD.sub (ws' := [(h, .inr (1, fs)), (ar, eI g 6 (r)), (sp, .inr (0, [.ref bs, .int (nI (n))])), (bs, eI g 144 (fb))]) [0, 1, 2, 3] (by decide) rfl
    exact (W.widen (k := 0) (n := 0) (Nat.le_of_ble_eq_true rfl) (Nat.le_of_ble_eq_true rfl) (W.vret hx hb hr (fun t ht hW => ⟨⟨(), rfl, trivial, by rw [ht, show slR r k a b = r from if_neg (Int32.not_lt.mpr c_1), show slN n a b = n from if_neg (Int32.not_lt.mpr c_1), show slB fb n r k a b = fb from if_neg (Int32.not_lt.mpr c_1)]; exact hP9, hD9.re [h, ar, sp, bs] rfl rfl⟩, hS.F ht⟩) hS.2.2 d_J_addSlab_33))
  · refine lv_aload_n hx hb d_J_addSlab_5 rfl (lv_at hl 0 rfl) ?_
    refine va_get (D := g.1) (ci := 1) (v := .ref ar) (C := R_J) (T := F_J) (N := 14) hx hb htB in_J hown ha.1 hP 0 rfl rfl 11 (by decide) (htB _ kw_51) (fun _ h9 => h9) hf11 d_J_addSlab_6 ?_
    refine lv_iload_n hx hb d_J_addSlab_9 rfl (lv_at hl 1 rfl) ?_
    refine lv_iload_n hx hb d_J_addSlab_10 rfl (lv_at hl 2 rfl) ?_
    refine ja_ast (k := k) hx hb ha.1 hP hD hS 1 0 rfl rfl (by omega) (by omega) d_J_addSlab_11 (fun H locs hP hD hS => ?_)
    have hP : va_P g.1 cls [(h, .inr (1, fs)), (ar, eI g 6 (upd (r) (k) (a))), (sp, .inr (0, [.ref bs, .int (nI (n))])), (bs, eI g 144 (fb))] H := hP
    have hD : va_D A [(h, .inr (1, fs)), (ar, eI g 6 (upd (r) (k) (a))), (sp, .inr (0, [.ref bs, .int (nI (n))])), (bs, eI g 144 (fb))] := hD
    refine lv_aload_n hx hb d_J_addSlab_12 rfl (lv_at hl 0 rfl) ?_
    refine va_get (D := g.1) (ci := 1) (v := .ref ar) (C := R_J) (T := F_J) (N := 14) hx hb htB in_J hown ha.1 hP 0 rfl rfl 11 (by decide) (htB _ kw_51) (fun _ h9 => h9) hf11 d_J_addSlab_13 ?_
    refine lv_iload_n hx hb d_J_addSlab_16 rfl (lv_at hl 1 rfl) ?_
    refine lv_iconst (v := (nI (3))) hx hb d_J_addSlab_17 (by decide) ?_
    refine jv_iadd hx hb d_J_addSlab_18 ?_
    refine lv_iload_n hx hb d_J_addSlab_19 rfl (lv_at hl 3 rfl) ?_
    refine ja_ast (k := k + 3) hx hb ha.1 hP hD hS 1 0 rfl rfl (by omega) (by omega) d_J_addSlab_20 (fun H locs hP hD hS => ?_)
    have hP : va_P g.1 cls [(h, .inr (1, fs)), (ar, eI g 6 (upd (upd (r) (k) (a)) (k + 3) (b))), (sp, .inr (0, [.ref bs, .int (nI (n))])), (bs, eI g 144 (fb))] H := hP
    have hD : va_D A [(h, .inr (1, fs)), (ar, eI g 6 (upd (upd (r) (k) (a)) (k + 3) (b))), (sp, .inr (0, [.ref bs, .int (nI (n))])), (bs, eI g 144 (fb))] := hD
    refine lv_aload_n hx hb d_J_addSlab_21 rfl (lv_at hl 0 rfl) ?_
    refine va_get (D := g.1) (ci := 1) (v := .ref sp) (C := R_J) (T := F_J) (N := 14) hx hb htB in_J hown ha.1 hP 0 rfl rfl 9 (by decide) (htB _ kw_49) (fun _ h9 => h9) hf9 d_J_addSlab_22 ?_
    refine lv_aload_n hx hb d_J_addSlab_25 rfl (lv_at hl 0 rfl) ?_
    refine va_get (D := g.1) (ci := 1) (v := .ref ar) (C := R_J) (T := F_J) (N := 14) hx hb htB in_J hown ha.1 hP 0 rfl rfl 11 (by decide) (htB _ kw_51) (fun _ h9 => h9) hf11 d_J_addSlab_26 ?_
    refine lv_iconst (v := (nI (0))) hx hb d_J_addSlab_29 (by decide) ?_
    have hPc := hP.sub (ws' := [(sp, .inr (0, [.ref bs, .int (nI (n))])), (bs, eI g 144 (fb)), (ar, eI g 6 (upd (upd (r) (k) (a)) (k + 3) (b)))]) [2, 3, 1] rfl
    have hDc := hD.sub (ws' := [(sp, .inr (0, [.ref bs, .int (nI (n))])), (bs, eI g 144 (fb)), (ar, eI g 6 (upd (upd (r) (k) (a)) (k + 3) (b)))]) [2, 3, 1] (by decide) rfl
    have hFc := va_free (wc := [(sp, .inr (0, [.ref bs, .int (nI (n))])), (bs, eI g 144 (fb)), (ar, eI g 6 (upd (upd (r) (k) (a)) (k + 3) (b)))]) hD hS hA [2, 3, 1] rfl
    refine va_callv (va_runVN (As := [.ref ar, .int (nI (0))]) (rest := []) ⟨hx, hb, hml, hown, htB⟩ (m_S_add l g z _ sp bs (n) ar 6 (0) (fb) (upd (upd (r) (k) (a)) (k + 3) (b))) ⟨va_cnB 2 htB g_S_add rfl rfl rfl (ha.2.1 _ nb_12) (htB _ kw_2) (by decide +kernel) ⟨Nat.le_of_ble_eq_true rfl, Nat.le_of_ble_eq_true rfl⟩, htB _ kw_231, htB _ ks_0_3⟩ (pre_V hS hz ha (va_recv ha.1 hP (ci := 0) (q0 := 2) rfl rfl) ⟨hPc, hDc.weaken (fun _ _ _ h => hz _ h), ⟨by omega, by omega, by omega⟩⟩) rfl rfl hl.1 rfl (lv_room (Nat.le_of_ble_eq_true rfl)) d_J_addSlab_30 ⟨Nat.le_of_ble_eq_true rfl, Nat.le_of_ble_eq_true rfl⟩) hS (fun q _ h => hFc q h) hFc (fun u_3 t H1 locs ht hvm hw hB hz1 hk1 hS => ?_)
    obtain ⟨hP1, hD1⟩ := hB
    rw [ht] at hP1
    obtain ⟨hP, hD⟩ := va_join (wr := [(h, .inr (1, fs))]) (w1 := [(sp, .inr (0, [.ref bs, .int (nI ((n) + 1))])), (bs, eI g 144 (adB (fb) (n) (upd (upd (r) (k) (a)) (k + 3) (b)) (0))), (ar, eI g 6 (upd (upd (r) (k) (a)) (k + 3) (b)))]) hP hD [2, 3, 1] [0] rfl rfl (by decide) (by decide) hk1 hFc hP1 hD1
    clear hPc hDc hFc hP1 hD1 hk1 hz1 hvm ht
    generalize H1 = H at hP hS ⊢
    have hP : va_P g.1 cls [(h, .inr (1, fs)), (sp, .inr (0, [.ref bs, .int (nI ((n) + 1))])), (bs, eI g 144 (adB (fb) (n) (upd (upd (r) (k) (a)) (k + 3) (b)) (0))), (ar, eI g 6 (upd (upd (r) (k) (a)) (k + 3) (b)))] H := hP
    have hD : va_D A [(h, .inr (1, fs)), (sp, .inr (0, [.ref bs, .int (nI ((n) + 1))])), (bs, eI g 144 (adB (fb) (n) (upd (upd (r) (k) (a)) (k + 3) (b)) (0))), (ar, eI g 6 (upd (upd (r) (k) (a)) (k + 3) (b)))] := hD
    have hP9 := hP.sub (ws' := [(h, .inr (1, fs)), (ar, eI g 6 (upd (upd (r) (k) (a)) (k + 3) (b))), (sp, .inr (0, [.ref bs, .int (nI ((n) + 1))])), (bs, eI g 144 (adB (fb) (n) (upd (upd (r) (k) (a)) (k + 3) (b)) (0)))]) [0, 3, 1, 2] rfl
    have hD9 := hD.sub (ws' := [(h, .inr (1, fs)), (ar, eI g 6 (upd (upd (r) (k) (a)) (k + 3) (b))), (sp, .inr (0, [.ref bs, .int (nI ((n) + 1))])), (bs, eI g 144 (adB (fb) (n) (upd (upd (r) (k) (a)) (k + 3) (b)) (0)))]) [0, 3, 1, 2] (by decide) rfl
    exact (W.widen (k := 0) (n := 0) (Nat.le_of_ble_eq_true rfl) (Nat.le_of_ble_eq_true rfl) (W.vret hx hb hr (fun t ht hW => ⟨⟨(), rfl, trivial, by rw [ht, show slR r k a b = upd (upd r k a) (k + 3) b from if_pos (Int32.not_le.mp c_1), show slN n a b = n + 1 from if_pos (Int32.not_le.mp c_1), show slB fb n r k a b = adB fb n (upd (upd r k a) (k + 3) b) 0 from if_pos (Int32.not_le.mp c_1)]; exact hP9, hD9.re [h, ar, sp, bs] rfl rfl⟩, hS.F ht⟩) hS.2.2 d_J_addSlab_33))
