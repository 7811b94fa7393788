set_option maxHeartbeats 4000000 in
set_option maxRecDepth 100000 in
theorem m_K_init (l : Launch) (g : gT) (z : Nat) (H0 : Heap) (kj : Nat) (v0 v1 v2 v3 : Int32) : Met l y_K_init w_K_init ({ frames := 1, cells := 0, slots := 0, locals := 12 }) (va_Pc [.ref kj, .int (v0), .int (v1), .int (v2), .int (v3)] (pB g z H0 (va_P g.1 cls [(kj, .inr (2, [.int (nI (0)), .int (nI (0)), .int (nI (0)), .int (nI (0)), .long (0), .long (0)]))] H0 ∧ va_D (zA z) [(kj, .inr (2, [.int (nI (0)), .int (nI (0)), .int (nI (0)), .int (nI (0)), .long (0), .long (0)]))] ∧ (True)))) (va_Qv (fun (_ : Unit) => True) (fun (_ : Unit) t => va_P g.1 cls [(kj, .inr (2, [.int (v0), .int (v1), .int (v2), .int (v3), .long (0), .long (0)]))] t.heap ∧ va_D (va_A [(kj, .inr (2, [.int (nI (0)), .int (nI (0)), .int (nI (0)), .int (nI (0)), .long (0), .long (0)]))] H0.size) [(kj, .inr (2, [.int (v0), .int (v1), .int (v2), .int (v3), .long (0), .long (0)]))]) (va_A [(kj, .inr (2, [.int (nI (0)), .int (nI (0)), .int (nI (0)), .int (nI (0)), .long (0), .long (0)]))] H0.size)) 0 0 (va_A [(kj, .inr (2, [.int (nI (0)), .int (nI (0)), .int (nI (0)), .int (nI (0)), .long (0), .long (0)]))] H0.size) := by
  refine Met.ofW (cc := c_K_init) (maxL := 5) (ret := none) (by decide) rfl ?_
  intro p e s m args below meth c s₁ B hml hv
  obtain ⟨rfl, hH0, ha, hP, hD0, -⟩ := hv
  have hx := B.exec
  have hb := B.bytes
  have hr := B.returns
  have htB : ∀ w ∈ tB, w.before _ s = true := fun w h => atoms_spec (ws := w_K_init) B.pre w (List.mem_cons_of_mem _ h)
  have hown : s.vm.findClass "JointSolids$Joint" = some m.cls := findClass_of_methodNamed B.named
  have hlocks := B.notSynchronized
  subst hH0
  have hin : meth.name = "<init>" := (name_of_methodNamed B.named B.method).1
  have hD := hD0.self (sz := s.heap.size)
  have hz := aA_z hD0 ha.2.2.2.2.2
  generalize hAe : va_A [(kj, .inr (2, [.int (nI (0)), .int (nI (0)), .int (nI (0)), .int (nI (0)), .long (0), .long (0)]))] s.heap.size = A at hD hz ⊢
  have hA : ∀ q : Nat, s.heap.size ≤ q → A q := fun q h => by rw [← hAe]; exact Or.inr h
  have hS : va_S A s.heap s.heap [] := va_S.rf
  refine W.ofH hP hS (fun H locs hP hS => ?_)
  have hl := lv_entry ([.ref kj, .int (v0), .int (v1), .int (v2), .int (v3)]) (n := 5) (Nat.le_of_ble_eq_true rfl)
  rw [lg_entry_eq]
  generalize (lg_sl ([.ref kj, .int (v0), .int (v1), .int (v2), .int (v3)]) ++ List.replicate (5 - (lg_sl ([.ref kj, .int (v0), .int (v1), .int (v2), .int (v3)])).length) Slot.unset).toArray = ls at hl ⊢
  have hl : lv_has ls 5 [(0, .ref kj), (1, .int (v0)), (2, .int (v1)), (3, .int (v2)), (4, .int (v3))] := hl
  refine lv_aload_n hx hb d_K_init_0 rfl (lv_at hl 0 rfl) ?_
  refine W.objInit hx hb hown (htB _ kw_329) (htB _ kw_19) (htB _ kw_20) rfl (by rw [hml]; exact hl.1) rfl d_K_init_1 (Nat.le_of_ble_eq_true rfl) (Nat.le_of_ble_eq_true rfl) ?_
  refine W.eq (g2 := F0 m 4 ls []) rfl ?_
  refine lv_aload_n hx hb d_K_init_4 rfl (lv_at hl 0 rfl) ?_
  refine lv_iload_n hx hb d_K_init_5 rfl (lv_at hl 1 rfl) ?_
  refine va_putF (D := g.1) (ci := 2) (v := .int (v0)) (ty := .int) (C := R_K) (T := F_K) (N := 6) hx hb htB in_K t_K t_K_ok n_K hown ha.1 hP hD hS 0 rfl rfl 0 (by decide) (htB _ kw_330) (fun _ h9 => h9) rfl hin rfl (by decide +kernel) rfl rfl (Nat.le_of_ble_eq_true rfl) d_K_init_6 (fun H locs hP hD hS => ?_)
  have hP : va_P g.1 cls [(kj, .inr (2, [.int (v0), .int (nI (0)), .int (nI (0)), .int (nI (0)), .long (0), .long (0)]))] H := hP
  have hD : va_D A [(kj, .inr (2, [.int (v0), .int (nI (0)), .int (nI (0)), .int (nI (0)), .long (0), .long (0)]))] := hD
  refine lv_aload_n hx hb d_K_init_9 rfl (lv_at hl 0 rfl) ?_
  refine lv_iload_n hx hb d_K_init_10 rfl (lv_at hl 2 rfl) ?_
  refine va_putF (D := g.1) (ci := 2) (v := .int (v1)) (ty := .int) (C := R_K) (T := F_K) (N := 6) hx hb htB in_K t_K t_K_ok n_K hown ha.1 hP hD hS 0 rfl rfl 1 (by decide) (htB _ kw_332) (fun _ h9 => h9) rfl hin rfl (by decide +kernel) rfl rfl (Nat.le_of_ble_eq_true rfl) d_K_init_11 (fun H locs hP hD hS => ?_)
  have hP : va_P g.1 cls [(kj, .inr (2, [.int (v0), .int (v1), .int (nI (0)), .int (nI (0)), .long (0), .long (0)]))] H := hP
  have hD : va_D A [(kj, .inr (2, [.int (v0), .int (v1), .int (nI (0)), .int (nI (0)), .long (0), .long (0)]))] := hD
  refine lv_aload_n hx hb d_K_init_14 rfl (lv_at hl 0 rfl) ?_
  refine lv_iload_n hx hb d_K_init_15 rfl (lv_at hl 3 rfl) ?_
  refine va_putF (D := g.1) (ci := 2) (v := .int (v2)) (ty := .int) (C := R_K) (T := F_K) (N := 6) hx hb htB in_K t_K t_K_ok n_K hown ha.1 hP hD hS 0 rfl rfl 2 (by decide) (htB _ kw_334) (fun _ h9 => h9) rfl hin rfl (by decide +kernel) rfl rfl (Nat.le_of_ble_eq_true rfl) d_K_init_16 (fun H locs hP hD hS => ?_)
  have hP : va_P g.1 cls [(kj, .inr (2, [.int (v0), .int (v1), .int (v2), .int (nI (0)), .long (0), .long (0)]))] H := hP
  have hD : va_D A [(kj, .inr (2, [.int (v0), .int (v1), .int (v2), .int (nI (0)), .long (0), .long (0)]))] := hD
  refine lv_aload_n hx hb d_K_init_19 rfl (lv_at hl 0 rfl) ?_
  refine lv_iload hx hb d_K_init_20 (lv_at hl 4 rfl) ?_
  refine va_putF (D := g.1) (ci := 2) (v := .int (v3)) (ty := .int) (C := R_K) (T := F_K) (N := 6) hx hb htB in_K t_K t_K_ok n_K hown ha.1 hP hD hS 0 rfl rfl 3 (by decide) (htB _ kw_336) (fun _ h9 => h9) rfl hin rfl (by decide +kernel) rfl rfl (Nat.le_of_ble_eq_true rfl) d_K_init_22 (fun H locs hP hD hS => ?_)
  have hP : va_P g.1 cls [(kj, .inr (2, [.int (v0), .int (v1), .int (v2), .int (v3), .long (0), .long (0)]))] H := hP
  have hD : va_D A [(kj, .inr (2, [.int (v0), .int (v1), .int (v2), .int (v3), .long (0), .long (0)]))] := hD
  have hP9 := hP.sub (ws' := [(kj, .inr (2, [.int (v0), .int (v1), .int (v2), .int (v3), .long (0), .long (0)]))]) [0] rfl
  have hD9 := hD.sub (ws' := [(kj, .inr (2, [.int (v0), .int (v1), .int (v2), .int (v3), .long (0), .long (0)]))]) [0] (by decide) rfl
  exact (W.widen (k := 0) (n := 0) (Nat.le_of_ble_eq_true rfl) (Nat.le_of_ble_eq_true rfl) (W.vret hx hb hr (fun t ht hW => ⟨⟨(), rfl, trivial, by rw [ht]; exact hP9, hD9.re [kj] rfl rfl⟩, hS.F ht⟩) hS.2.2 d_K_init_25))
set_option maxHeartbeats 4000000 in
set_option maxRecDepth 100000 in
theorem m_S_init (l : Launch) (g : gT) (z : Nat) (H0 : Heap) (so : Nat) : Met l y_S_init w_S_init ({ frames := 1, cells := 1, slots := 144, locals := 12 }) (va_Pc [.ref so] (pB g z H0 (va_P g.1 cls [(so, .inr (0, [.null, .int (nI (0))]))] H0 ∧ va_D (zA z) [(so, .inr (0, [.null, .int (nI (0))]))] ∧ (True)))) (va_Qv (fun (u : Nat) => True) (fun (u : Nat) t => va_P g.1 cls [(so, .inr (0, [.ref u, .int (nI (0))])), (u, eI g 144 (fun _ => nI 0))] t.heap ∧ va_D (va_A [(so, .inr (0, [.null, .int (nI (0))]))] H0.size) [(so, .inr (0, [.ref u, .int (nI (0))])), (u, eI g 144 (fun _ => nI 0))]) (va_A [(so, .inr (0, [.null, .int (nI (0))]))] H0.size)) 1 144 (va_A [(so, .inr (0, [.null, .int (nI (0))]))] H0.size) := by
  refine Met.ofW (cc := c_S_init) (maxL := 1) (ret := none) (by decide) rfl ?_
  intro p e s m args below meth c s₁ B hml hv
  obtain ⟨rfl, hH0, ha, hP, hD0, -⟩ := hv
  have hx := B.exec
  have hb := B.bytes
  have hr := B.returns
  have htB : ∀ w ∈ tB, w.before _ s = true := fun w h => atoms_spec (ws := w_S_init) B.pre w (List.mem_cons_of_mem _ h)
  have hown : s.vm.findClass "JointSolids$Solid" = some m.cls := findClass_of_methodNamed B.named
  have hlocks := B.notSynchronized
  subst hH0
  have hin : meth.name = "<init>" := (name_of_methodNamed B.named B.method).1
  have hD := hD0.self (sz := s.heap.size)
  have hz := aA_z hD0 ha.2.2.2.2.2
  generalize hAe : va_A [(so, .inr (0, [.null, .int (nI (0))]))] s.heap.size = A at hD hz ⊢
  have hA : ∀ q : Nat, s.heap.size ≤ q → A q := fun q h => by rw [← hAe]; exact Or.inr h
  have hS : va_S A s.heap s.heap [] := va_S.rf
  refine W.ofH hP hS (fun H locs hP hS => ?_)
  have hl := lv_entry ([.ref so]) (n := 1) (Nat.le_of_ble_eq_true rfl)
  rw [lg_entry_eq]
  generalize (lg_sl ([.ref so]) ++ List.replicate (1 - (lg_sl ([.ref so])).length) Slot.unset).toArray = ls at hl ⊢
  have hl : lv_has ls 1 [(0, .ref so)] := hl
  refine lv_aload_n hx hb d_S_init_0 rfl (lv_at hl 0 rfl) ?_
  refine W.objInit hx hb hown (htB _ kw_29) (htB _ kw_19) (htB _ kw_20) rfl (by rw [hml]; exact hl.1) rfl d_S_init_1 (Nat.le_of_ble_eq_true rfl) (Nat.le_of_ble_eq_true rfl) ?_
  refine W.eq (g2 := F0 m 4 ls []) rfl ?_
  refine lv_aload_n hx hb d_S_init_4 rfl (lv_at hl 0 rfl) ?_
  refine lv_sipush (v := (nI (144))) hx hb d_S_init_5 (by decide) ?_
  refine ja_newI hx hb (htB _ kw_39) ha.1 hP hD hS hA (n := 144) (by decide) (Nat.le_of_ble_eq_true rfl) (Nat.le_of_ble_eq_true rfl) d_S_init_8 (fun q8 H hP hD hS => ?_)
  have hP : va_P g.1 cls [(so, .inr (0, [.null, .int (nI (0))])), (q8, eI g 144 (fun _ => nI 0))] H := hP
  have hD : va_D A [(so, .inr (0, [.null, .int (nI (0))])), (q8, eI g 144 (fun _ => nI 0))] := hD
  refine va_putF (D := g.1) (ci := 0) (v := .ref q8) (ty := .array .int) (C := R_S) (T := F_S) (N := 2) hx hb htB in_S t_S t_S_ok n_S hown ha.1 hP hD hS 0 rfl rfl 0 (by decide) (htB _ kw_30) (fun _ h9 => h9) rfl hin rfl (by decide +kernel) rfl rfl (Nat.le_of_ble_eq_true rfl) d_S_init_10 (fun H locs hP hD hS => ?_)
  have hP : va_P g.1 cls [(so, .inr (0, [.ref q8, .int (nI (0))])), (q8, eI g 144 (fun _ => nI 0))] H := hP
  have hD : va_D A [(so, .inr (0, [.ref q8, .int (nI (0))])), (q8, eI g 144 (fun _ => nI 0))] := hD
  have hP9 := hP.sub (ws' := [(so, .inr (0, [.ref q8, .int (nI (0))])), (q8, eI g 144 (fun _ => nI 0))]) [0, 1] rfl
  have hD9 := hD.sub (ws' := [(so, .inr (0, [.ref q8, .int (nI (0))])), (q8, eI g 144 (fun _ => nI 0))]) [0, 1] (by decide) rfl
  exact (W.widen (k := 1) (n := 144) (Nat.le_of_ble_eq_true rfl) (Nat.le_of_ble_eq_true rfl) (W.vret hx hb hr (fun t ht hW => ⟨⟨q8, rfl, trivial, by rw [ht]; exact hP9, hD9.re [so, q8] rfl rfl⟩, hS.F ht⟩) hS.2.2 d_S_init_13))
