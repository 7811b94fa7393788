set_option maxHeartbeats 4000000 in
set_option maxRecDepth 100000 in
theorem x_J_needKind (l : Launch) (hlt : l.stackTraces = false) (g : gT) (z : Nat) (H0 : Heap) (v : Int32) : vx_Met l y_J_needKind w_J_needKind ({ frames := 6, cells := 1, slots := 6, locals := 82 }) (va_Pc [.int (v)] (pB g z H0 (True))) (qV H0 (¬ (noP v 5))) (xX (fun E => E = E_IOB ∧ (noP v 5)) H0) 1 6 nA := by
  refine vx_ofW (cc := c_J_needKind) (maxL := 1) (ret := none) (by decide) rfl ?_
  intro p e s m args below meth c s₁ B hml htab hv
  obtain ⟨rfl, hH0, ha, -⟩ := hv
  have hx := B.exec
  have hb := B.bytes
  have hr := B.returns
  have htB : ∀ w ∈ tB, w.before _ s = true := fun w h => atoms_spec (ws := w_J_needKind) B.pre w (List.mem_cons_of_mem _ h)
  have hown : s.vm.findClass "JointSolids" = some m.cls := findClass_of_methodNamed B.named
  have hlocks := B.notSynchronized
  subst hH0
  have hz : ∀ q, nA q → z ≤ q := nA_z
  have hS : va_S nA s.heap s.heap [] := va_S.rf
  have hl := lv_entry ([.int (v)]) (n := 1) (Nat.le_of_ble_eq_true rfl)
  rw [lg_entry_eq]
  generalize (lg_sl ([.int (v)]) ++ List.replicate (1 - (lg_sl ([.int (v)])).length) Slot.unset).toArray = ls at hl ⊢
  have hl : lv_has ls 1 [(0, .int (v))] := hl
  refine lv_iload_n hx hb d_J_needKind_0 rfl (lv_at hl 0 rfl) ?_
  refine lv_if_lt (tgt := 9) hx hb d_J_needKind_1 (by decide) (fun c_1 => ?_) (fun c_1 => ?_)
  · exact thr_IOB hx hb hlt hown htB ha hz sB_209 hS (hl.1.trans hml.symm) htab d_J_needKind_9 d_J_needKind_12 d_J_needKind_13 d_J_needKind_15 d_J_needKind_18 (Nat.le_of_ble_eq_true rfl) (Nat.le_of_ble_eq_true rfl) (Nat.le_of_ble_eq_true rfl) (Nat.le_of_ble_eq_true rfl) hlocks (fun t _ h1 h2 => ⟨(), trivial, ⟨⟨rfl, Or.inl c_1⟩, h1, h2⟩, h1, fun q hq _ => h2 q hq⟩) hS.2.2 (Nat.le_of_ble_eq_true rfl) (Nat.le_of_ble_eq_true rfl)
  · refine lv_iload_n hx hb d_J_needKind_4 rfl (lv_at hl 0 rfl) ?_
    refine lv_iconst (v := (nI (5))) hx hb d_J_needKind_5 (by decide) ?_
    refine lv_icmp_lt (tgt := 19) hx hb d_J_needKind_6 (by decide) (fun c_2 => ?_) (fun c_2 => ?_)
    · exact vx_ret (W.widen (k := 1) (n := 6) (Nat.le_of_ble_eq_true rfl) (Nat.le_of_ble_eq_true rfl) (W.vret hx hb hr (fun t ht hW => ⟨⟨(), rfl, (fun q => q.elim c_1 (fun q => q c_2)), ht⟩, hS.F ht⟩) hS.2.2 d_J_needKind_19))
    · exact thr_IOB hx hb hlt hown htB ha hz sB_209 hS (hl.1.trans hml.symm) htab d_J_needKind_9 d_J_needKind_12 d_J_needKind_13 d_J_needKind_15 d_J_needKind_18 (Nat.le_of_ble_eq_true rfl) (Nat.le_of_ble_eq_true rfl) (Nat.le_of_ble_eq_true rfl) (Nat.le_of_ble_eq_true rfl) hlocks (fun t _ h1 h2 => ⟨(), trivial, ⟨⟨rfl, Or.inr c_2⟩, h1, h2⟩, h1, fun q hq _ => h2 q hq⟩) hS.2.2 (Nat.le_of_ble_eq_true rfl) (Nat.le_of_ble_eq_true rfl)
set_option maxHeartbeats 4000000 in
set_option maxRecDepth 100000 in
theorem x_J_needAxis (l : Launch) (hlt : l.stackTraces = false) (g : gT) (z : Nat) (H0 : Heap) (v : Int32) : vx_Met l y_J_needAxis w_J_needAxis ({ frames := 6, cells := 1, slots := 6, locals := 82 }) (va_Pc [.int (v)] (pB g z H0 (True))) (qV H0 (¬ (noP v 3))) (xX (fun E => E = E_IOB ∧ (noP v 3)) H0) 1 6 nA := by
  refine vx_ofW (cc := c_J_needAxis) (maxL := 1) (ret := none) (by decide) rfl ?_
  intro p e s m args below meth c s₁ B hml htab hv
  obtain ⟨rfl, hH0, ha, -⟩ := hv
  have hx := B.exec
  have hb := B.bytes
  have hr := B.returns
  have htB : ∀ w ∈ tB, w.before _ s = true := fun w h => atoms_spec (ws := w_J_needAxis) B.pre w (List.mem_cons_of_mem _ h)
  have hown : s.vm.findClass "JointSolids" = some m.cls := findClass_of_methodNamed B.named
  have hlocks := B.notSynchronized
  subst hH0
  have hz : ∀ q, nA q → z ≤ q := nA_z
  have hS : va_S nA s.heap s.heap [] := va_S.rf
  have hl := lv_entry ([.int (v)]) (n := 1) (Nat.le_of_ble_eq_true rfl)
  rw [lg_entry_eq]
  generalize (lg_sl ([.int (v)]) ++ List.replicate (1 - (lg_sl ([.int (v)])).length) Slot.unset).toArray = ls at hl ⊢
  have hl : lv_has ls 1 [(0, .int (v))] := hl
  refine lv_iload_n hx hb d_J_needAxis_0 rfl (lv_at hl 0 rfl) ?_
  refine lv_if_lt (tgt := 9) hx hb d_J_needAxis_1 (by decide) (fun c_1 => ?_) (fun c_1 => ?_)
  · exact thr_IOB hx hb hlt hown htB ha hz sB_211 hS (hl.1.trans hml.symm) htab d_J_needAxis_9 d_J_needAxis_12 d_J_needAxis_13 d_J_needAxis_15 d_J_needAxis_18 (Nat.le_of_ble_eq_true rfl) (Nat.le_of_ble_eq_true rfl) (Nat.le_of_ble_eq_true rfl) (Nat.le_of_ble_eq_true rfl) hlocks (fun t _ h1 h2 => ⟨(), trivial, ⟨⟨rfl, Or.inl c_1⟩, h1, h2⟩, h1, fun q hq _ => h2 q hq⟩) hS.2.2 (Nat.le_of_ble_eq_true rfl) (Nat.le_of_ble_eq_true rfl)
  · refine lv_iload_n hx hb d_J_needAxis_4 rfl (lv_at hl 0 rfl) ?_
    refine lv_iconst (v := (nI (3))) hx hb d_J_needAxis_5 (by decide) ?_
    refine lv_icmp_lt (tgt := 19) hx hb d_J_needAxis_6 (by decide) (fun c_2 => ?_) (fun c_2 => ?_)
    · exact vx_ret (W.widen (k := 1) (n := 6) (Nat.le_of_ble_eq_true rfl) (Nat.le_of_ble_eq_true rfl) (W.vret hx hb hr (fun t ht hW => ⟨⟨(), rfl, (fun q => q.elim c_1 (fun q => q c_2)), ht⟩, hS.F ht⟩) hS.2.2 d_J_needAxis_19))
    · exact thr_IOB hx hb hlt hown htB ha hz sB_211 hS (hl.1.trans hml.symm) htab d_J_needAxis_9 d_J_needAxis_12 d_J_needAxis_13 d_J_needAxis_15 d_J_needAxis_18 (Nat.le_of_ble_eq_true rfl) (Nat.le_of_ble_eq_true rfl) (Nat.le_of_ble_eq_true rfl) (Nat.le_of_ble_eq_true rfl) hlocks (fun t _ h1 h2 => ⟨(), trivial, ⟨⟨rfl, Or.inr c_2⟩, h1, h2⟩, h1, fun q hq _ => h2 q hq⟩) hS.2.2 (Nat.le_of_ble_eq_true rfl) (Nat.le_of_ble_eq_true rfl)
set_option maxHeartbeats 4000000 in
set_option maxRecDepth 100000 in
theorem x_J_needWidth (l : Launch) (hlt : l.stackTraces = false) (g : gT) (z : Nat) (H0 : Heap) (v : Int32) : vx_Met l y_J_needWidth w_J_needWidth ({ frames := 6, cells := 1, slots := 6, locals := 82 }) (va_Pc [.int (v)] (pB g z H0 (True))) (qV H0 (¬ (v < nI 1 ∨ ¬ v ≤ nI 1000))) (xX (fun E => E = E_IAE ∧ (v < nI 1 ∨ ¬ v ≤ nI 1000)) H0) 1 6 nA := by
  refine vx_ofW (cc := c_J_needWidth) (maxL := 1) (ret := none) (by decide) rfl ?_
  intro p e s m args below meth c s₁ B hml htab hv
  obtain ⟨rfl, hH0, ha, -⟩ := hv
  have hx := B.exec
  have hb := B.bytes
  have hr := B.returns
  have htB : ∀ w ∈ tB, w.before _ s = true := fun w h => atoms_spec (ws := w_J_needWidth) B.pre w (List.mem_cons_of_mem _ h)
  have hown : s.vm.findClass "JointSolids" = some m.cls := findClass_of_methodNamed B.named
  have hlocks := B.notSynchronized
  subst hH0
  have hz : ∀ q, nA q → z ≤ q := nA_z
  have hS : va_S nA s.heap s.heap [] := va_S.rf
  have hl := lv_entry ([.int (v)]) (n := 1) (Nat.le_of_ble_eq_true rfl)
  rw [lg_entry_eq]
  generalize (lg_sl ([.int (v)]) ++ List.replicate (1 - (lg_sl ([.int (v)])).length) Slot.unset).toArray = ls at hl ⊢
  have hl : lv_has ls 1 [(0, .int (v))] := hl
  refine lv_iload_n hx hb d_J_needWidth_0 rfl (lv_at hl 0 rfl) ?_
  refine lv_iconst (v := (nI (1))) hx hb d_J_needWidth_1 (by decide) ?_
  refine lv_icmp_lt (tgt := 12) hx hb d_J_needWidth_2 (by decide) (fun c_1 => ?_) (fun c_1 => ?_)
  · exact thr_IAE hx hb hlt hown htB ha hz sB_213 hS (hl.1.trans hml.symm) htab d_J_needWidth_12 d_J_needWidth_15 d_J_needWidth_16 d_J_needWidth_18 d_J_needWidth_21 (Nat.le_of_ble_eq_true rfl) (Nat.le_of_ble_eq_true rfl) (Nat.le_of_ble_eq_true rfl) (Nat.le_of_ble_eq_true rfl) hlocks (fun t _ h1 h2 => ⟨(), trivial, ⟨⟨rfl, Or.inl c_1⟩, h1, h2⟩, h1, fun q hq _ => h2 q hq⟩) hS.2.2 (Nat.le_of_ble_eq_true rfl) (Nat.le_of_ble_eq_true rfl)
  · refine lv_iload_n hx hb d_J_needWidth_5 rfl (lv_at hl 0 rfl) ?_
    refine lv_sipush (v := (nI (1000))) hx hb d_J_needWidth_6 (by decide) ?_
    refine lv_icmp_le (tgt := 22) hx hb d_J_needWidth_9 (by decide) (fun c_2 => ?_) (fun c_2 => ?_)
    · exact vx_ret (W.widen (k := 1) (n := 6) (Nat.le_of_ble_eq_true rfl) (Nat.le_of_ble_eq_true rfl) (W.vret hx hb hr (fun t ht hW => ⟨⟨(), rfl, (fun q => q.elim c_1 (fun q => q c_2)), ht⟩, hS.F ht⟩) hS.2.2 d_J_needWidth_22))
    · exact thr_IAE hx hb hlt hown htB ha hz sB_213 hS (hl.1.trans hml.symm) htab d_J_needWidth_12 d_J_needWidth_15 d_J_needWidth_16 d_J_needWidth_18 d_J_needWidth_21 (Nat.le_of_ble_eq_true rfl) (Nat.le_of_ble_eq_true rfl) (Nat.le_of_ble_eq_true rfl) (Nat.le_of_ble_eq_true rfl) hlocks (fun t _ h1 h2 => ⟨(), trivial, ⟨⟨rfl, Or.inr c_2⟩, h1, h2⟩, h1, fun q hq _ => h2 q hq⟩) hS.2.2 (Nat.le_of_ble_eq_true rfl) (Nat.le_of_ble_eq_true rfl)
set_option maxHeartbeats 4000000 in
set_option maxRecDepth 100000 in
theorem x_J_needTwo (l : Launch) (hlt : l.stackTraces = false) (g : gT) (z : Nat) (H0 : Heap) (a b : Int32) : vx_Met l y_J_needTwo w_J_needTwo ({ frames := 6, cells := 1, slots := 6, locals := 82 }) (va_Pc [.int (a), .int (b)] (pB g z H0 (True))) (qV H0 (¬ (a = b))) (xX (fun E => E = E_IAE ∧ (a = b)) H0) 1 6 nA := by
  refine vx_ofW (cc := c_J_needTwo) (maxL := 2) (ret := none) (by decide) rfl ?_
  intro p e s m args below meth c s₁ B hml htab hv
  obtain ⟨rfl, hH0, ha, -⟩ := hv
  have hx := B.exec
  have hb := B.bytes
  have hr := B.returns
  have htB : ∀ w ∈ tB, w.before _ s = true := fun w h => atoms_spec (ws := w_J_needTwo) B.pre w (List.mem_cons_of_mem _ h)
  have hown : s.vm.findClass "JointSolids" = some m.cls := findClass_of_methodNamed B.named
  have hlocks := B.notSynchronized
  subst hH0
  have hz : ∀ q, nA q → z ≤ q := nA_z
  have hS : va_S nA s.heap s.heap [] := va_S.rf
  have hl := lv_entry ([.int (a), .int (b)]) (n := 2) (Nat.le_of_ble_eq_true rfl)
  rw [lg_entry_eq]
  generalize (lg_sl ([.int (a), .int (b)]) ++ List.replicate (2 - (lg_sl ([.int (a), .int (b)])).length) Slot.unset).toArray = ls at hl ⊢
  have hl : lv_has ls 2 [(0, .int (a)), (1, .int (b))] := hl
  refine lv_iload_n hx hb d_J_needTwo_0 rfl (lv_at hl 0 rfl) ?_
  refine lv_iload_n hx hb d_J_needTwo_1 rfl (lv_at hl 1 rfl) ?_
  refine lv_icmp_ne (tgt := 15) hx hb d_J_needTwo_2 (by decide) (fun c_1 => ?_) (fun c_1 => ?_)
  · exact vx_ret (W.widen (k := 1) (n := 6) (Nat.le_of_ble_eq_true rfl) (Nat.le_of_ble_eq_true rfl) (W.vret hx hb hr (fun t ht hW => ⟨⟨(), rfl, c_1, ht⟩, hS.F ht⟩) hS.2.2 d_J_needTwo_15))
  · exact thr_IAE hx hb hlt hown htB ha hz sB_215 hS (hl.1.trans hml.symm) htab d_J_needTwo_5 d_J_needTwo_8 d_J_needTwo_9 d_J_needTwo_11 d_J_needTwo_14 (Nat.le_of_ble_eq_true rfl) (Nat.le_of_ble_eq_true rfl) (Nat.le_of_ble_eq_true rfl) (Nat.le_of_ble_eq_true rfl) hlocks (fun t _ h1 h2 => ⟨(), trivial, ⟨⟨rfl, c_1⟩, h1, h2⟩, h1, fun q hq _ => h2 q hq⟩) hS.2.2 (Nat.le_of_ble_eq_true rfl) (Nat.le_of_ble_eq_true rfl)
set_option maxHeartbeats 4000000 in
set_option maxRecDepth 100000 in
theorem x_J_needPlaces (l : Launch) (hlt : l.stackTraces = false) (g : gT) (z : Nat) (H0 : Heap) (r : Nat) (x y zz : Int32) : vx_Met l y_J_needPlaces w_J_needPlaces ({ frames := 6, cells := 1, slots := 6, locals := 82 }) (va_Pc [.int (nI (r)), .int (x), .int (y), .int (zz)] (pB g z H0 (True))) (qV H0 (¬ (mnI x (mnI y zz) < -(nI r) ∨ ¬ mxI x (mxI y zz) ≤ nI r))) (xX (fun E => E = E_IAE ∧ (mnI x (mnI y zz) < -(nI r) ∨ ¬ mxI x (mxI y zz) ≤ nI r)) H0) 1 6 nA := by
  refine vx_ofW (cc := c_J_needPlaces) (maxL := 4) (ret := none) (by decide) rfl ?_
  intro p e s m args below meth c s₁ B hml htab hv
  obtain ⟨rfl, hH0, ha, -⟩ := hv
  have hx := B.exec
  have hb := B.bytes
  have hr := B.returns
  have htB : ∀ w ∈ tB, w.before _ s = true := fun w h => atoms_spec (ws := w_J_needPlaces) B.pre w (List.mem_cons_of_mem _ h)
  have hown : s.vm.findClass "JointSolids" = some m.cls := findClass_of_methodNamed B.named
  have hlocks := B.notSynchronized
  subst hH0
  have hz : ∀ q, nA q → z ≤ q := nA_z
  have hS : va_S nA s.heap s.heap [] := va_S.rf
  have hl := lv_entry ([.int (nI (r)), .int (x), .int (y), .int (zz)]) (n := 4) (Nat.le_of_ble_eq_true rfl)
  rw [lg_entry_eq]
  generalize (lg_sl ([.int (nI (r)), .int (x), .int (y), .int (zz)]) ++ List.replicate (4 - (lg_sl ([.int (nI (r)), .int (x), .int (y), .int (zz)])).length) Slot.unset).toArray = ls at hl ⊢
  have hl : lv_has ls 4 [(0, .int (nI (r))), (1, .int (x)), (2, .int (y)), (3, .int (zz))] := hl
  refine lv_iload_n hx hb d_J_needPlaces_0 rfl (lv_at hl 1 rfl) ?_
  refine lv_iload_n hx hb d_J_needPlaces_1 rfl (lv_at hl 2 rfl) ?_
  refine lv_iload_n hx hb d_J_needPlaces_2 rfl (lv_at hl 3 rfl) ?_
  refine va_mmin (own := "JointSolids") hx hb (hml.trans hl.1.symm) hown (htB _ kw_171) (htB _ kw_172) (htB _ kw_4) (htB _ kw_173) (Nat.le_of_ble_eq_true rfl) (Nat.le_of_ble_eq_true rfl) (Nat.le_of_ble_eq_true rfl) (Nat.le_of_ble_eq_true rfl) d_J_needPlaces_3 ?_
  refine va_mmin (own := "JointSolids") hx hb (hml.trans hl.1.symm) hown (htB _ kw_171) (htB _ kw_172) (htB _ kw_4) (htB _ kw_173) (Nat.le_of_ble_eq_true rfl) (Nat.le_of_ble_eq_true rfl) (Nat.le_of_ble_eq_true rfl) (Nat.le_of_ble_eq_true rfl) d_J_needPlaces_6 ?_
  refine lv_iload_n hx hb d_J_needPlaces_9 rfl (lv_at hl 0 rfl) ?_
  refine lv_ineg hx hb d_J_needPlaces_10 ?_
  refine lv_icmp_lt (tgt := 27) hx hb d_J_needPlaces_11 (by decide) (fun c_1 => ?_) (fun c_1 => ?_)
  · exact thr_IAE hx hb hlt hown htB ha hz sB_225 hS (hl.1.trans hml.symm) htab d_J_needPlaces_27 d_J_needPlaces_30 d_J_needPlaces_31 d_J_needPlaces_33 d_J_needPlaces_36 (Nat.le_of_ble_eq_true rfl) (Nat.le_of_ble_eq_true rfl) (Nat.le_of_ble_eq_true rfl) (Nat.le_of_ble_eq_true rfl) hlocks (fun t _ h1 h2 => ⟨(), trivial, ⟨⟨rfl, Or.inl c_1⟩, h1, h2⟩, h1, fun q hq _ => h2 q hq⟩) hS.2.2 (Nat.le_of_ble_eq_true rfl) (Nat.le_of_ble_eq_true rfl)
  · refine lv_iload_n hx hb d_J_needPlaces_14 rfl (lv_at hl 1 rfl) ?_
    refine lv_iload_n hx hb d_J_needPlaces_15 rfl (lv_at hl 2 rfl) ?_
    refine lv_iload_n hx hb d_J_needPlaces_16 rfl (lv_at hl 3 rfl) ?_
    refine va_mmax (own := "JointSolids") hx hb (hml.trans hl.1.symm) hown (htB _ kw_168) (htB _ kw_169) (htB _ kw_4) (htB _ kw_170) (Nat.le_of_ble_eq_true rfl) (Nat.le_of_ble_eq_true rfl) (Nat.le_of_ble_eq_true rfl) (Nat.le_of_ble_eq_true rfl) d_J_needPlaces_17 ?_
    refine va_mmax (own := "JointSolids") hx hb (hml.trans hl.1.symm) hown (htB _ kw_168) (htB _ kw_169) (htB _ kw_4) (htB _ kw_170) (Nat.le_of_ble_eq_true rfl) (Nat.le_of_ble_eq_true rfl) (Nat.le_of_ble_eq_true rfl) (Nat.le_of_ble_eq_true rfl) d_J_needPlaces_20 ?_
    refine lv_iload_n hx hb d_J_needPlaces_23 rfl (lv_at hl 0 rfl) ?_
    refine lv_icmp_le (tgt := 37) hx hb d_J_needPlaces_24 (by decide) (fun c_2 => ?_) (fun c_2 => ?_)
    · exact vx_ret (W.widen (k := 1) (n := 6) (Nat.le_of_ble_eq_true rfl) (Nat.le_of_ble_eq_true rfl) (W.vret hx hb hr (fun t ht hW => ⟨⟨(), rfl, (fun q => q.elim c_1 (fun q => q c_2)), ht⟩, hS.F ht⟩) hS.2.2 d_J_needPlaces_37))
    · exact thr_IAE hx hb hlt hown htB ha hz sB_225 hS (hl.1.trans hml.symm) htab d_J_needPlaces_27 d_J_needPlaces_30 d_J_needPlaces_31 d_J_needPlaces_33 d_J_needPlaces_36 (Nat.le_of_ble_eq_true rfl) (Nat.le_of_ble_eq_true rfl) (Nat.le_of_ble_eq_true rfl) (Nat.le_of_ble_eq_true rfl) hlocks (fun t _ h1 h2 => ⟨(), trivial, ⟨⟨rfl, Or.inr c_2⟩, h1, h2⟩, h1, fun q hq _ => h2 q hq⟩) hS.2.2 (Nat.le_of_ble_eq_true rfl) (Nat.le_of_ble_eq_true rfl)
set_option maxHeartbeats 4000000 in
set_option maxRecDepth 100000 in
theorem x_J_needSizes (l : Launch) (hlt : l.stackTraces = false) (g : gT) (z : Nat) (H0 : Heap) (r : Nat) (x y zz : Int32) : vx_Met l y_J_needSizes w_J_needSizes ({ frames := 6, cells := 1, slots := 6, locals := 82 }) (va_Pc [.int (nI (r)), .int (x), .int (y), .int (zz)] (pB g z H0 (True))) (qV H0 (¬ (mnI x (mnI y zz) < nI 1 ∨ ¬ mxI x (mxI y zz) ≤ nI r))) (xX (fun E => E = E_IAE ∧ (mnI x (mnI y zz) < nI 1 ∨ ¬ mxI x (mxI y zz) ≤ nI r)) H0) 1 6 nA := by
  refine vx_ofW (cc := c_J_needSizes) (maxL := 4) (ret := none) (by decide) rfl ?_
  intro p e s m args below meth c s₁ B hml htab hv
  obtain ⟨rfl, hH0, ha, -⟩ := hv
  have hx := B.exec
  have hb := B.bytes
  have hr := B.returns
  have htB : ∀ w ∈ tB, w.before _ s = true := fun w h => atoms_spec (ws := w_J_needSizes) B.pre w (List.mem_cons_of_mem _ h)
  have hown : s.vm.findClass "JointSolids" = some m.cls := findClass_of_methodNamed B.named
  have hlocks := B.notSynchronized
  subst hH0
  have hz : ∀ q, nA q → z ≤ q := nA_z
  have hS : va_S nA s.heap s.heap [] := va_S.rf
  have hl := lv_entry ([.int (nI (r)), .int (x), .int (y), .int (zz)]) (n := 4) (Nat.le_of_ble_eq_true rfl)
  rw [lg_entry_eq]
  generalize (lg_sl ([.int (nI (r)), .int (x), .int (y), .int (zz)]) ++ List.replicate (4 - (lg_sl ([.int (nI (r)), .int (x), .int (y), .int (zz)])).length) Slot.unset).toArray = ls at hl ⊢
  have hl : lv_has ls 4 [(0, .int (nI (r))), (1, .int (x)), (2, .int (y)), (3, .int (zz))] := hl
  refine lv_iload_n hx hb d_J_needSizes_0 rfl (lv_at hl 1 rfl) ?_
  refine lv_iload_n hx hb d_J_needSizes_1 rfl (lv_at hl 2 rfl) ?_
  refine lv_iload_n hx hb d_J_needSizes_2 rfl (lv_at hl 3 rfl) ?_
  refine va_mmin (own := "JointSolids") hx hb (hml.trans hl.1.symm) hown (htB _ kw_171) (htB _ kw_172) (htB _ kw_4) (htB _ kw_173) (Nat.le_of_ble_eq_true rfl) (Nat.le_of_ble_eq_true rfl) (Nat.le_of_ble_eq_true rfl) (Nat.le_of_ble_eq_true rfl) d_J_needSizes_3 ?_
  refine va_mmin (own := "JointSolids") hx hb (hml.trans hl.1.symm) hown (htB _ kw_171) (htB _ kw_172) (htB _ kw_4) (htB _ kw_173) (Nat.le_of_ble_eq_true rfl) (Nat.le_of_ble_eq_true rfl) (Nat.le_of_ble_eq_true rfl) (Nat.le_of_ble_eq_true rfl) d_J_needSizes_6 ?_
  refine lv_iconst (v := (nI (1))) hx hb d_J_needSizes_9 (by decide) ?_
  refine lv_icmp_lt (tgt := 26) hx hb d_J_needSizes_10 (by decide) (fun c_1 => ?_) (fun c_1 => ?_)
  · exact thr_IAE hx hb hlt hown htB ha hz sB_227 hS (hl.1.trans hml.symm) htab d_J_needSizes_26 d_J_needSizes_29 d_J_needSizes_30 d_J_needSizes_32 d_J_needSizes_35 (Nat.le_of_ble_eq_true rfl) (Nat.le_of_ble_eq_true rfl) (Nat.le_of_ble_eq_true rfl) (Nat.le_of_ble_eq_true rfl) hlocks (fun t _ h1 h2 => ⟨(), trivial, ⟨⟨rfl, Or.inl c_1⟩, h1, h2⟩, h1, fun q hq _ => h2 q hq⟩) hS.2.2 (Nat.le_of_ble_eq_true rfl) (Nat.le_of_ble_eq_true rfl)
  · refine lv_iload_n hx hb d_J_needSizes_13 rfl (lv_at hl 1 rfl) ?_
    refine lv_iload_n hx hb d_J_needSizes_14 rfl (lv_at hl 2 rfl) ?_
    refine lv_iload_n hx hb d_J_needSizes_15 rfl (lv_at hl 3 rfl) ?_
    refine va_mmax (own := "JointSolids") hx hb (hml.trans hl.1.symm) hown (htB _ kw_168) (htB _ kw_169) (htB _ kw_4) (htB _ kw_170) (Nat.le_of_ble_eq_true rfl) (Nat.le_of_ble_eq_true rfl) (Nat.le_of_ble_eq_true rfl) (Nat.le_of_ble_eq_true rfl) d_J_needSizes_16 ?_
    refine va_mmax (own := "JointSolids") hx hb (hml.trans hl.1.symm) hown (htB _ kw_168) (htB _ kw_169) (htB _ kw_4) (htB _ kw_170) (Nat.le_of_ble_eq_true rfl) (Nat.le_of_ble_eq_true rfl) (Nat.le_of_ble_eq_true rfl) (Nat.le_of_ble_eq_true rfl) d_J_needSizes_19 ?_
    refine lv_iload_n hx hb d_J_needSizes_22 rfl (lv_at hl 0 rfl) ?_
    refine lv_icmp_le (tgt := 36) hx hb d_J_needSizes_23 (by decide) (fun c_2 => ?_) (fun c_2 => ?_)
    · exact vx_ret (W.widen (k := 1) (n := 6) (Nat.le_of_ble_eq_true rfl) (Nat.le_of_ble_eq_true rfl) (W.vret hx hb hr (fun t ht hW => ⟨⟨(), rfl, (fun q => q.elim c_1 (fun q => q c_2)), ht⟩, hS.F ht⟩) hS.2.2 d_J_needSizes_36))
    · exact thr_IAE hx hb hlt hown htB ha hz sB_227 hS (hl.1.trans hml.symm) htab d_J_needSizes_26 d_J_needSizes_29 d_J_needSizes_30 d_J_needSizes_32 d_J_needSizes_35 (Nat.le_of_ble_eq_true rfl) (Nat.le_of_ble_eq_true rfl) (Nat.le_of_ble_eq_true rfl) (Nat.le_of_ble_eq_true rfl) hlocks (fun t _ h1 h2 => ⟨(), trivial, ⟨⟨rfl, Or.inr c_2⟩, h1, h2⟩, h1, fun q hq _ => h2 q hq⟩) hS.2.2 (Nat.le_of_ble_eq_true rfl) (Nat.le_of_ble_eq_true rfl)
set_option maxHeartbeats 4000000 in
set_option maxRecDepth 100000 in
theorem x_J_solidOf (l : Launch) (hlt : l.stackTraces = false) (g : gT) (z : Nat) (H0 : Heap) (h : Nat) (fs : List Value) (pa : Nat) (gp : Nat → Option Nat) (v : Int32) : vx_Met l y_J_solidOf w_J_solidOf ({ frames := 6, cells := 1, slots := 6, locals := 82 }) (va_Pc [.ref h, .int (v)] (pB g z H0 (va_P g.1 cls [(h, .inr (1, fs)), (pa, ePS g 8 gp)] H0 ∧ fs[0]? = some (.ref pa)))) (qR (fun a => ∃ j : Nat, j < 8 ∧ v = nI j ∧ gp j = some a) H0) (xX (fun E => E = E_IOB ∧ ∀ j : Nat, j < 8 → v = nI j → gp j = none) H0) 1 6 nA := by
  refine vx_ofW (cc := c_J_solidOf) (maxL := 2) (ret := (some (.object "JointSolids$Solid"))) (by decide) rfl ?_
  intro p e s m args below meth c s₁ B hml htab hv
  obtain ⟨rfl, hH0, ha, hP, hf⟩ := hv
  have hx := B.exec
  have hb := B.bytes
  have hr := B.returns
  have htB : ∀ w ∈ tB, w.before _ s = true := fun w h => atoms_spec (ws := w_J_solidOf) B.pre w (List.mem_cons_of_mem _ h)
  have hown : s.vm.findClass "JointSolids" = some m.cls := findClass_of_methodNamed B.named
  have hlocks := B.notSynchronized
  subst hH0
  have hz : ∀ q, nA q → z ≤ q := nA_z
  have hS : va_S nA s.heap s.heap [] := va_S.rf
  have hl := lv_entry ([.ref h, .int (v)]) (n := 2) (Nat.le_of_ble_eq_true rfl)
  rw [lg_entry_eq]
  generalize (lg_sl ([.ref h, .int (v)]) ++ List.replicate (2 - (lg_sl ([.ref h, .int (v)])).length) Slot.unset).toArray = ls at hl ⊢
  have hl : lv_has ls 2 [(0, .ref h), (1, .int (v))] := hl
  refine lv_iload_n hx hb d_J_solidOf_0 rfl (lv_at hl 1 rfl) ?_
  refine lv_if_lt (tgt := 19) hx hb d_J_solidOf_1 (by decide) (fun c_1 => ?_) (fun c_1 => ?_)
  · exact thr_IOB hx hb hlt hown htB ha hz sB_205 hS (hl.1.trans hml.symm) htab d_J_solidOf_19 d_J_solidOf_22 d_J_solidOf_23 d_J_solidOf_25 d_J_solidOf_28 (Nat.le_of_ble_eq_true rfl) (Nat.le_of_ble_eq_true rfl) (Nat.le_of_ble_eq_true rfl) (Nat.le_of_ble_eq_true rfl) hlocks (fun t _ h1 h2 => ⟨(), trivial, ⟨⟨rfl, fun j hj e => absurd c_1 (by rw [e]; exact nI_pos (by omega))⟩, h1, h2⟩, h1, fun q hq _ => h2 q hq⟩) hS.2.2 (Nat.le_of_ble_eq_true rfl) (Nat.le_of_ble_eq_true rfl)
  · refine lv_iload_n hx hb d_J_solidOf_4 rfl (lv_at hl 1 rfl) ?_
    refine lv_bipush (v := (nI (8))) hx hb d_J_solidOf_5 (by decide) ?_
    refine lv_icmp_ge (tgt := 19) hx hb d_J_solidOf_7 (by decide) (fun c_2 => ?_) (fun c_2 => ?_)
    · exact thr_IOB hx hb hlt hown htB ha hz sB_205 hS (hl.1.trans hml.symm) htab d_J_solidOf_19 d_J_solidOf_22 d_J_solidOf_23 d_J_solidOf_25 d_J_solidOf_28 (Nat.le_of_ble_eq_true rfl) (Nat.le_of_ble_eq_true rfl) (Nat.le_of_ble_eq_true rfl) (Nat.le_of_ble_eq_true rfl) hlocks (fun t _ h1 h2 => ⟨(), trivial, ⟨⟨rfl, fun j hj e => absurd c_2 (by rw [e]; exact nI_ge hj (by decide))⟩, h1, h2⟩, h1, fun q hq _ => h2 q hq⟩) hS.2.2 (Nat.le_of_ble_eq_true rfl) (Nat.le_of_ble_eq_true rfl)
    · obtain ⟨j, hj, rfl⟩ : ∃ j : Nat, j < 8 ∧ v = nI j := (pk_ix v (n := 8) (by decide)).elim (fun q => absurd q c_1) (fun q => q.elim (fun q => absurd q c_2) id)
      cases hg : gp j with
      | none =>
        refine lv_aload_n hx hb d_J_solidOf_10 rfl (lv_at hl 0 rfl) ?_
        refine va_get (D := g.1) (ci := 1) (v := .ref pa) (C := R_J) (T := F_J) (N := 14) hx hb htB in_J hown ha.1 hP 0 rfl rfl 0 (by decide) (htB _ kw_40) (fun _ h9 => h9) hf d_J_solidOf_11 ?_
        refine lv_iload_n hx hb d_J_solidOf_14 rfl (lv_at hl 1 rfl) ?_
        refine ja_aldq (k := j) hx hb ha.1 hP 1 2 rfl rfl (by omega) (by omega) d_J_solidOf_15 ?_
        rw [hg]
        refine lv_ifnonnullN hx hb d_J_solidOf_16 ?_
        exact thr_IOB hx hb hlt hown htB ha hz sB_205 hS (hl.1.trans hml.symm) htab d_J_solidOf_19 d_J_solidOf_22 d_J_solidOf_23 d_J_solidOf_25 d_J_solidOf_28 (Nat.le_of_ble_eq_true rfl) (Nat.le_of_ble_eq_true rfl) (Nat.le_of_ble_eq_true rfl) (Nat.le_of_ble_eq_true rfl) hlocks (fun t _ h1 h2 => ⟨(), trivial, ⟨⟨rfl, fun i hi e => by rw [(nI_eq (by omega) (by omega)).mp e] at hg; exact hg⟩, h1, h2⟩, h1, fun q hq _ => h2 q hq⟩) hS.2.2 (Nat.le_of_ble_eq_true rfl) (Nat.le_of_ble_eq_true rfl)
      | some sv =>
        refine lv_aload_n hx hb d_J_solidOf_10 rfl (lv_at hl 0 rfl) ?_
        refine va_get (D := g.1) (ci := 1) (v := .ref pa) (C := R_J) (T := F_J) (N := 14) hx hb htB in_J hown ha.1 hP 0 rfl rfl 0 (by decide) (htB _ kw_40) (fun _ h9 => h9) hf d_J_solidOf_11 ?_
        refine lv_iload_n hx hb d_J_solidOf_14 rfl (lv_at hl 1 rfl) ?_
        refine ja_aldq (k := j) hx hb ha.1 hP 1 2 rfl rfl (by omega) (by omega) d_J_solidOf_15 ?_
        rw [hg]
        refine lv_ifnonnull (tgt := 29) hx hb d_J_solidOf_16 (by decide) ?_
        refine lv_aload_n hx hb d_J_solidOf_29 rfl (lv_at hl 0 rfl) ?_
        refine va_get (D := g.1) (ci := 1) (v := .ref pa) (C := R_J) (T := F_J) (N := 14) hx hb htB in_J hown ha.1 hP 0 rfl rfl 0 (by decide) (htB _ kw_40) (fun _ h9 => h9) hf d_J_solidOf_30 ?_
        refine lv_iload_n hx hb d_J_solidOf_33 rfl (lv_at hl 1 rfl) ?_
        refine ja_aldq (k := j) hx hb ha.1 hP 1 2 rfl rfl (by omega) (by omega) d_J_solidOf_34 ?_
        rw [hg]
        exact vx_ret (W.widen (k := 1) (n := 6) (Nat.le_of_ble_eq_true rfl) (Nat.le_of_ble_eq_true rfl) (W.aret (v := .ref sv) hx hb hr (Or.inl ⟨_, rfl⟩) (Or.inr ⟨_, rfl⟩) (fun t ht hW => ⟨⟨(), sv, rfl, trivial, ⟨j, hj, rfl, hg⟩, ht⟩, hS.F ht⟩) hS.2.2 d_J_solidOf_35))
set_option maxHeartbeats 4000000 in
set_option maxRecDepth 100000 in
theorem x_J_jointOf (l : Launch) (hlt : l.stackTraces = false) (g : gT) (z : Nat) (H0 : Heap) (h : Nat) (fs : List Value) (pa : Nat) (gp : Nat → Option Nat) (v : Int32) : vx_Met l y_J_jointOf w_J_jointOf ({ frames := 6, cells := 1, slots := 6, locals := 82 }) (va_Pc [.ref h, .int (v)] (pB g z H0 (va_P g.1 cls [(h, .inr (1, fs)), (pa, ePK g 12 gp)] H0 ∧ fs[3]? = some (.ref pa)))) (qR (fun a => ∃ j : Nat, j < 12 ∧ v = nI j ∧ gp j = some a) H0) (xX (fun E => E = E_IOB ∧ ∀ j : Nat, j < 12 → v = nI j → gp j = none) H0) 1 6 nA := by
  refine vx_ofW (cc := c_J_jointOf) (maxL := 2) (ret := (some (.object "JointSolids$Joint"))) (by decide) rfl ?_
  intro p e s m args below meth c s₁ B hml htab hv
  obtain ⟨rfl, hH0, ha, hP, hf⟩ := hv
  have hx := B.exec
  have hb := B.bytes
  have hr := B.returns
  have htB : ∀ w ∈ tB, w.before _ s = true := fun w h => atoms_spec (ws := w_J_jointOf) B.pre w (List.mem_cons_of_mem _ h)
  have hown : s.vm.findClass "JointSolids" = some m.cls := findClass_of_methodNamed B.named
  have hlocks := B.notSynchronized
  subst hH0
  have hz : ∀ q, nA q → z ≤ q := nA_z
  have hS : va_S nA s.heap s.heap [] := va_S.rf
  have hl := lv_entry ([.ref h, .int (v)]) (n := 2) (Nat.le_of_ble_eq_true rfl)
  rw [lg_entry_eq]
  generalize (lg_sl ([.ref h, .int (v)]) ++ List.replicate (2 - (lg_sl ([.ref h, .int (v)])).length) Slot.unset).toArray = ls at hl ⊢
  have hl : lv_has ls 2 [(0, .ref h), (1, .int (v))] := hl
  refine lv_iload_n hx hb d_J_jointOf_0 rfl (lv_at hl 1 rfl) ?_
  refine lv_if_lt (tgt := 19) hx hb d_J_jointOf_1 (by decide) (fun c_1 => ?_) (fun c_1 => ?_)
  · exact thr_IOB hx hb hlt hown htB ha hz sB_207 hS (hl.1.trans hml.symm) htab d_J_jointOf_19 d_J_jointOf_22 d_J_jointOf_23 d_J_jointOf_25 d_J_jointOf_28 (Nat.le_of_ble_eq_true rfl) (Nat.le_of_ble_eq_true rfl) (Nat.le_of_ble_eq_true rfl) (Nat.le_of_ble_eq_true rfl) hlocks (fun t _ h1 h2 => ⟨(), trivial, ⟨⟨rfl, fun j hj e => absurd c_1 (by rw [e]; exact nI_pos (by omega))⟩, h1, h2⟩, h1, fun q hq _ => h2 q hq⟩) hS.2.2 (Nat.le_of_ble_eq_true rfl) (Nat.le_of_ble_eq_true rfl)
  · refine lv_iload_n hx hb d_J_jointOf_4 rfl (lv_at hl 1 rfl) ?_
    refine lv_bipush (v := (nI (12))) hx hb d_J_jointOf_5 (by decide) ?_
    refine lv_icmp_ge (tgt := 19) hx hb d_J_jointOf_7 (by decide) (fun c_2 => ?_) (fun c_2 => ?_)
    · exact thr_IOB hx hb hlt hown htB ha hz sB_207 hS (hl.1.trans hml.symm) htab d_J_jointOf_19 d_J_jointOf_22 d_J_jointOf_23 d_J_jointOf_25 d_J_jointOf_28 (Nat.le_of_ble_eq_true rfl) (Nat.le_of_ble_eq_true rfl) (Nat.le_of_ble_eq_true rfl) (Nat.le_of_ble_eq_true rfl) hlocks (fun t _ h1 h2 => ⟨(), trivial, ⟨⟨rfl, fun j hj e => absurd c_2 (by rw [e]; exact nI_ge hj (by decide))⟩, h1, h2⟩, h1, fun q hq _ => h2 q hq⟩) hS.2.2 (Nat.le_of_ble_eq_true rfl) (Nat.le_of_ble_eq_true rfl)
    · obtain ⟨j, hj, rfl⟩ : ∃ j : Nat, j < 12 ∧ v = nI j := (pk_ix v (n := 12) (by decide)).elim (fun q => absurd q c_1) (fun q => q.elim (fun q => absurd q c_2) id)
      cases hg : gp j with
      | none =>
        refine lv_aload_n hx hb d_J_jointOf_10 rfl (lv_at hl 0 rfl) ?_
        refine va_get (D := g.1) (ci := 1) (v := .ref pa) (C := R_J) (T := F_J) (N := 14) hx hb htB in_J hown ha.1 hP 0 rfl rfl 3 (by decide) (htB _ kw_43) (fun _ h9 => h9) hf d_J_jointOf_11 ?_
        refine lv_iload_n hx hb d_J_jointOf_14 rfl (lv_at hl 1 rfl) ?_
        refine ja_aldq (k := j) hx hb ha.1 hP 1 3 rfl rfl (by omega) (by omega) d_J_jointOf_15 ?_
        rw [hg]
        refine lv_ifnonnullN hx hb d_J_jointOf_16 ?_
        exact thr_IOB hx hb hlt hown htB ha hz sB_207 hS (hl.1.trans hml.symm) htab d_J_jointOf_19 d_J_jointOf_22 d_J_jointOf_23 d_J_jointOf_25 d_J_jointOf_28 (Nat.le_of_ble_eq_true rfl) (Nat.le_of_ble_eq_true rfl) (Nat.le_of_ble_eq_true rfl) (Nat.le_of_ble_eq_true rfl) hlocks (fun t _ h1 h2 => ⟨(), trivial, ⟨⟨rfl, fun i hi e => by rw [(nI_eq (by omega) (by omega)).mp e] at hg; exact hg⟩, h1, h2⟩, h1, fun q hq _ => h2 q hq⟩) hS.2.2 (Nat.le_of_ble_eq_true rfl) (Nat.le_of_ble_eq_true rfl)
      | some sv =>
        refine lv_aload_n hx hb d_J_jointOf_10 rfl (lv_at hl 0 rfl) ?_
        refine va_get (D := g.1) (ci := 1) (v := .ref pa) (C := R_J) (T := F_J) (N := 14) hx hb htB in_J hown ha.1 hP 0 rfl rfl 3 (by decide) (htB _ kw_43) (fun _ h9 => h9) hf d_J_jointOf_11 ?_
        refine lv_iload_n hx hb d_J_jointOf_14 rfl (lv_at hl 1 rfl) ?_
        refine ja_aldq (k := j) hx hb ha.1 hP 1 3 rfl rfl (by omega) (by omega) d_J_jointOf_15 ?_
        rw [hg]
        refine lv_ifnonnull (tgt := 29) hx hb d_J_jointOf_16 (by decide) ?_
        refine lv_aload_n hx hb d_J_jointOf_29 rfl (lv_at hl 0 rfl) ?_
        refine va_get (D := g.1) (ci := 1) (v := .ref pa) (C := R_J) (T := F_J) (N := 14) hx hb htB in_J hown ha.1 hP 0 rfl rfl 3 (by decide) (htB _ kw_43) (fun _ h9 => h9) hf d_J_jointOf_30 ?_
        refine lv_iload_n hx hb d_J_jointOf_33 rfl (lv_at hl 1 rfl) ?_
        refine ja_aldq (k := j) hx hb ha.1 hP 1 3 rfl rfl (by omega) (by omega) d_J_jointOf_34 ?_
        rw [hg]
        exact vx_ret (W.widen (k := 1) (n := 6) (Nat.le_of_ble_eq_true rfl) (Nat.le_of_ble_eq_true rfl) (W.aret (v := .ref sv) hx hb hr (Or.inl ⟨_, rfl⟩) (Or.inr ⟨_, rfl⟩) (fun t ht hW => ⟨⟨(), sv, rfl, trivial, ⟨j, hj, rfl, hg⟩, ht⟩, hS.F ht⟩) hS.2.2 d_J_jointOf_35))
def lsN (k w : Nat) : Nat := if k = 0 then 2 else if k = 1 then 1 else if k = 2 then 2 * w else 3
set_option maxHeartbeats 4000000 in
set_option maxRecDepth 100000 in
theorem p_J_slicesOf (l : Launch) (g : gT) (z : Nat) (H0 : Heap) (sz w : Nat) : Met l y_J_slicesOf w_J_slicesOf ({ frames := 0, cells := 0, slots := 0, locals := 0 }) (va_Pc [.int (nI (sz)), .int (nI (w))] (pB g z H0 (sz < 2 ^ 30 ∧ 1 ≤ w ∧ w ≤ 1000))) (qI (nI ((sz + w - 1) / w)) H0) 0 0 nA := by
  refine Met.ofW (cc := c_J_slicesOf) (maxL := 2) (ret := (some .int)) (by decide) rfl ?_
  intro p e s m args below meth c s₁ B hml hv
  obtain ⟨rfl, hH0, ha, hs, hw, hw2⟩ := hv
  have hx := B.exec
  have hb := B.bytes
  have hr := B.returns
  have htB : ∀ w ∈ tB, w.before _ s = true := fun w h => atoms_spec (ws := w_J_slicesOf) B.pre w (List.mem_cons_of_mem _ h)
  have hown : s.vm.findClass "JointSolids" = some m.cls := findClass_of_methodNamed B.named
  have hlocks := B.notSynchronized
  subst hH0
  have hz : ∀ q, nA q → z ≤ q := nA_z
  have hS : va_S nA s.heap s.heap [] := va_S.rf
  have hl := lv_entry ([.int (nI (sz)), .int (nI (w))]) (n := 2) (Nat.le_of_ble_eq_true rfl)
  rw [lg_entry_eq]
  generalize (lg_sl ([.int (nI (sz)), .int (nI (w))]) ++ List.replicate (2 - (lg_sl ([.int (nI (sz)), .int (nI (w))])).length) Slot.unset).toArray = ls at hl ⊢
  have hl : lv_has ls 2 [(0, .int (nI (sz))), (1, .int (nI (w)))] := hl
  refine lv_iload_n hx hb d_J_slicesOf_0 rfl (lv_at hl 1 rfl) ?_
  refine lv_iconst (v := (nI (1))) hx hb d_J_slicesOf_1 (by decide) ?_
  refine jv_icmp_ge (tgt := 9) hx hb (by omega) (by omega) d_J_slicesOf_2 (by decide) (fun c_1 => ?_) (fun c_1 => absurd c_1 (by omega))
  refine lv_iload_n hx hb d_J_slicesOf_9 rfl (lv_at hl 0 rfl) ?_
  refine lv_iload_n hx hb d_J_slicesOf_10 rfl (lv_at hl 1 rfl) ?_
  refine jv_iadd hx hb d_J_slicesOf_11 ?_
  refine lv_iconst (v := (nI (1))) hx hb d_J_slicesOf_12 (by decide) ?_
  refine jv_isub hx hb (by omega) d_J_slicesOf_13 ?_
  refine lv_iload_n hx hb d_J_slicesOf_14 rfl (lv_at hl 1 rfl) ?_
  refine jv_idiv hx hb (by omega) (by omega) (by omega) d_J_slicesOf_15 ?_
  exact W.iret (v := (nI (((sz + w) - 1) / w))) hx hb hr (fun t ht hW => ⟨⟨(nI (((sz + w) - 1) / w)), (), rfl, rfl, ht⟩, hS.F ht⟩) hS.2.2 d_J_slicesOf_16
set_option maxHeartbeats 4000000 in
set_option maxRecDepth 100000 in
theorem p_J_leastSize (l : Launch) (g : gT) (z : Nat) (H0 : Heap) (k w : Nat) : Met l y_J_leastSize w_J_leastSize ({ frames := 0, cells := 0, slots := 0, locals := 0 }) (va_Pc [.int (nI (k)), .int (nI (w))] (pB g z H0 (k < 5))) (qI (nI (lsN k w)) H0) 0 0 nA := by
  refine Met.ofW (cc := c_J_leastSize) (maxL := 2) (ret := (some .int)) (by decide) rfl ?_
  intro p e s m args below meth c s₁ B hml hv
  obtain ⟨rfl, hH0, ha, hk⟩ := hv
  have hx := B.exec
  have hb := B.bytes
  have hr := B.returns
  have htB : ∀ w ∈ tB, w.before _ s = true := fun w h => atoms_spec (ws := w_J_leastSize) B.pre w (List.mem_cons_of_mem _ h)
  have hown : s.vm.findClass "JointSolids" = some m.cls := findClass_of_methodNamed B.named
  have hlocks := B.notSynchronized
  subst hH0
  have hz : ∀ q, nA q → z ≤ q := nA_z
  have hS : va_S nA s.heap s.heap [] := va_S.rf
  have hl := lv_entry ([.int (nI (k)), .int (nI (w))]) (n := 2) (Nat.le_of_ble_eq_true rfl)
  rw [lg_entry_eq]
  generalize (lg_sl ([.int (nI (k)), .int (nI (w))]) ++ List.replicate (2 - (lg_sl ([.int (nI (k)), .int (nI (w))])).length) Slot.unset).toArray = ls at hl ⊢
  have hl : lv_has ls 2 [(0, .int (nI (k))), (1, .int (nI (w)))] := hl
  refine lv_iload_n hx hb d_J_leastSize_0 rfl (lv_at hl 0 rfl) ?_
  rcases (show k = 0 ∨ k = 1 ∨ k = 2 ∨ k = 3 ∨ k = 4 by omega) with rfl | rfl | rfl | rfl | rfl
  · refine lv_tableIn (off := 27) (tgt := 28) hx hb d_J_leastSize_1 (by decide) (by decide) rfl (by decide) ?_
    refine lv_iconst (v := (nI (2))) hx hb d_J_leastSize_28 (by decide) ?_
    exact W.iret (v := (nI (2))) hx hb hr (fun t ht hW => ⟨⟨(nI (2)), (), rfl, rfl, ht⟩, hS.F ht⟩) hS.2.2 d_J_leastSize_29
  · refine lv_tableIn (off := 29) (tgt := 30) hx hb d_J_leastSize_1 (by decide) (by decide) rfl (by decide) ?_
    refine lv_iconst (v := (nI (1))) hx hb d_J_leastSize_30 (by decide) ?_
    exact W.iret (v := (nI (1))) hx hb hr (fun t ht hW => ⟨⟨(nI (1)), (), rfl, rfl, ht⟩, hS.F ht⟩) hS.2.2 d_J_leastSize_31
  · refine lv_tableIn (off := 31) (tgt := 32) hx hb d_J_leastSize_1 (by decide) (by decide) rfl (by decide) ?_
    refine lv_iconst (v := (nI (2))) hx hb d_J_leastSize_32 (by decide) ?_
    refine lv_iload_n hx hb d_J_leastSize_33 rfl (lv_at hl 1 rfl) ?_
    refine jv_imul hx hb d_J_leastSize_34 ?_
    exact W.iret (v := (nI (2 * w))) hx hb hr (fun t ht hW => ⟨⟨(nI (2 * w)), (), rfl, rfl, ht⟩, hS.F ht⟩) hS.2.2 d_J_leastSize_35
  · refine lv_tableOut (tgt := 36) hx hb d_J_leastSize_1 (by decide) (by decide) ?_
    refine lv_iconst (v := (nI (3))) hx hb d_J_leastSize_36 (by decide) ?_
    exact W.iret (v := (nI (3))) hx hb hr (fun t ht hW => ⟨⟨(nI (3)), (), rfl, rfl, ht⟩, hS.F ht⟩) hS.2.2 d_J_leastSize_37
  · refine lv_tableOut (tgt := 36) hx hb d_J_leastSize_1 (by decide) (by decide) ?_
    refine lv_iconst (v := (nI (3))) hx hb d_J_leastSize_36 (by decide) ?_
    exact W.iret (v := (nI (3))) hx hb hr (fun t ht hW => ⟨⟨(nI (3)), (), rfl, rfl, ht⟩, hS.F ht⟩) hS.2.2 d_J_leastSize_37
set_option maxHeartbeats 4000000 in
set_option maxRecDepth 100000 in
theorem p_M_needs (l : Launch) (g : gT) (z : Nat) (H0 : Heap) (k w : Nat) : Met l y_M_needs w_M_needs ({ frames := 0, cells := 0, slots := 0, locals := 0 }) (va_Pc [.int (nI (k)), .int (nI (w))] (pB g z H0 (k < 5))) (qI (nI (lsN k w)) H0) 0 0 nA := by
  refine Met.ofW (cc := c_M_needs) (maxL := 2) (ret := (some .int)) (by decide) rfl ?_
  intro p e s m args below meth c s₁ B hml hv
  obtain ⟨rfl, hH0, ha, hk⟩ := hv
  have hx := B.exec
  have hb := B.bytes
  have hr := B.returns
  have htB : ∀ w ∈ tB, w.before _ s = true := fun w h => atoms_spec (ws := w_M_needs) B.pre w (List.mem_cons_of_mem _ h)
  have hown : s.vm.findClass "JointSolidsModel" = some m.cls := findClass_of_methodNamed B.named
  have hlocks := B.notSynchronized
  subst hH0
  have hz : ∀ q, nA q → z ≤ q := nA_z
  have hS : va_S nA s.heap s.heap [] := va_S.rf
  have hl := lv_entry ([.int (nI (k)), .int (nI (w))]) (n := 2) (Nat.le_of_ble_eq_true rfl)
  rw [lg_entry_eq]
  generalize (lg_sl ([.int (nI (k)), .int (nI (w))]) ++ List.replicate (2 - (lg_sl ([.int (nI (k)), .int (nI (w))])).length) Slot.unset).toArray = ls at hl ⊢
  have hl : lv_has ls 2 [(0, .int (nI (k))), (1, .int (nI (w)))] := hl
  rcases (show k = 0 ∨ k = 1 ∨ k = 2 ∨ k = 3 ∨ k = 4 by omega) with rfl | rfl | rfl | rfl | rfl
  · refine lv_iload_n hx hb d_M_needs_0 rfl (lv_at hl 0 rfl) ?_
    refine lv_if_ne (tgt := 8) hx hb d_M_needs_1 (by decide) (fun h => absurd h (by decide)) (fun _ => ?_)
    refine lv_iconst (v := (nI (2))) hx hb d_M_needs_4 (by decide) ?_
    refine lv_goto (tgt := 29) hx hb d_M_needs_5 (by decide) ?_
    exact W.iret (v := (nI (2))) hx hb hr (fun t ht hW => ⟨⟨(nI (2)), (), rfl, rfl, ht⟩, hS.F ht⟩) hS.2.2 d_M_needs_29
  · refine lv_iload_n hx hb d_M_needs_0 rfl (lv_at hl 0 rfl) ?_
    refine lv_if_ne (tgt := 8) hx hb d_M_needs_1 (by decide) (fun _ => ?_) (fun h => absurd h (by decide))
    refine lv_iload_n hx hb d_M_needs_8 rfl (lv_at hl 0 rfl) ?_
    refine lv_iconst (v := (nI (1))) hx hb d_M_needs_9 (by decide) ?_
    refine jv_icmp_ne (tgt := 17) hx hb (by omega) (by omega) d_M_needs_10 (by decide) (fun h => absurd h (by decide)) (fun _ => ?_)
    refine lv_iconst (v := (nI (1))) hx hb d_M_needs_13 (by decide) ?_
    refine lv_goto (tgt := 29) hx hb d_M_needs_14 (by decide) ?_
    exact W.iret (v := (nI (1))) hx hb hr (fun t ht hW => ⟨⟨(nI (1)), (), rfl, rfl, ht⟩, hS.F ht⟩) hS.2.2 d_M_needs_29
  · refine lv_iload_n hx hb d_M_needs_0 rfl (lv_at hl 0 rfl) ?_
    refine lv_if_ne (tgt := 8) hx hb d_M_needs_1 (by decide) (fun _ => ?_) (fun h => absurd h (by decide))
    refine lv_iload_n hx hb d_M_needs_8 rfl (lv_at hl 0 rfl) ?_
    refine lv_iconst (v := (nI (1))) hx hb d_M_needs_9 (by decide) ?_
    refine jv_icmp_ne (tgt := 17) hx hb (by omega) (by omega) d_M_needs_10 (by decide) (fun _ => ?_) (fun h => absurd h (by decide))
    refine lv_iload_n hx hb d_M_needs_17 rfl (lv_at hl 0 rfl) ?_
    refine lv_iconst (v := (nI (2))) hx hb d_M_needs_18 (by decide) ?_
    refine jv_icmp_ne (tgt := 28) hx hb (by omega) (by omega) d_M_needs_19 (by decide) (fun h => absurd h (by decide)) (fun _ => ?_)
    refine lv_iconst (v := (nI (2))) hx hb d_M_needs_22 (by decide) ?_
    refine lv_iload_n hx hb d_M_needs_23 rfl (lv_at hl 1 rfl) ?_
    refine jv_imul hx hb d_M_needs_24 ?_
    refine lv_goto (tgt := 29) hx hb d_M_needs_25 (by decide) ?_
    exact W.iret (v := (nI (2 * w))) hx hb hr (fun t ht hW => ⟨⟨(nI (2 * w)), (), rfl, rfl, ht⟩, hS.F ht⟩) hS.2.2 d_M_needs_29
  · refine lv_iload_n hx hb d_M_needs_0 rfl (lv_at hl 0 rfl) ?_
    refine lv_if_ne (tgt := 8) hx hb d_M_needs_1 (by decide) (fun _ => ?_) (fun h => absurd h (by decide))
    refine lv_iload_n hx hb d_M_needs_8 rfl (lv_at hl 0 rfl) ?_
    refine lv_iconst (v := (nI (1))) hx hb d_M_needs_9 (by decide) ?_
    refine jv_icmp_ne (tgt := 17) hx hb (by omega) (by omega) d_M_needs_10 (by decide) (fun _ => ?_) (fun h => absurd h (by decide))
    refine lv_iload_n hx hb d_M_needs_17 rfl (lv_at hl 0 rfl) ?_
    refine lv_iconst (v := (nI (2))) hx hb d_M_needs_18 (by decide) ?_
    refine jv_icmp_ne (tgt := 28) hx hb (by omega) (by omega) d_M_needs_19 (by decide) (fun _ => ?_) (fun h => absurd h (by decide))
    refine lv_iconst (v := (nI (3))) hx hb d_M_needs_28 (by decide) ?_
    exact W.iret (v := (nI (3))) hx hb hr (fun t ht hW => ⟨⟨(nI (3)), (), rfl, rfl, ht⟩, hS.F ht⟩) hS.2.2 d_M_needs_29
  · refine lv_iload_n hx hb d_M_needs_0 rfl (lv_at hl 0 rfl) ?_
    refine lv_if_ne (tgt := 8) hx hb d_M_needs_1 (by decide) (fun _ => ?_) (fun h => absurd h (by decide))
    refine lv_iload_n hx hb d_M_needs_8 rfl (lv_at hl 0 rfl) ?_
    refine lv_iconst (v := (nI (1))) hx hb d_M_needs_9 (by decide) ?_
    refine jv_icmp_ne (tgt := 17) hx hb (by omega) (by omega) d_M_needs_10 (by decide) (fun _ => ?_) (fun h => absurd h (by decide))
    refine lv_iload_n hx hb d_M_needs_17 rfl (lv_at hl 0 rfl) ?_
    refine lv_iconst (v := (nI (2))) hx hb d_M_needs_18 (by decide) ?_
    refine jv_icmp_ne (tgt := 28) hx hb (by omega) (by omega) d_M_needs_19 (by decide) (fun _ => ?_) (fun h => absurd h (by decide))
    refine lv_iconst (v := (nI (3))) hx hb d_M_needs_28 (by decide) ?_
    exact W.iret (v := (nI (3))) hx hb hr (fun t ht hW => ⟨⟨(nI (3)), (), rfl, rfl, ht⟩, hS.F ht⟩) hS.2.2 d_M_needs_29
