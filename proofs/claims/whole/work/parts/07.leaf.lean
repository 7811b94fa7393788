theorem more_t {a b : Int32} (h : a ≤ b) : b = mxI a b := by
  by_cases q : a < b
  · exact (if_pos q).symm
  · have e : a = b := Int32.le_antisymm h (Int32.not_lt.mp q)
    subst e; exact (if_neg q).symm
theorem more_f {a b : Int32} (h : ¬ a ≤ b) : a = mxI a b := (if_neg (fun q => h (Int32.le_of_lt q))).symm
theorem less_t {a b : Int32} (h : b ≤ a) : b = mnI a b := by
  by_cases q : b < a
  · exact (if_pos q).symm
  · have e : b = a := Int32.le_antisymm h (Int32.not_lt.mp q)
    subst e; exact (if_neg q).symm
theorem less_f {a b : Int32} (h : ¬ b ≤ a) : a = mnI a b := (if_neg (fun q => h (Int32.le_of_lt q))).symm
/-- how long two boxes run together along an axis -/
def lenS (f : Nat → Int32) (i : Nat) (h : Nat → Int32) (j k : Nat) : Int32 := mnI (f ((i + k) + 3)) (h ((j + k) + 3)) - mxI (f (i + k)) (h (j + k))
/-- the volume of what two boxes have in common -/
def volS (f : Nat → Int32) (i : Nat) (h : Nat → Int32) (j : Nat) : Int64 := ((1 * (mxI (nI 0) (lenS f i h j 0)).toInt64) * (mxI (nI 0) (lenS f i h j 1)).toInt64) * (mxI (nI 0) (lenS f i h j 2)).toInt64
/-- whether v is out of a .. b -/
abbrev outI (v a b : Int32) : Prop := v < a ∨ b < v
set_option maxHeartbeats 4000000 in
set_option maxRecDepth 100000 in
theorem p_M_isIn (l : Launch) (g : gT) (z : Nat) (H0 : Heap) (v a b : Int32) : Met l y_M_isIn w_M_isIn ({ frames := 0, cells := 0, slots := 0, locals := 0 }) (va_Pc [.int (v), .int (a), .int (b)] (pB g z H0 (True))) (qI (if outI v a b then nI 0 else nI 1) H0) 0 0 nA := by
  refine Met.ofW (cc := c_M_isIn) (maxL := 3) (ret := (some .boolean)) (by decide) rfl ?_
  intro p e s m args below meth c s₁ B hml hv
  obtain ⟨rfl, hH0, ha, -⟩ := hv
  have hx := B.exec
  have hb := B.bytes
  have hr := B.returns
  have htB : ∀ w ∈ tB, w.before _ s = true := fun w h => atoms_spec (ws := w_M_isIn) B.pre w (List.mem_cons_of_mem _ h)
  have hown : s.vm.findClass "JointSolidsModel" = some m.cls := findClass_of_methodNamed B.named
  have hlocks := B.notSynchronized
  subst hH0
  have hz : ∀ q, nA q → z ≤ q := nA_z
  have hS : va_S nA s.heap s.heap [] := va_S.rf
  have hl := lv_entry ([.int (v), .int (a), .int (b)]) (n := 3) (Nat.le_of_ble_eq_true rfl)
  rw [lg_entry_eq]
  generalize (lg_sl ([.int (v), .int (a), .int (b)]) ++ List.replicate (3 - (lg_sl ([.int (v), .int (a), .int (b)])).length) Slot.unset).toArray = ls at hl ⊢
  have hl : lv_has ls 3 [(0, .int (v)), (1, .int (a)), (2, .int (b))] := hl
  refine lv_iload_n hx hb d_M_isIn_0 rfl (lv_at hl 0 rfl) ?_
  refine lv_iload_n hx hb d_M_isIn_1 rfl (lv_at hl 1 rfl) ?_
  refine lv_icmp_lt (tgt := 14) hx hb d_M_isIn_2 (by decide) (fun c_1 => ?_) (fun c_1 => ?_)
  · refine lv_iconst (v := (nI (0))) hx hb d_M_isIn_14 (by decide) ?_
    exact W.zret (v := (nI (0))) hx hb hr (by decide) (fun t ht hW => ⟨⟨(nI (0)), (), rfl, (if_pos (Or.inl c_1)).symm, ht⟩, hS.F ht⟩) hS.2.2 d_M_isIn_15
  · refine lv_iload_n hx hb d_M_isIn_5 rfl (lv_at hl 0 rfl) ?_
    refine lv_iload_n hx hb d_M_isIn_6 rfl (lv_at hl 2 rfl) ?_
    refine lv_icmp_gt (tgt := 14) hx hb d_M_isIn_7 (by decide) (fun c_2 => ?_) (fun c_2 => ?_)
    · refine lv_iconst (v := (nI (0))) hx hb d_M_isIn_14 (by decide) ?_
      exact W.zret (v := (nI (0))) hx hb hr (by decide) (fun t ht hW => ⟨⟨(nI (0)), (), rfl, (if_pos (Or.inr c_2)).symm, ht⟩, hS.F ht⟩) hS.2.2 d_M_isIn_15
    · refine lv_iconst (v := (nI (1))) hx hb d_M_isIn_10 (by decide) ?_
      refine lv_goto (tgt := 15) hx hb d_M_isIn_11 (by decide) ?_
      exact W.zret (v := (nI (1))) hx hb hr (by decide) (fun t ht hW => ⟨⟨(nI (1)), (), rfl, (if_neg (fun q => q.elim c_1 c_2)).symm, ht⟩, hS.F ht⟩) hS.2.2 d_M_isIn_15
set_option maxHeartbeats 4000000 in
set_option maxRecDepth 100000 in
theorem p_M_more (l : Launch) (g : gT) (z : Nat) (H0 : Heap) (a b : Int32) : Met l y_M_more w_M_more ({ frames := 0, cells := 0, slots := 0, locals := 0 }) (va_Pc [.int (a), .int (b)] (pB g z H0 (True))) (qI (mxI a b) H0) 0 0 nA := by
  refine Met.ofW (cc := c_M_more) (maxL := 2) (ret := (some .int)) (by decide) rfl ?_
  intro p e s m args below meth c s₁ B hml hv
  obtain ⟨rfl, hH0, ha, -⟩ := hv
  have hx := B.exec
  have hb := B.bytes
  have hr := B.returns
  have htB : ∀ w ∈ tB, w.before _ s = true := fun w h => atoms_spec (ws := w_M_more) B.pre w (List.mem_cons_of_mem _ h)
  have hown : s.vm.findClass "JointSolidsModel" = some m.cls := findClass_of_methodNamed B.named
  have hlocks := B.notSynchronized
  subst hH0
  have hz : ∀ q, nA q → z ≤ q := nA_z
  have hS : va_S nA s.heap s.heap [] := va_S.rf
  have hl := lv_entry ([.int (a), .int (b)]) (n := 2) (Nat.le_of_ble_eq_true rfl)
  rw [lg_entry_eq]
  generalize (lg_sl ([.int (a), .int (b)]) ++ List.replicate (2 - (lg_sl ([.int (a), .int (b)])).length) Slot.unset).toArray = ls at hl ⊢
  have hl : lv_has ls 2 [(0, .int (a)), (1, .int (b))] := hl
  refine lv_iload_n hx hb d_M_more_0 rfl (lv_at hl 0 rfl) ?_
  refine lv_iload_n hx hb d_M_more_1 rfl (lv_at hl 1 rfl) ?_
  refine lv_icmp_le (tgt := 9) hx hb d_M_more_2 (by decide) (fun c_1 => ?_) (fun c_1 => ?_)
  · refine lv_iload_n hx hb d_M_more_9 rfl (lv_at hl 1 rfl) ?_
    exact W.iret (v := (b)) hx hb hr (fun t ht hW => ⟨⟨(b), (), rfl, more_t c_1, ht⟩, hS.F ht⟩) hS.2.2 d_M_more_10
  · refine lv_iload_n hx hb d_M_more_5 rfl (lv_at hl 0 rfl) ?_
    refine lv_goto (tgt := 10) hx hb d_M_more_6 (by decide) ?_
    exact W.iret (v := (a)) hx hb hr (fun t ht hW => ⟨⟨(a), (), rfl, more_f c_1, ht⟩, hS.F ht⟩) hS.2.2 d_M_more_10
set_option maxHeartbeats 4000000 in
set_option maxRecDepth 100000 in
theorem p_M_less (l : Launch) (g : gT) (z : Nat) (H0 : Heap) (a b : Int32) : Met l y_M_less w_M_less ({ frames := 0, cells := 0, slots := 0, locals := 0 }) (va_Pc [.int (a), .int (b)] (pB g z H0 (True))) (qI (mnI a b) H0) 0 0 nA := by
  refine Met.ofW (cc := c_M_less) (maxL := 2) (ret := (some .int)) (by decide) rfl ?_
  intro p e s m args below meth c s₁ B hml hv
  obtain ⟨rfl, hH0, ha, -⟩ := hv
  have hx := B.exec
  have hb := B.bytes
  have hr := B.returns
  have htB : ∀ w ∈ tB, w.before _ s = true := fun w h => atoms_spec (ws := w_M_less) B.pre w (List.mem_cons_of_mem _ h)
  have hown : s.vm.findClass "JointSolidsModel" = some m.cls := findClass_of_methodNamed B.named
  have hlocks := B.notSynchronized
  subst hH0
  have hz : ∀ q, nA q → z ≤ q := nA_z
  have hS : va_S nA s.heap s.heap [] := va_S.rf
  have hl := lv_entry ([.int (a), .int (b)]) (n := 2) (Nat.le_of_ble_eq_true rfl)
  rw [lg_entry_eq]
  generalize (lg_sl ([.int (a), .int (b)]) ++ List.replicate (2 - (lg_sl ([.int (a), .int (b)])).length) Slot.unset).toArray = ls at hl ⊢
  have hl : lv_has ls 2 [(0, .int (a)), (1, .int (b))] := hl
  refine lv_iload_n hx hb d_M_less_0 rfl (lv_at hl 0 rfl) ?_
  refine lv_iload_n hx hb d_M_less_1 rfl (lv_at hl 1 rfl) ?_
  refine lv_icmp_ge (tgt := 9) hx hb d_M_less_2 (by decide) (fun c_1 => ?_) (fun c_1 => ?_)
  · refine lv_iload_n hx hb d_M_less_9 rfl (lv_at hl 1 rfl) ?_
    exact W.iret (v := (b)) hx hb hr (fun t ht hW => ⟨⟨(b), (), rfl, less_t c_1, ht⟩, hS.F ht⟩) hS.2.2 d_M_less_10
  · refine lv_iload_n hx hb d_M_less_5 rfl (lv_at hl 0 rfl) ?_
    refine lv_goto (tgt := 10) hx hb d_M_less_6 (by decide) ?_
    exact W.iret (v := (a)) hx hb hr (fun t ht hW => ⟨⟨(a), (), rfl, less_f c_1, ht⟩, hS.F ht⟩) hS.2.2 d_M_less_10
set_option maxHeartbeats 4000000 in
set_option maxRecDepth 100000 in
theorem p_J_lengthShared (l : Launch) (g : gT) (z : Nat) (H0 : Heap) (ap aq n n2 : Nat) (f f2 : Nat → Int32) (i j k : Nat) : Met l y_J_lengthShared w_J_lengthShared ({ frames := 1, cells := 0, slots := 0, locals := 13 }) (va_Pc [.ref ap, .int (nI (i)), .ref aq, .int (nI (j)), .int (nI (k))] (pB g z H0 (va_P g.1 cls [(ap, eI g n f), (aq, eI g n2 f2)] H0 ∧ i + k + 3 < n ∧ j + k + 3 < n2 ∧ n < 2 ^ 31 ∧ n2 < 2 ^ 31))) (qI (lenS f i f2 j k) H0) 0 0 nA := by
  refine Met.ofW (cc := c_J_lengthShared) (maxL := 7) (ret := (some .int)) (by decide) rfl ?_
  intro p e s m args below meth c s₁ B hml hv
  obtain ⟨rfl, hH0, ha, hP, hi, hj, hn, hn2⟩ := hv
  have hx := B.exec
  have hb := B.bytes
  have hr := B.returns
  have htB : ∀ w ∈ tB, w.before _ s = true := fun w h => atoms_spec (ws := w_J_lengthShared) B.pre w (List.mem_cons_of_mem _ h)
  have hown : s.vm.findClass "JointSolids" = some m.cls := findClass_of_methodNamed B.named
  have hlocks := B.notSynchronized
  subst hH0
  have hz : ∀ q, nA q → z ≤ q := nA_z
  have hS : va_S nA s.heap s.heap [] := va_S.rf
  have hl := lv_entry ([.ref ap, .int (nI (i)), .ref aq, .int (nI (j)), .int (nI (k))]) (n := 7) (Nat.le_of_ble_eq_true rfl)
  rw [lg_entry_eq]
  generalize (lg_sl ([.ref ap, .int (nI (i)), .ref aq, .int (nI (j)), .int (nI (k))]) ++ List.replicate (7 - (lg_sl ([.ref ap, .int (nI (i)), .ref aq, .int (nI (j)), .int (nI (k))])).length) Slot.unset).toArray = ls at hl ⊢
  have hl : lv_has ls 7 [(0, .ref ap), (1, .int (nI (i))), (2, .ref aq), (3, .int (nI (j))), (4, .int (nI (k)))] := hl
  refine lv_aload_n hx hb d_J_lengthShared_0 rfl (lv_at hl 0 rfl) ?_
  refine lv_iload_n hx hb d_J_lengthShared_1 rfl (lv_at hl 1 rfl) ?_
  refine lv_iload hx hb d_J_lengthShared_2 (lv_at hl 4 rfl) ?_
  refine jv_iadd hx hb d_J_lengthShared_4 ?_
  refine ja_ald (k := i + k) hx hb ha.1 hP 0 0 rfl rfl (by omega) (by omega) d_J_lengthShared_5 ?_
  refine lv_aload_n hx hb d_J_lengthShared_6 rfl (lv_at hl 2 rfl) ?_
  refine lv_iload_n hx hb d_J_lengthShared_7 rfl (lv_at hl 3 rfl) ?_
  refine lv_iload hx hb d_J_lengthShared_8 (lv_at hl 4 rfl) ?_
  refine jv_iadd hx hb d_J_lengthShared_10 ?_
  refine ja_ald (k := j + k) hx hb ha.1 hP 1 0 rfl rfl (by omega) (by omega) d_J_lengthShared_11 ?_
  refine va_mmax (own := "JointSolids") hx hb (hml.trans hl.1.symm) hown (htB _ kw_168) (htB _ kw_169) (htB _ kw_4) (htB _ kw_170) (Nat.le_of_ble_eq_true rfl) (Nat.le_of_ble_eq_true rfl) (Nat.le_of_ble_eq_true rfl) (Nat.le_of_ble_eq_true rfl) d_J_lengthShared_12 ?_
  refine lv_istore (lv' := [(5, .int (mxI (f (i + k)) (f2 (j + k)))), (0, .ref ap), (1, .int (nI (i))), (2, .ref aq), (3, .int (nI (j))), (4, .int (nI (k)))]) hx hb d_J_lengthShared_15 hl (by decide) rfl (fun ls hl => ?_)
  refine lv_aload_n hx hb d_J_lengthShared_17 rfl (lv_at hl 1 rfl) ?_
  refine lv_iload_n hx hb d_J_lengthShared_18 rfl (lv_at hl 2 rfl) ?_
  refine lv_iload hx hb d_J_lengthShared_19 (lv_at hl 5 rfl) ?_
  refine jv_iadd hx hb d_J_lengthShared_21 ?_
  refine lv_iconst (v := (nI (3))) hx hb d_J_lengthShared_22 (by decide) ?_
  refine jv_iadd hx hb d_J_lengthShared_23 ?_
  refine ja_ald (k := (i + k) + 3) hx hb ha.1 hP 0 0 rfl rfl (by omega) (by omega) d_J_lengthShared_24 ?_
  refine lv_aload_n hx hb d_J_lengthShared_25 rfl (lv_at hl 3 rfl) ?_
  refine lv_iload_n hx hb d_J_lengthShared_26 rfl (lv_at hl 4 rfl) ?_
  refine lv_iload hx hb d_J_lengthShared_27 (lv_at hl 5 rfl) ?_
  refine jv_iadd hx hb d_J_lengthShared_29 ?_
  refine lv_iconst (v := (nI (3))) hx hb d_J_lengthShared_30 (by decide) ?_
  refine jv_iadd hx hb d_J_lengthShared_31 ?_
  refine ja_ald (k := (j + k) + 3) hx hb ha.1 hP 1 0 rfl rfl (by omega) (by omega) d_J_lengthShared_32 ?_
  refine va_mmin (own := "JointSolids") hx hb (hml.trans hl.1.symm) hown (htB _ kw_171) (htB _ kw_172) (htB _ kw_4) (htB _ kw_173) (Nat.le_of_ble_eq_true rfl) (Nat.le_of_ble_eq_true rfl) (Nat.le_of_ble_eq_true rfl) (Nat.le_of_ble_eq_true rfl) d_J_lengthShared_33 ?_
  refine lv_istore (lv' := [(6, .int (mnI (f ((i + k) + 3)) (f2 ((j + k) + 3)))), (5, .int (mxI (f (i + k)) (f2 (j + k)))), (0, .ref ap), (1, .int (nI (i))), (2, .ref aq), (3, .int (nI (j))), (4, .int (nI (k)))]) hx hb d_J_lengthShared_36 hl (by decide) rfl (fun ls hl => ?_)
  refine lv_iload hx hb d_J_lengthShared_38 (lv_at hl 0 rfl) ?_
  refine lv_iload hx hb d_J_lengthShared_40 (lv_at hl 1 rfl) ?_
  refine lv_isub hx hb d_J_lengthShared_42 ?_
  exact W.iret (v := ((mnI (f ((i + k) + 3)) (f2 ((j + k) + 3))) - (mxI (f (i + k)) (f2 (j + k))))) hx hb hr (fun t ht hW => ⟨⟨((mnI (f ((i + k) + 3)) (f2 ((j + k) + 3))) - (mxI (f (i + k)) (f2 (j + k)))), (), rfl, rfl, ht⟩, hS.F ht⟩) hS.2.2 d_J_lengthShared_43
set_option maxHeartbeats 4000000 in
set_option maxRecDepth 100000 in
theorem p_J_volumeShared (l : Launch) (g : gT) (z : Nat) (H0 : Heap) (ap aq n n2 : Nat) (f f2 : Nat → Int32) (i j : Nat) : Met l y_J_volumeShared w_J_volumeShared ({ frames := 2, cells := 0, slots := 0, locals := 39 }) (va_Pc [.ref ap, .int (nI (i)), .ref aq, .int (nI (j))] (pB g z H0 (va_P g.1 cls [(ap, eI g n f), (aq, eI g n2 f2)] H0 ∧ i + 5 < n ∧ j + 5 < n2 ∧ n < 2 ^ 31 ∧ n2 < 2 ^ 31))) (qL (volS f i f2 j) H0) 0 0 nA := by
  refine Met.ofW (cc := c_J_volumeShared) (maxL := 7) (ret := (some .long)) (by decide) rfl ?_
  intro p e s m args below meth c s₁ B hml hv
  obtain ⟨rfl, hH0, ha, hP, hi, hj, hn, hn2⟩ := hv
  have hx := B.exec
  have hb := B.bytes
  have hr := B.returns
  have htB : ∀ w ∈ tB, w.before _ s = true := fun w h => atoms_spec (ws := w_J_volumeShared) B.pre w (List.mem_cons_of_mem _ h)
  have hown : s.vm.findClass "JointSolids" = some m.cls := findClass_of_methodNamed B.named
  have hlocks := B.notSynchronized
  subst hH0
  have hz : ∀ q, nA q → z ≤ q := nA_z
  have hS : va_S nA s.heap s.heap [] := va_S.rf
  have hl := lv_entry ([.ref ap, .int (nI (i)), .ref aq, .int (nI (j))]) (n := 7) (Nat.le_of_ble_eq_true rfl)
  rw [lg_entry_eq]
  generalize (lg_sl ([.ref ap, .int (nI (i)), .ref aq, .int (nI (j))]) ++ List.replicate (7 - (lg_sl ([.ref ap, .int (nI (i)), .ref aq, .int (nI (j))])).length) Slot.unset).toArray = ls at hl ⊢
  have hl : lv_has ls 7 [(0, .ref ap), (1, .int (nI (i))), (2, .ref aq), (3, .int (nI (j)))] := hl
  refine lv_lconst (v := 1) hx hb d_J_volumeShared_0 (by decide) ?_
  refine lv_lstore (lv' := [(4, .long (1)), (0, .ref ap), (1, .int (nI (i))), (2, .ref aq), (3, .int (nI (j)))]) hx hb d_J_volumeShared_1 hl (by decide) rfl (fun ls hl => ?_)
  refine lv_iconst (v := (nI (0))) hx hb d_J_volumeShared_3 (by decide) ?_
  refine lv_istore (lv' := [(6, .int (nI (0))), (4, .long (1)), (0, .ref ap), (1, .int (nI (i))), (2, .ref aq), (3, .int (nI (j)))]) hx hb d_J_volumeShared_4 hl (by decide) rfl (fun ls hl => ?_)
  refine lv_iload hx hb d_J_volumeShared_6 (lv_at hl 0 rfl) ?_
  refine lv_iconst (v := (nI (3))) hx hb d_J_volumeShared_8 (by decide) ?_
  refine jv_icmp_ge (tgt := 37) hx hb (by omega) (by omega) d_J_volumeShared_9 (by decide) (fun h => absurd h (by decide)) (fun _ => ?_)
  refine lv_lload hx hb d_J_volumeShared_12 (lv_at hl 1 rfl) ?_
  refine lv_iconst (v := (nI (0))) hx hb d_J_volumeShared_14 (by decide) ?_
  refine lv_aload_n hx hb d_J_volumeShared_15 rfl (lv_at hl 2 rfl) ?_
  refine lv_iload_n hx hb d_J_volumeShared_16 rfl (lv_at hl 3 rfl) ?_
  refine lv_aload_n hx hb d_J_volumeShared_17 rfl (lv_at hl 4 rfl) ?_
  refine lv_iload_n hx hb d_J_volumeShared_18 rfl (lv_at hl 5 rfl) ?_
  refine lv_iload hx hb d_J_volumeShared_19 (lv_at hl 0 rfl) ?_
  refine va_calli (va_runS (As := [.ref ap, .int (nI (i)), .ref aq, .int (nI (j)), .int (nI (0))]) (rest := [.int (nI (0)), .long (1)]) ⟨hx, hb, hml, hown, htB⟩ (p_J_lengthShared l g z _ ap aq n n2 f f2 (i) (j) (0)) (va_cwS 5 htB (gS kw_165 kw_166 kw_1 g_J_lengthShared) rfl rfl rfl (by decide +kernel) ⟨by decide, by decide⟩) (pre_S hS hz ha ⟨hP, by omega, by omega, hn, hn2⟩) rfl rfl hl.1 rfl (lv_room (Nat.le_of_ble_eq_true rfl)) d_J_volumeShared_21 ⟨by decide, by decide⟩) hS (fun q _ h => h.elim) (fun q h => h.elim) (fun r_1 u t H1 locs ht hvm hw hB hz1 hk1 hS => ?_)
  obtain rfl := hB.symm.trans ht
  subst hw
  refine va_mmax (own := "JointSolids") hx hb (hml.trans hl.1.symm) hown (htB _ kw_168) (htB _ kw_169) (htB _ kw_4) (htB _ kw_170) (Nat.le_of_ble_eq_true rfl) (Nat.le_of_ble_eq_true rfl) (Nat.le_of_ble_eq_true rfl) (Nat.le_of_ble_eq_true rfl) d_J_volumeShared_24 ?_
  refine lv_i2l (v := ((mxI (nI (0)) (lenS f (i) f2 (j) (0)))).toInt64) hx hb d_J_volumeShared_27 rfl ?_
  refine lv_lmul hx hb d_J_volumeShared_28 ?_
  refine lv_lstore (lv' := [(4, .long ((1) * (((mxI (nI (0)) (lenS f (i) f2 (j) (0)))).toInt64))), (6, .int (nI (0))), (0, .ref ap), (1, .int (nI (i))), (2, .ref aq), (3, .int (nI (j)))]) hx hb d_J_volumeShared_29 hl (by decide) rfl (fun ls hl => ?_)
  refine lv_iinc (v := nI (1)) (lv' := [(6, .int (nI (1))), (4, .long ((1) * (((mxI (nI (0)) (lenS f (i) f2 (j) (0)))).toInt64))), (0, .ref ap), (1, .int (nI (i))), (2, .ref aq), (3, .int (nI (j)))]) hx hb d_J_volumeShared_31 hl (k := 1) rfl (nI_add _ 1) (by decide) rfl (fun ls hl => ?_)
  refine lv_goto (tgt := 6) hx hb d_J_volumeShared_34 (by decide) ?_
  refine lv_iload hx hb d_J_volumeShared_6 (lv_at hl 0 rfl) ?_
  refine lv_iconst (v := (nI (3))) hx hb d_J_volumeShared_8 (by decide) ?_
  refine jv_icmp_ge (tgt := 37) hx hb (by omega) (by omega) d_J_volumeShared_9 (by decide) (fun h => absurd h (by decide)) (fun _ => ?_)
  refine lv_lload hx hb d_J_volumeShared_12 (lv_at hl 1 rfl) ?_
  refine lv_iconst (v := (nI (0))) hx hb d_J_volumeShared_14 (by decide) ?_
  refine lv_aload_n hx hb d_J_volumeShared_15 rfl (lv_at hl 2 rfl) ?_
  refine lv_iload_n hx hb d_J_volumeShared_16 rfl (lv_at hl 3 rfl) ?_
  refine lv_aload_n hx hb d_J_volumeShared_17 rfl (lv_at hl 4 rfl) ?_
  refine lv_iload_n hx hb d_J_volumeShared_18 rfl (lv_at hl 5 rfl) ?_
  refine lv_iload hx hb d_J_volumeShared_19 (lv_at hl 0 rfl) ?_
  refine va_calli (va_runS (As := [.ref ap, .int (nI (i)), .ref aq, .int (nI (j)), .int (nI (1))]) (rest := [.int (nI (0)), .long ((1) * (((mxI (nI (0)) (lenS f (i) f2 (j) (0)))).toInt64))]) ⟨hx, hb, hml, hown, htB⟩ (p_J_lengthShared l g z _ ap aq n n2 f f2 (i) (j) (1)) (va_cwS 5 htB (gS kw_165 kw_166 kw_1 g_J_lengthShared) rfl rfl rfl (by decide +kernel) ⟨by decide, by decide⟩) (pre_S hS hz ha ⟨hP, by omega, by omega, hn, hn2⟩) rfl rfl hl.1 rfl (lv_room (Nat.le_of_ble_eq_true rfl)) d_J_volumeShared_21 ⟨by decide, by decide⟩) hS (fun q _ h => h.elim) (fun q h => h.elim) (fun r_2 u t H1 locs ht hvm hw hB hz1 hk1 hS => ?_)
  obtain rfl := hB.symm.trans ht
  subst hw
  refine va_mmax (own := "JointSolids") hx hb (hml.trans hl.1.symm) hown (htB _ kw_168) (htB _ kw_169) (htB _ kw_4) (htB _ kw_170) (Nat.le_of_ble_eq_true rfl) (Nat.le_of_ble_eq_true rfl) (Nat.le_of_ble_eq_true rfl) (Nat.le_of_ble_eq_true rfl) d_J_volumeShared_24 ?_
  refine lv_i2l (v := ((mxI (nI (0)) (lenS f (i) f2 (j) (1)))).toInt64) hx hb d_J_volumeShared_27 rfl ?_
  refine lv_lmul hx hb d_J_volumeShared_28 ?_
  refine lv_lstore (lv' := [(4, .long (((1) * (((mxI (nI (0)) (lenS f (i) f2 (j) (0)))).toInt64)) * (((mxI (nI (0)) (lenS f (i) f2 (j) (1)))).toInt64))), (6, .int (nI (1))), (0, .ref ap), (1, .int (nI (i))), (2, .ref aq), (3, .int (nI (j)))]) hx hb d_J_volumeShared_29 hl (by decide) rfl (fun ls hl => ?_)
  refine lv_iinc (v := nI (2)) (lv' := [(6, .int (nI (2))), (4, .long (((1) * (((mxI (nI (0)) (lenS f (i) f2 (j) (0)))).toInt64)) * (((mxI (nI (0)) (lenS f (i) f2 (j) (1)))).toInt64))), (0, .ref ap), (1, .int (nI (i))), (2, .ref aq), (3, .int (nI (j)))]) hx hb d_J_volumeShared_31 hl (k := 1) rfl (nI_add _ 1) (by decide) rfl (fun ls hl => ?_)
  refine lv_goto (tgt := 6) hx hb d_J_volumeShared_34 (by decide) ?_
  refine lv_iload hx hb d_J_volumeShared_6 (lv_at hl 0 rfl) ?_
  refine lv_iconst (v := (nI (3))) hx hb d_J_volumeShared_8 (by decide) ?_
  refine jv_icmp_ge (tgt := 37) hx hb (by omega) (by omega) d_J_volumeShared_9 (by decide) (fun h => absurd h (by decide)) (fun _ => ?_)
  refine lv_lload hx hb d_J_volumeShared_12 (lv_at hl 1 rfl) ?_
  refine lv_iconst (v := (nI (0))) hx hb d_J_volumeShared_14 (by decide) ?_
  refine lv_aload_n hx hb d_J_volumeShared_15 rfl (lv_at hl 2 rfl) ?_
  refine lv_iload_n hx hb d_J_volumeShared_16 rfl (lv_at hl 3 rfl) ?_
  refine lv_aload_n hx hb d_J_volumeShared_17 rfl (lv_at hl 4 rfl) ?_
  refine lv_iload_n hx hb d_J_volumeShared_18 rfl (lv_at hl 5 rfl) ?_
  refine lv_iload hx hb d_J_volumeShared_19 (lv_at hl 0 rfl) ?_
  refine va_calli (va_runS (As := [.ref ap, .int (nI (i)), .ref aq, .int (nI (j)), .int (nI (2))]) (rest := [.int (nI (0)), .long (((1) * (((mxI (nI (0)) (lenS f (i) f2 (j) (0)))).toInt64)) * (((mxI (nI (0)) (lenS f (i) f2 (j) (1)))).toInt64))]) ⟨hx, hb, hml, hown, htB⟩ (p_J_lengthShared l g z _ ap aq n n2 f f2 (i) (j) (2)) (va_cwS 5 htB (gS kw_165 kw_166 kw_1 g_J_lengthShared) rfl rfl rfl (by decide +kernel) ⟨by decide, by decide⟩) (pre_S hS hz ha ⟨hP, by omega, by omega, hn, hn2⟩) rfl rfl hl.1 rfl (lv_room (Nat.le_of_ble_eq_true rfl)) d_J_volumeShared_21 ⟨by decide, by decide⟩) hS (fun q _ h => h.elim) (fun q h => h.elim) (fun r_3 u t H1 locs ht hvm hw hB hz1 hk1 hS => ?_)
  obtain rfl := hB.symm.trans ht
  subst hw
  refine va_mmax (own := "JointSolids") hx hb (hml.trans hl.1.symm) hown (htB _ kw_168) (htB _ kw_169) (htB _ kw_4) (htB _ kw_170) (Nat.le_of_ble_eq_true rfl) (Nat.le_of_ble_eq_true rfl) (Nat.le_of_ble_eq_true rfl) (Nat.le_of_ble_eq_true rfl) d_J_volumeShared_24 ?_
  refine lv_i2l (v := ((mxI (nI (0)) (lenS f (i) f2 (j) (2)))).toInt64) hx hb d_J_volumeShared_27 rfl ?_
  refine lv_lmul hx hb d_J_volumeShared_28 ?_
  refine lv_lstore (lv' := [(4, .long ((((1) * (((mxI (nI (0)) (lenS f (i) f2 (j) (0)))).toInt64)) * (((mxI (nI (0)) (lenS f (i) f2 (j) (1)))).toInt64)) * (((mxI (nI (0)) (lenS f (i) f2 (j) (2)))).toInt64))), (6, .int (nI (2))), (0, .ref ap), (1, .int (nI (i))), (2, .ref aq), (3, .int (nI (j)))]) hx hb d_J_volumeShared_29 hl (by decide) rfl (fun ls hl => ?_)
  refine lv_iinc (v := nI (3)) (lv' := [(6, .int (nI (3))), (4, .long ((((1) * (((mxI (nI (0)) (lenS f (i) f2 (j) (0)))).toInt64)) * (((mxI (nI (0)) (lenS f (i) f2 (j) (1)))).toInt64)) * (((mxI (nI (0)) (lenS f (i) f2 (j) (2)))).toInt64))), (0, .ref ap), (1, .int (nI (i))), (2, .ref aq), (3, .int (nI (j)))]) hx hb d_J_volumeShared_31 hl (k := 1) rfl (nI_add _ 1) (by decide) rfl (fun ls hl => ?_)
  refine lv_goto (tgt := 6) hx hb d_J_volumeShared_34 (by decide) ?_
  refine lv_iload hx hb d_J_volumeShared_6 (lv_at hl 0 rfl) ?_
  refine lv_iconst (v := (nI (3))) hx hb d_J_volumeShared_8 (by decide) ?_
  refine jv_icmp_ge (tgt := 37) hx hb (by omega) (by omega) d_J_volumeShared_9 (by decide) (fun _ => ?_) (fun h => absurd h (by decide))
  refine lv_lload hx hb d_J_volumeShared_37 (lv_at hl 1 rfl) ?_
  exact W.lret (v := ((((1) * (((mxI (nI (0)) (lenS f (i) f2 (j) (0)))).toInt64)) * (((mxI (nI (0)) (lenS f (i) f2 (j) (1)))).toInt64)) * (((mxI (nI (0)) (lenS f (i) f2 (j) (2)))).toInt64))) hx hb hr (fun t ht hW => ⟨⟨((((1) * (((mxI (nI (0)) (lenS f (i) f2 (j) (0)))).toInt64)) * (((mxI (nI (0)) (lenS f (i) f2 (j) (1)))).toInt64)) * (((mxI (nI (0)) (lenS f (i) f2 (j) (2)))).toInt64)), (), rfl, rfl, ht⟩, hS.F ht⟩) hS.2.2 d_J_volumeShared_39
