/-- no such part, of n parts -/
abbrev noP (v : Int32) (n : Nat) : Prop := v < 0 ∨ ¬ v < nI n
theorem noP_not {v : Int32} {n : Nat} (hn : n < 2 ^ 31) (h : ¬ noP v n) : ∃ j : Nat, j < n ∧ v = nI j := by
  have h1 : ¬ v < 0 := fun q => h (Or.inl q)
  have h2 : v < nI n := Classical.byContradiction fun q => h (Or.inr q)
  rcases pk_ix v hn with q | q | q
  · exact absurd q h1
  · exact absurd h2 (Int32.not_lt.mpr q)
  · exact q
theorem noP_in {j n : Nat} (h : j < n) (hn : n < 2 ^ 31) : ¬ noP (nI j) n := fun q => q.elim (nI_pos (by omega)) (fun q => q (nI_lt h hn))
set_option maxHeartbeats 4000000 in
set_option maxRecDepth 100000 in
theorem p_M_noPart (l : Launch) (g : gT) (z : Nat) (H0 : Heap) (h : Nat) (fs : List Value) (k : Nat) (v : Int32) : Met l y_M_noPart w_M_noPart ({ frames := 0, cells := 0, slots := 0, locals := 0 }) (va_Pc [.ref h, .int (v)] (pB g z H0 (va_P g.1 cls [(h, .inr (3, fs))] H0 ∧ fs[1]? = some (.int (nI k))))) (qI (if noP v k then nI 1 else nI 0) H0) 0 0 nA := by
  refine Met.ofW (cc := c_M_noPart) (maxL := 2) (ret := (some .boolean)) (by decide) rfl ?_
  intro p e s m args below meth c s₁ B hml hv
  obtain ⟨rfl, hH0, ha, hP, hf⟩ := hv
  have hx := B.exec
  have hb := B.bytes
  have hr := B.returns
  have htB : ∀ w ∈ tB, w.before _ s = true := fun w h => atoms_spec (ws := w_M_noPart) B.pre w (List.mem_cons_of_mem _ h)
  have hown : s.vm.findClass "JointSolidsModel" = some m.cls := findClass_of_methodNamed B.named
  have hlocks := B.notSynchronized
  subst hH0
  have hz : ∀ q, nA q → z ≤ q := nA_z
  have hS : va_S nA s.heap s.heap [] := va_S.rf
  have hl := lv_entry ([.ref h, .int (v)]) (n := 2) (Nat.le_of_ble_eq_true rfl)
  rw [lg_entry_eq]
  generalize (lg_sl ([.ref h, .int (v)]) ++ List.replicate (2 - (lg_sl ([.ref h, .int (v)])).length) Slot.unset).toArray = ls at hl ⊢
  have hl : lv_has ls 2 [(0, .ref h), (1, .int (v))] := hl
  refine lv_iload_n hx hb d_M_noPart_0 rfl (lv_at hl 1 rfl) ?_
  refine lv_if_lt (tgt := 12) hx hb d_M_noPart_1 (by decide) (fun c_1 => ?_) (fun c_1 => ?_)
  · refine lv_iconst (v := (nI (1))) hx hb d_M_noPart_12 (by decide) ?_
    refine lv_goto (tgt := 17) hx hb d_M_noPart_13 (by decide) ?_
    exact W.zret (v := (nI (1))) hx hb hr (by decide) (fun t ht hW => ⟨⟨(nI (1)), (), rfl, (if_pos (Or.inl c_1)).symm, ht⟩, hS.F ht⟩) hS.2.2 d_M_noPart_17
  · refine lv_iload_n hx hb d_M_noPart_4 rfl (lv_at hl 1 rfl) ?_
    refine lv_aload_n hx hb d_M_noPart_5 rfl (lv_at hl 0 rfl) ?_
    refine va_get (D := g.1) (ci := 3) (v := .int (nI (k))) (C := R_M) (T := F_M) (N := 19) hx hb htB in_M hown ha.1 hP 0 rfl rfl 1 (by decide) (htB _ kw_443) (fun _ h9 => h9) hf d_M_noPart_6 ?_
    refine lv_icmp_lt (tgt := 16) hx hb d_M_noPart_9 (by decide) (fun c_2 => ?_) (fun c_2 => ?_)
    · refine lv_iconst (v := (nI (0))) hx hb d_M_noPart_16 (by decide) ?_
      exact W.zret (v := (nI (0))) hx hb hr (by decide) (fun t ht hW => ⟨⟨(nI (0)), (), rfl, (if_neg (fun q => q.elim c_1 (fun q => q c_2))).symm, ht⟩, hS.F ht⟩) hS.2.2 d_M_noPart_17
    · refine lv_iconst (v := (nI (1))) hx hb d_M_noPart_12 (by decide) ?_
      refine lv_goto (tgt := 17) hx hb d_M_noPart_13 (by decide) ?_
      exact W.zret (v := (nI (1))) hx hb hr (by decide) (fun t ht hW => ⟨⟨(nI (1)), (), rfl, (if_pos (Or.inr c_2)).symm, ht⟩, hS.F ht⟩) hS.2.2 d_M_noPart_17
set_option maxHeartbeats 4000000 in
set_option maxRecDepth 100000 in
theorem p_M_noJoint (l : Launch) (g : gT) (z : Nat) (H0 : Heap) (h : Nat) (fs : List Value) (k : Nat) (v : Int32) : Met l y_M_noJoint w_M_noJoint ({ frames := 0, cells := 0, slots := 0, locals := 0 }) (va_Pc [.ref h, .int (v)] (pB g z H0 (va_P g.1 cls [(h, .inr (3, fs))] H0 ∧ fs[11]? = some (.int (nI k))))) (qI (if noP v k then nI 1 else nI 0) H0) 0 0 nA := by
  refine Met.ofW (cc := c_M_noJoint) (maxL := 2) (ret := (some .boolean)) (by decide) rfl ?_
  intro p e s m args below meth c s₁ B hml hv
  obtain ⟨rfl, hH0, ha, hP, hf⟩ := hv
  have hx := B.exec
  have hb := B.bytes
  have hr := B.returns
  have htB : ∀ w ∈ tB, w.before _ s = true := fun w h => atoms_spec (ws := w_M_noJoint) B.pre w (List.mem_cons_of_mem _ h)
  have hown : s.vm.findClass "JointSolidsModel" = some m.cls := findClass_of_methodNamed B.named
  have hlocks := B.notSynchronized
  subst hH0
  have hz : ∀ q, nA q → z ≤ q := nA_z
  have hS : va_S nA s.heap s.heap [] := va_S.rf
  have hl := lv_entry ([.ref h, .int (v)]) (n := 2) (Nat.le_of_ble_eq_true rfl)
  rw [lg_entry_eq]
  generalize (lg_sl ([.ref h, .int (v)]) ++ List.replicate (2 - (lg_sl ([.ref h, .int (v)])).length) Slot.unset).toArray = ls at hl ⊢
  have hl : lv_has ls 2 [(0, .ref h), (1, .int (v))] := hl
  refine lv_iload_n hx hb d_M_noJoint_0 rfl (lv_at hl 1 rfl) ?_
  refine lv_if_lt (tgt := 12) hx hb d_M_noJoint_1 (by decide) (fun c_1 => ?_) (fun c_1 => ?_)
  · refine lv_iconst (v := (nI (1))) hx hb d_M_noJoint_12 (by decide) ?_
    refine lv_goto (tgt := 17) hx hb d_M_noJoint_13 (by decide) ?_
    exact W.zret (v := (nI (1))) hx hb hr (by decide) (fun t ht hW => ⟨⟨(nI (1)), (), rfl, (if_pos (Or.inl c_1)).symm, ht⟩, hS.F ht⟩) hS.2.2 d_M_noJoint_17
  · refine lv_iload_n hx hb d_M_noJoint_4 rfl (lv_at hl 1 rfl) ?_
    refine lv_aload_n hx hb d_M_noJoint_5 rfl (lv_at hl 0 rfl) ?_
    refine va_get (D := g.1) (ci := 3) (v := .int (nI (k))) (C := R_M) (T := F_M) (N := 19) hx hb htB in_M hown ha.1 hP 0 rfl rfl 11 (by decide) (htB _ kw_453) (fun _ h9 => h9) hf d_M_noJoint_6 ?_
    refine lv_icmp_lt (tgt := 16) hx hb d_M_noJoint_9 (by decide) (fun c_2 => ?_) (fun c_2 => ?_)
    · refine lv_iconst (v := (nI (0))) hx hb d_M_noJoint_16 (by decide) ?_
      exact W.zret (v := (nI (0))) hx hb hr (by decide) (fun t ht hW => ⟨⟨(nI (0)), (), rfl, (if_neg (fun q => q.elim c_1 (fun q => q c_2))).symm, ht⟩, hS.F ht⟩) hS.2.2 d_M_noJoint_17
    · refine lv_iconst (v := (nI (1))) hx hb d_M_noJoint_12 (by decide) ?_
      refine lv_goto (tgt := 17) hx hb d_M_noJoint_13 (by decide) ?_
      exact W.zret (v := (nI (1))) hx hb hr (by decide) (fun t ht hW => ⟨⟨(nI (1)), (), rfl, (if_pos (Or.inr c_2)).symm, ht⟩, hS.F ht⟩) hS.2.2 d_M_noJoint_17
theorem va_one {D : va_G} {cl : List vw_C} {a : Nat × va_E} {H : Heap} (h1 : va_at D cl a H) : va_P D cl [a] H := fun k q hk => match k, hk with
  | 0, hk => by cases hk; exact h1
  | k + 1, hk => by simp at hk
set_option maxHeartbeats 4000000 in
set_option maxRecDepth 100000 in
theorem p_M_pair (l : Launch) (g : gT) (z : Nat) (H0 : Heap) (h : Nat) (fs : List Value) (k : Nat) (a b : Int32) : Met l y_M_pair w_M_pair ({ frames := 1, cells := 0, slots := 0, locals := 21 }) (va_Pc [.ref h, .int (a), .int (b)] (pB g z H0 (va_P g.1 cls [(h, .inr (3, fs))] H0 ∧ fs[1]? = some (.int (nI k))))) (qI (if noP a k ∨ noP b k then nI 1 else if a = b then nI 2 else nI 0) H0) 0 0 nA := by
  refine Met.ofW (cc := c_M_pair) (maxL := 3) (ret := (some .int)) (by decide) rfl ?_
  intro p e s m args below meth c s₁ B hml hv
  obtain ⟨rfl, hH0, ha, hP, hf⟩ := hv
  have hx := B.exec
  have hb := B.bytes
  have hr := B.returns
  have htB : ∀ w ∈ tB, w.before _ s = true := fun w h => atoms_spec (ws := w_M_pair) B.pre w (List.mem_cons_of_mem _ h)
  have hown : s.vm.findClass "JointSolidsModel" = some m.cls := findClass_of_methodNamed B.named
  have hlocks := B.notSynchronized
  subst hH0
  have hz : ∀ q, nA q → z ≤ q := nA_z
  have hS : va_S nA s.heap s.heap [] := va_S.rf
  have hl := lv_entry ([.ref h, .int (a), .int (b)]) (n := 3) (Nat.le_of_ble_eq_true rfl)
  rw [lg_entry_eq]
  generalize (lg_sl ([.ref h, .int (a), .int (b)]) ++ List.replicate (3 - (lg_sl ([.ref h, .int (a), .int (b)])).length) Slot.unset).toArray = ls at hl ⊢
  have hl : lv_has ls 3 [(0, .ref h), (1, .int (a)), (2, .int (b))] := hl
  refine lv_aload_n hx hb d_M_pair_0 rfl (lv_at hl 0 rfl) ?_
  refine lv_iload_n hx hb d_M_pair_1 rfl (lv_at hl 1 rfl) ?_
  refine va_calli (va_runV (As := [.int (a)]) (rest := []) ⟨hx, hb, hml, hown, htB⟩ (p_M_noPart l g z _ h (fs) (k) (a)) (cwV 1 htB (gV kw_520 kw_522 ks_1_1 kw_3 g_M_noPart) rfl rfl rfl (by decide +kernel) ⟨by decide, by decide⟩) (pre_V hS hz ha (va_recv ha.1 hP (ci := 3) (q0 := 0) rfl rfl) ⟨va_one (hP 0 _ rfl), hf⟩) rfl rfl hl.1 rfl (lv_room (Nat.le_of_ble_eq_true rfl)) d_M_pair_2 ⟨by decide, by decide⟩) hS (fun q _ h => h.elim) (fun q h => h.elim) (fun r_1 u t H1 locs ht hvm hw hB hz1 hk1 hS => ?_)
  obtain rfl := hB.symm.trans ht
  subst hw
  by_cases c_2 : noP (a) (k)
  · rw [if_pos c_2]
    refine lv_if_ne (tgt := 16) hx hb d_M_pair_5 (by decide) (fun _ => ?_) (fun h => absurd h (by decide))
    refine lv_iconst (v := (nI (1))) hx hb d_M_pair_16 (by decide) ?_
    refine lv_goto (tgt := 30) hx hb d_M_pair_17 (by decide) ?_
    exact W.iret (v := (nI (1))) hx hb hr (fun t ht hW => ⟨⟨(nI (1)), (), rfl, (if_pos (Or.inl c_2)).symm, ht⟩, hS.F ht⟩) hS.2.2 d_M_pair_30
  · rw [if_neg c_2]
    refine lv_if_ne (tgt := 16) hx hb d_M_pair_5 (by decide) (fun h => absurd h (by decide)) (fun _ => ?_)
    refine lv_aload_n hx hb d_M_pair_8 rfl (lv_at hl 0 rfl) ?_
    refine lv_iload_n hx hb d_M_pair_9 rfl (lv_at hl 2 rfl) ?_
    refine va_calli (va_runV (As := [.int (b)]) (rest := []) ⟨hx, hb, hml, hown, htB⟩ (p_M_noPart l g z _ h (fs) (k) (b)) (cwV 1 htB (gV kw_520 kw_522 ks_1_1 kw_3 g_M_noPart) rfl rfl rfl (by decide +kernel) ⟨by decide, by decide⟩) (pre_V hS hz ha (va_recv ha.1 hP (ci := 3) (q0 := 0) rfl rfl) ⟨va_one (hP 0 _ rfl), hf⟩) rfl rfl hl.1 rfl (lv_room (Nat.le_of_ble_eq_true rfl)) d_M_pair_10 ⟨by decide, by decide⟩) hS (fun q _ h => h.elim) (fun q h => h.elim) (fun r_5 u t H1 locs ht hvm hw hB hz1 hk1 hS => ?_)
    obtain rfl := hB.symm.trans ht
    subst hw
    by_cases c_6 : noP (b) (k)
    · rw [if_pos c_6]
      refine lv_if_eq (tgt := 20) hx hb d_M_pair_13 (by decide) (fun h => absurd h (by decide)) (fun _ => ?_)
      refine lv_iconst (v := (nI (1))) hx hb d_M_pair_16 (by decide) ?_
      refine lv_goto (tgt := 30) hx hb d_M_pair_17 (by decide) ?_
      exact W.iret (v := (nI (1))) hx hb hr (fun t ht hW => ⟨⟨(nI (1)), (), rfl, (if_pos (Or.inr c_6)).symm, ht⟩, hS.F ht⟩) hS.2.2 d_M_pair_30
    · rw [if_neg c_6]
      refine lv_if_eq (tgt := 20) hx hb d_M_pair_13 (by decide) (fun _ => ?_) (fun h => absurd h (by decide))
      refine lv_iload_n hx hb d_M_pair_20 rfl (lv_at hl 1 rfl) ?_
      refine lv_iload_n hx hb d_M_pair_21 rfl (lv_at hl 2 rfl) ?_
      refine lv_icmp_ne (tgt := 29) hx hb d_M_pair_22 (by decide) (fun c_9 => ?_) (fun c_9 => ?_)
      · refine lv_iconst (v := (nI (0))) hx hb d_M_pair_29 (by decide) ?_
        exact W.iret (v := (nI (0))) hx hb hr (fun t ht hW => ⟨⟨(nI (0)), (), rfl, ((if_neg (fun q => q.elim c_2 c_6)).trans (if_neg c_9)).symm, ht⟩, hS.F ht⟩) hS.2.2 d_M_pair_30
      · refine lv_iconst (v := (nI (2))) hx hb d_M_pair_25 (by decide) ?_
        refine lv_goto (tgt := 30) hx hb d_M_pair_26 (by decide) ?_
        exact W.iret (v := (nI (2))) hx hb hr (fun t ht hW => ⟨⟨(nI (2)), (), rfl, ((if_neg (fun q => q.elim c_2 c_6)).trans (if_pos c_9)).symm, ht⟩, hS.F ht⟩) hS.2.2 d_M_pair_30
def lenM (f : Nat → Int32) (c d k : Nat) : Int32 := mnI (f ((c + 3) + k)) (f ((d + 3) + k)) - mxI (f (c + k)) (f (d + k))
def spM (f : Nat → Int32) (c d k : Nat) : Int64 := if lenM f c d k < 0 then 0 else (lenM f c d k).toInt64
set_option maxHeartbeats 4000000 in
set_option maxRecDepth 100000 in
theorem p_M_span (l : Launch) (g : gT) (z : Nat) (H0 : Heap) (h : Nat) (fs : List Value) (ap : Nat) (f : Nat → Int32) (cc dd k : Nat) : Met l y_M_span w_M_span ({ frames := 1, cells := 0, slots := 0, locals := 21 }) (va_Pc [.ref h, .int (nI (cc)), .int (nI (dd)), .int (nI (k))] (pB g z H0 (va_P g.1 cls [(h, .inr (3, fs)), (ap, eI g 1152 f)] H0 ∧ fs[3]? = some (.ref ap) ∧ cc + 3 + k < 1152 ∧ dd + 3 + k < 1152))) (qL (spM f cc dd k) H0) 0 0 nA := by
  refine Met.ofW (cc := c_M_span) (maxL := 5) (ret := (some .long)) (by decide) rfl ?_
  intro p e s m args below meth c s₁ B hml hv
  obtain ⟨rfl, hH0, ha, hP, hf, h1, h2⟩ := hv
  have hx := B.exec
  have hb := B.bytes
  have hr := B.returns
  have htB : ∀ w ∈ tB, w.before _ s = true := fun w h => atoms_spec (ws := w_M_span) B.pre w (List.mem_cons_of_mem _ h)
  have hown : s.vm.findClass "JointSolidsModel" = some m.cls := findClass_of_methodNamed B.named
  have hlocks := B.notSynchronized
  subst hH0
  have hz : ∀ q, nA q → z ≤ q := nA_z
  have hS : va_S nA s.heap s.heap [] := va_S.rf
  have hl := lv_entry ([.ref h, .int (nI (cc)), .int (nI (dd)), .int (nI (k))]) (n := 5) (Nat.le_of_ble_eq_true rfl)
  rw [lg_entry_eq]
  generalize (lg_sl ([.ref h, .int (nI (cc)), .int (nI (dd)), .int (nI (k))]) ++ List.replicate (5 - (lg_sl ([.ref h, .int (nI (cc)), .int (nI (dd)), .int (nI (k))])).length) Slot.unset).toArray = ls at hl ⊢
  have hl : lv_has ls 5 [(0, .ref h), (1, .int (nI (cc))), (2, .int (nI (dd))), (3, .int (nI (k)))] := hl
  refine lv_aload_n hx hb d_M_span_0 rfl (lv_at hl 0 rfl) ?_
  refine va_get (D := g.1) (ci := 3) (v := .ref ap) (C := R_M) (T := F_M) (N := 19) hx hb htB in_M hown ha.1 hP 0 rfl rfl 3 (by decide) (htB _ kw_445) (fun _ h9 => h9) hf d_M_span_1 ?_
  refine lv_iload_n hx hb d_M_span_4 rfl (lv_at hl 1 rfl) ?_
  refine lv_iconst (v := (nI (3))) hx hb d_M_span_5 (by decide) ?_
  refine jv_iadd hx hb d_M_span_6 ?_
  refine lv_iload_n hx hb d_M_span_7 rfl (lv_at hl 3 rfl) ?_
  refine jv_iadd hx hb d_M_span_8 ?_
  refine ja_ald (k := (cc + 3) + k) hx hb ha.1 hP 1 0 rfl rfl (by omega) (by omega) d_M_span_9 ?_
  refine lv_aload_n hx hb d_M_span_10 rfl (lv_at hl 0 rfl) ?_
  refine va_get (D := g.1) (ci := 3) (v := .ref ap) (C := R_M) (T := F_M) (N := 19) hx hb htB in_M hown ha.1 hP 0 rfl rfl 3 (by decide) (htB _ kw_445) (fun _ h9 => h9) hf d_M_span_11 ?_
  refine lv_iload_n hx hb d_M_span_14 rfl (lv_at hl 2 rfl) ?_
  refine lv_iconst (v := (nI (3))) hx hb d_M_span_15 (by decide) ?_
  refine jv_iadd hx hb d_M_span_16 ?_
  refine lv_iload_n hx hb d_M_span_17 rfl (lv_at hl 3 rfl) ?_
  refine jv_iadd hx hb d_M_span_18 ?_
  refine ja_ald (k := (dd + 3) + k) hx hb ha.1 hP 1 0 rfl rfl (by omega) (by omega) d_M_span_19 ?_
  refine va_calli (va_runS (As := [.int (f ((cc + 3) + k)), .int (f ((dd + 3) + k))]) (rest := []) ⟨hx, hb, hml, hown, htB⟩ (p_M_less l g z _ (f ((cc + 3) + k)) (f ((dd + 3) + k))) (va_cwS 2 htB (gS kw_543 kw_544 kw_3 g_M_less) rfl rfl rfl (by decide +kernel) ⟨by decide, by decide⟩) (pre_S hS hz ha trivial) rfl rfl hl.1 rfl (lv_room (Nat.le_of_ble_eq_true rfl)) d_M_span_20 ⟨by decide, by decide⟩) hS (fun q _ h => h.elim) (fun q h => h.elim) (fun r_1 u t H1 locs ht hvm hw hB hz1 hk1 hS => ?_)
  obtain rfl := hB.symm.trans ht
  subst hw
  refine lv_aload_n hx hb d_M_span_23 rfl (lv_at hl 0 rfl) ?_
  refine va_get (D := g.1) (ci := 3) (v := .ref ap) (C := R_M) (T := F_M) (N := 19) hx hb htB in_M hown ha.1 hP 0 rfl rfl 3 (by decide) (htB _ kw_445) (fun _ h9 => h9) hf d_M_span_24 ?_
  refine lv_iload_n hx hb d_M_span_27 rfl (lv_at hl 1 rfl) ?_
  refine lv_iload_n hx hb d_M_span_28 rfl (lv_at hl 3 rfl) ?_
  refine jv_iadd hx hb d_M_span_29 ?_
  refine ja_ald (k := cc + k) hx hb ha.1 hP 1 0 rfl rfl (by omega) (by omega) d_M_span_30 ?_
  refine lv_aload_n hx hb d_M_span_31 rfl (lv_at hl 0 rfl) ?_
  refine va_get (D := g.1) (ci := 3) (v := .ref ap) (C := R_M) (T := F_M) (N := 19) hx hb htB in_M hown ha.1 hP 0 rfl rfl 3 (by decide) (htB _ kw_445) (fun _ h9 => h9) hf d_M_span_32 ?_
  refine lv_iload_n hx hb d_M_span_35 rfl (lv_at hl 2 rfl) ?_
  refine lv_iload_n hx hb d_M_span_36 rfl (lv_at hl 3 rfl) ?_
  refine jv_iadd hx hb d_M_span_37 ?_
  refine ja_ald (k := dd + k) hx hb ha.1 hP 1 0 rfl rfl (by omega) (by omega) d_M_span_38 ?_
  refine va_calli (va_runS (As := [.int (f (cc + k)), .int (f (dd + k))]) (rest := [.int (mnI (f ((cc + 3) + k)) (f ((dd + 3) + k)))]) ⟨hx, hb, hml, hown, htB⟩ (p_M_more l g z _ (f (cc + k)) (f (dd + k))) (va_cwS 2 htB (gS kw_540 kw_541 kw_3 g_M_more) rfl rfl rfl (by decide +kernel) ⟨by decide, by decide⟩) (pre_S hS hz ha trivial) rfl rfl hl.1 rfl (lv_room (Nat.le_of_ble_eq_true rfl)) d_M_span_39 ⟨by decide, by decide⟩) hS (fun q _ h => h.elim) (fun q h => h.elim) (fun r_2 u t H1 locs ht hvm hw hB hz1 hk1 hS => ?_)
  obtain rfl := hB.symm.trans ht
  subst hw
  refine lv_isub hx hb d_M_span_42 ?_
  refine lv_istore (lv' := [(4, .int ((mnI (f ((cc + 3) + k)) (f ((dd + 3) + k))) - (mxI (f (cc + k)) (f (dd + k))))), (0, .ref h), (1, .int (nI (cc))), (2, .int (nI (dd))), (3, .int (nI (k)))]) hx hb d_M_span_43 hl (by decide) rfl (fun ls hl => ?_)
  refine lv_iload hx hb d_M_span_45 (lv_at hl 0 rfl) ?_
  refine lv_if_ge (tgt := 54) hx hb d_M_span_47 (by decide) (fun c_3 => ?_) (fun c_3 => ?_)
  · refine lv_iload hx hb d_M_span_54 (lv_at hl 0 rfl) ?_
    refine lv_i2l (v := (((mnI (f ((cc + 3) + k)) (f ((dd + 3) + k))) - (mxI (f (cc + k)) (f (dd + k))))).toInt64) hx hb d_M_span_56 rfl ?_
    exact W.lret (v := ((((mnI (f ((cc + 3) + k)) (f ((dd + 3) + k))) - (mxI (f (cc + k)) (f (dd + k))))).toInt64)) hx hb hr (fun t ht hW => ⟨⟨((((mnI (f ((cc + 3) + k)) (f ((dd + 3) + k))) - (mxI (f (cc + k)) (f (dd + k))))).toInt64), (), rfl, (if_neg (Int32.not_lt.mpr c_3)).symm, ht⟩, hS.F ht⟩) hS.2.2 d_M_span_57
  · refine lv_lconst (v := 0) hx hb d_M_span_50 (by decide) ?_
    refine lv_goto (tgt := 57) hx hb d_M_span_51 (by decide) ?_
    exact W.lret (v := (0)) hx hb hr (fun t ht hW => ⟨⟨(0), (), rfl, (if_pos (Int32.not_le.mp c_3)).symm, ht⟩, hS.F ht⟩) hS.2.2 d_M_span_57
/-- where the p-th box of part a begins in the reference -/
abbrev oM (a p : Nat) : Nat := (144 * a) + (6 * p)
def ovM (f : Nat → Int32) (a na b nb : Nat) : Int64 := sm (fun u => sm (fun v => ((spM f (oM a u) (oM b v) 0) * (spM f (oM a u) (oM b v) 1)) * (spM f (oM a u) (oM b v) 2)) nb) na
def toK (f : Nat → Int32) (c d k : Nat) : Int64 := if f ((c + 3) + k) = f (d + k) ∨ f ((d + 3) + k) = f (c + k) then (spM f c d ((k + 1) % 3)) * (spM f c d ((k + 2) % 3)) else 0
def toM (f : Nat → Int32) (a na b nb : Nat) : Int64 := sm (fun u => sm (fun v => sm (toK f (oM a u) (oM b v)) 3) nb) na
def voM (f : Nat → Int32) (a na : Nat) : Int64 := sm (fun u => (((f (oM a u + 3) - f (oM a u)).toInt64) * ((f (oM a u + 4) - f (oM a u + 1)).toInt64)) * ((f (oM a u + 5) - f (oM a u + 2)).toInt64)) na
set_option maxHeartbeats 4000000 in
set_option maxRecDepth 100000 in
theorem p_M_overlapOf (l : Launch) (g : gT) (z : Nat) (H0 : Heap) (h : Nat) (fs : List Value) (ap am : Nat) (f mn : Nat → Int32) (a na b nb : Nat) : Met l y_M_overlapOf w_M_overlapOf ({ frames := 2, cells := 0, slots := 0, locals := 45 }) (va_Pc [.ref h, .int (nI (a)), .int (nI (b))] (pB g z H0 (va_P g.1 cls [(h, .inr (3, fs)), (ap, eI g 1152 f), (am, eI g 8 mn)] H0 ∧ fs[3]? = some (.ref ap) ∧ fs[4]? = some (.ref am) ∧ a < 8 ∧ b < 8 ∧ mn a = nI na ∧ mn b = nI nb ∧ na ≤ 24 ∧ nb ≤ 24))) (qL (ovM f a na b nb) H0) 0 0 nA := by
  refine Met.ofW (cc := c_M_overlapOf) (maxL := 9) (ret := (some .long)) (by decide) rfl ?_
  intro p e s m args below meth c s₁ B hml hv
  obtain ⟨rfl, hH0, ha, hP, hf3, hf4, ha8, hb8, hma, hmb, hna, hnb⟩ := hv
  have hx := B.exec
  have hb := B.bytes
  have hr := B.returns
  have htB : ∀ w ∈ tB, w.before _ s = true := fun w h => atoms_spec (ws := w_M_overlapOf) B.pre w (List.mem_cons_of_mem _ h)
  have hown : s.vm.findClass "JointSolidsModel" = some m.cls := findClass_of_methodNamed B.named
  have hlocks := B.notSynchronized
  subst hH0
  have hz : ∀ q, nA q → z ≤ q := nA_z
  have hS : va_S nA s.heap s.heap [] := va_S.rf
  have hl := lv_entry ([.ref h, .int (nI (a)), .int (nI (b))]) (n := 9) (Nat.le_of_ble_eq_true rfl)
  rw [lg_entry_eq]
  generalize (lg_sl ([.ref h, .int (nI (a)), .int (nI (b))]) ++ List.replicate (9 - (lg_sl ([.ref h, .int (nI (a)), .int (nI (b))])).length) Slot.unset).toArray = ls at hl ⊢
  have hl : lv_has ls 9 [(0, .ref h), (1, .int (nI (a))), (2, .int (nI (b)))] := hl
  refine lv_lconst (v := 0) hx hb d_M_overlapOf_0 (by decide) ?_
  refine lv_lstore_n (lv' := [(3, .long (0)), (0, .ref h), (1, .int (nI (a))), (2, .int (nI (b)))]) hx hb d_M_overlapOf_1 rfl hl (by decide) rfl (fun ls hl => ?_)
  refine lv_iconst (v := (nI (0))) hx hb d_M_overlapOf_2 (by decide) ?_
  refine lv_istore (lv' := [(5, .int (nI (0))), (3, .long (0)), (0, .ref h), (1, .int (nI (a))), (2, .int (nI (b)))]) hx hb d_M_overlapOf_3 hl (by decide) rfl (fun ls hl => ?_)
  obtain ⟨i, hinv, hi_i⟩ : ∃ i : Nat, lv_has ls 9 [(0, .ref h), (1, .int (nI (a))), (2, .int (nI (b))), (3, .long (sm (fun u => sm (fun v => ((spM f (oM a u) (oM b v) 0) * (spM f (oM a u) (oM b v) 1)) * (spM f (oM a u) (oM b v) 2)) nb) i)), (5, .int (nI (i)))] ∧ i ≤ na := ⟨0, lv_sub hl [2, 3, 4, 1, 0] rfl, Nat.zero_le _⟩
  obtain ⟨n_1, hn_i⟩ : ∃ n_1 : Nat, na + 1 ≤ i + n_1 := ⟨na + 1, by omega⟩
  refine W.ofL hS (fun locs hS => ?_)
  clear hl
  induction n_1 generalizing i ls locs with
  | zero => exact absurd hn_i (by omega)
  | succ n_1 ih_2 =>
    have hl := hinv
    refine lv_iload hx hb d_M_overlapOf_5 (lv_at hl 4 rfl) ?_
    refine lv_aload_n hx hb d_M_overlapOf_7 rfl (lv_at hl 0 rfl) ?_
    refine va_get (D := g.1) (ci := 3) (v := .ref am) (C := R_M) (T := F_M) (N := 19) hx hb htB in_M hown ha.1 hP 0 rfl rfl 4 (by decide) (htB _ kw_446) (fun _ h9 => h9) hf4 d_M_overlapOf_8 ?_
    refine lv_iload_n hx hb d_M_overlapOf_11 rfl (lv_at hl 1 rfl) ?_
    refine ja_ald (k := a) hx hb ha.1 hP 2 0 rfl rfl (by omega) (by omega) d_M_overlapOf_12 ?_
    rw [hma]
    refine jv_icmp_ge (tgt := 100) hx hb (by omega) (by omega) d_M_overlapOf_13 (by decide) (fun c_3 => ?_) (fun c_3 => ?_)
    · refine lv_lload_n hx hb d_M_overlapOf_100 rfl (lv_at hl 3 rfl) ?_
      exact W.lret (v := (sm (fun u => sm (fun v => ((spM f (oM a u) (oM b v) 0) * (spM f (oM a u) (oM b v) 1)) * (spM f (oM a u) (oM b v) 2)) nb) i)) hx hb hr (fun t ht hW => ⟨⟨(sm (fun u => sm (fun v => ((spM f (oM a u) (oM b v) 0) * (spM f (oM a u) (oM b v) 1)) * (spM f (oM a u) (oM b v) 2)) nb) i), (), rfl, by rw [show i = na from by omega]; rfl, ht⟩, hS.F ht⟩) hS.2.2 d_M_overlapOf_101
    · refine lv_iconst (v := (nI (0))) hx hb d_M_overlapOf_16 (by decide) ?_
      refine lv_istore (lv' := [(6, .int (nI (0))), (0, .ref h), (1, .int (nI (a))), (2, .int (nI (b))), (3, .long (sm (fun u => sm (fun v => ((spM f (oM a u) (oM b v) 0) * (spM f (oM a u) (oM b v) 1)) * (spM f (oM a u) (oM b v) 2)) nb) i)), (5, .int (nI (i)))]) hx hb d_M_overlapOf_17 hl (by decide) rfl (fun ls hl => ?_)
      rw [sm_zero (fun v => ((spM f (oM a i) (oM b v) 0) * (spM f (oM a i) (oM b v) 1)) * (spM f (oM a i) (oM b v) 2)) (sm (fun u => sm (fun v => ((spM f (oM a u) (oM b v) 0) * (spM f (oM a u) (oM b v) 1)) * (spM f (oM a u) (oM b v) 2)) nb) i)] at hl
      obtain ⟨j, hinv, hi_j⟩ : ∃ j : Nat, lv_has ls 9 [(0, .ref h), (1, .int (nI (a))), (2, .int (nI (b))), (3, .long (sm (fun u => sm (fun v => ((spM f (oM a u) (oM b v) 0) * (spM f (oM a u) (oM b v) 1)) * (spM f (oM a u) (oM b v) 2)) nb) i + sm (fun v => ((spM f (oM a i) (oM b v) 0) * (spM f (oM a i) (oM b v) 1)) * (spM f (oM a i) (oM b v) 2)) j)), (5, .int (nI (i))), (6, .int (nI (j)))] ∧ j ≤ nb := ⟨0, lv_sub hl [1, 2, 3, 4, 5, 0] rfl, Nat.zero_le _⟩
      obtain ⟨n_4, hn_j⟩ : ∃ n_4 : Nat, nb + 1 ≤ j + n_4 := ⟨nb + 1, by omega⟩
      refine W.ofL hS (fun locs hS => ?_)
      clear hl
      induction n_4 generalizing j ls locs with
      | zero => exact absurd hn_j (by omega)
      | succ n_4 ih_5 =>
        have hl := hinv
        refine lv_iload hx hb d_M_overlapOf_19 (lv_at hl 5 rfl) ?_
        refine lv_aload_n hx hb d_M_overlapOf_21 rfl (lv_at hl 0 rfl) ?_
        refine va_get (D := g.1) (ci := 3) (v := .ref am) (C := R_M) (T := F_M) (N := 19) hx hb htB in_M hown ha.1 hP 0 rfl rfl 4 (by decide) (htB _ kw_446) (fun _ h9 => h9) hf4 d_M_overlapOf_22 ?_
        refine lv_iload_n hx hb d_M_overlapOf_25 rfl (lv_at hl 2 rfl) ?_
        refine ja_ald (k := b) hx hb ha.1 hP 2 0 rfl rfl (by omega) (by omega) d_M_overlapOf_26 ?_
        rw [hmb]
        refine jv_icmp_ge (tgt := 94) hx hb (by omega) (by omega) d_M_overlapOf_27 (by decide) (fun c_6 => ?_) (fun c_6 => ?_)
        · refine lv_iinc (v := nI (i + 1)) (lv' := [(5, .int (nI (i + 1))), (0, .ref h), (1, .int (nI (a))), (2, .int (nI (b))), (3, .long (sm (fun u => sm (fun v => ((spM f (oM a u) (oM b v) 0) * (spM f (oM a u) (oM b v) 1)) * (spM f (oM a u) (oM b v) 2)) nb) i + sm (fun v => ((spM f (oM a i) (oM b v) 0) * (spM f (oM a i) (oM b v) 1)) * (spM f (oM a i) (oM b v) 2)) j)), (6, .int (nI (j)))]) hx hb d_M_overlapOf_94 hl (k := 4) rfl (nI_add _ 1) (by decide) rfl (fun ls hl => ?_)
          refine lv_goto (tgt := 5) hx hb d_M_overlapOf_97 (by decide) ?_
          rw [show j = nb from by omega] at hl
          exact ih_2 (locs := locs) (ls := ls) (i := i + 1) (hS := hS) (hinv := lv_sub (l' := [(0, .ref h), (1, .int (nI (a))), (2, .int (nI (b))), (3, .long (sm (fun u => sm (fun v => ((spM f (oM a u) (oM b v) 0) * (spM f (oM a u) (oM b v) 1)) * (spM f (oM a u) (oM b v) 2)) nb) (i + 1))), (5, .int (nI ((i + 1))))]) hl [1, 2, 3, 4, 0] rfl) (hi_i := by omega) (hn_i := by omega)
        · refine lv_sipush (v := (nI (144))) hx hb d_M_overlapOf_30 (by decide) ?_
          refine lv_iload_n hx hb d_M_overlapOf_33 rfl (lv_at hl 1 rfl) ?_
          refine jv_imul hx hb d_M_overlapOf_34 ?_
          refine lv_bipush (v := (nI (6))) hx hb d_M_overlapOf_35 (by decide) ?_
          refine lv_iload hx hb d_M_overlapOf_37 (lv_at hl 4 rfl) ?_
          refine jv_imul hx hb d_M_overlapOf_39 ?_
          refine jv_iadd hx hb d_M_overlapOf_40 ?_
          refine lv_istore (lv' := [(7, .int (nI ((144 * a) + (6 * i)))), (0, .ref h), (1, .int (nI (a))), (2, .int (nI (b))), (3, .long (sm (fun u => sm (fun v => ((spM f (oM a u) (oM b v) 0) * (spM f (oM a u) (oM b v) 1)) * (spM f (oM a u) (oM b v) 2)) nb) i + sm (fun v => ((spM f (oM a i) (oM b v) 0) * (spM f (oM a i) (oM b v) 1)) * (spM f (oM a i) (oM b v) 2)) j)), (5, .int (nI (i))), (6, .int (nI (j)))]) hx hb d_M_overlapOf_41 hl (by decide) rfl (fun ls hl => ?_)
          refine lv_sipush (v := (nI (144))) hx hb d_M_overlapOf_43 (by decide) ?_
          refine lv_iload_n hx hb d_M_overlapOf_46 rfl (lv_at hl 3 rfl) ?_
          refine jv_imul hx hb d_M_overlapOf_47 ?_
          refine lv_bipush (v := (nI (6))) hx hb d_M_overlapOf_48 (by decide) ?_
          refine lv_iload hx hb d_M_overlapOf_50 (lv_at hl 6 rfl) ?_
          refine jv_imul hx hb d_M_overlapOf_52 ?_
          refine jv_iadd hx hb d_M_overlapOf_53 ?_
          refine lv_istore (lv' := [(8, .int (nI ((144 * b) + (6 * j)))), (7, .int (nI ((144 * a) + (6 * i)))), (0, .ref h), (1, .int (nI (a))), (2, .int (nI (b))), (3, .long (sm (fun u => sm (fun v => ((spM f (oM a u) (oM b v) 0) * (spM f (oM a u) (oM b v) 1)) * (spM f (oM a u) (oM b v) 2)) nb) i + sm (fun v => ((spM f (oM a i) (oM b v) 0) * (spM f (oM a i) (oM b v) 1)) * (spM f (oM a i) (oM b v) 2)) j)), (5, .int (nI (i))), (6, .int (nI (j)))]) hx hb d_M_overlapOf_54 hl (by decide) rfl (fun ls hl => ?_)
          refine lv_lload_n hx hb d_M_overlapOf_56 rfl (lv_at hl 5 rfl) ?_
          refine lv_aload_n hx hb d_M_overlapOf_57 rfl (lv_at hl 2 rfl) ?_
          refine lv_iload hx hb d_M_overlapOf_58 (lv_at hl 1 rfl) ?_
          refine lv_iload hx hb d_M_overlapOf_60 (lv_at hl 0 rfl) ?_
          refine lv_iconst (v := (nI (0))) hx hb d_M_overlapOf_62 (by decide) ?_
          refine va_calll (va_runV (As := [.int (nI ((144 * a) + (6 * i))), .int (nI ((144 * b) + (6 * j))), .int (nI (0))]) (rest := [.long (sm (fun u => sm (fun v => ((spM f (oM a u) (oM b v) 0) * (spM f (oM a u) (oM b v) 1)) * (spM f (oM a u) (oM b v) 2)) nb) i + sm (fun v => ((spM f (oM a i) (oM b v) 0) * (spM f (oM a i) (oM b v) 1)) * (spM f (oM a i) (oM b v) 2)) j)]) ⟨hx, hb, hml, hown, htB⟩ (p_M_span l g z _ h (fs) ap (f) ((144 * a) + (6 * i)) ((144 * b) + (6 * j)) (0)) (cwV 3 htB (gV kw_601 kw_603 ks_1_13 kw_3 g_M_span) rfl rfl rfl (by decide +kernel) ⟨by decide, by decide⟩) (pre_V hS hz ha (va_recv ha.1 hP (ci := 3) (q0 := 0) rfl rfl) ⟨va_pair (hP 0 _ rfl) (hP 1 _ rfl), hf3, by omega, by omega⟩) rfl rfl hl.1 rfl (lv_room (Nat.le_of_ble_eq_true rfl)) d_M_overlapOf_63 ⟨by decide, by decide⟩) hS (fun q _ h => h.elim) (fun q h => h.elim) (fun r_7 u t H1 locs ht hvm hw hB hz1 hk1 hS => ?_)
          obtain rfl := hB.symm.trans ht
          subst hw
          refine lv_aload_n hx hb d_M_overlapOf_66 rfl (lv_at hl 2 rfl) ?_
          refine lv_iload hx hb d_M_overlapOf_67 (lv_at hl 1 rfl) ?_
          refine lv_iload hx hb d_M_overlapOf_69 (lv_at hl 0 rfl) ?_
          refine lv_iconst (v := (nI (1))) hx hb d_M_overlapOf_71 (by decide) ?_
          refine va_calll (va_runV (As := [.int (nI ((144 * a) + (6 * i))), .int (nI ((144 * b) + (6 * j))), .int (nI (1))]) (rest := [.long (spM f ((144 * a) + (6 * i)) ((144 * b) + (6 * j)) (0)), .long (sm (fun u => sm (fun v => ((spM f (oM a u) (oM b v) 0) * (spM f (oM a u) (oM b v) 1)) * (spM f (oM a u) (oM b v) 2)) nb) i + sm (fun v => ((spM f (oM a i) (oM b v) 0) * (spM f (oM a i) (oM b v) 1)) * (spM f (oM a i) (oM b v) 2)) j)]) ⟨hx, hb, hml, hown, htB⟩ (p_M_span l g z _ h (fs) ap (f) ((144 * a) + (6 * i)) ((144 * b) + (6 * j)) (1)) (cwV 3 htB (gV kw_601 kw_603 ks_1_13 kw_3 g_M_span) rfl rfl rfl (by decide +kernel) ⟨by decide, by decide⟩) (pre_V hS hz ha (va_recv ha.1 hP (ci := 3) (q0 := 0) rfl rfl) ⟨va_pair (hP 0 _ rfl) (hP 1 _ rfl), hf3, by omega, by omega⟩) rfl rfl hl.1 rfl (lv_room (Nat.le_of_ble_eq_true rfl)) d_M_overlapOf_72 ⟨by decide, by decide⟩) hS (fun q _ h => h.elim) (fun q h => h.elim) (fun r_8 u t H1 locs ht hvm hw hB hz1 hk1 hS => ?_)
          obtain rfl := hB.symm.trans ht
          subst hw
          refine lv_lmul hx hb d_M_overlapOf_75 ?_
          refine lv_aload_n hx hb d_M_overlapOf_76 rfl (lv_at hl 2 rfl) ?_
          refine lv_iload hx hb d_M_overlapOf_77 (lv_at hl 1 rfl) ?_
          refine lv_iload hx hb d_M_overlapOf_79 (lv_at hl 0 rfl) ?_
          refine lv_iconst (v := (nI (2))) hx hb d_M_overlapOf_81 (by decide) ?_
          refine va_calll (va_runV (As := [.int (nI ((144 * a) + (6 * i))), .int (nI ((144 * b) + (6 * j))), .int (nI (2))]) (rest := [.long ((spM f ((144 * a) + (6 * i)) ((144 * b) + (6 * j)) (0)) * (spM f ((144 * a) + (6 * i)) ((144 * b) + (6 * j)) (1))), .long (sm (fun u => sm (fun v => ((spM f (oM a u) (oM b v) 0) * (spM f (oM a u) (oM b v) 1)) * (spM f (oM a u) (oM b v) 2)) nb) i + sm (fun v => ((spM f (oM a i) (oM b v) 0) * (spM f (oM a i) (oM b v) 1)) * (spM f (oM a i) (oM b v) 2)) j)]) ⟨hx, hb, hml, hown, htB⟩ (p_M_span l g z _ h (fs) ap (f) ((144 * a) + (6 * i)) ((144 * b) + (6 * j)) (2)) (cwV 3 htB (gV kw_601 kw_603 ks_1_13 kw_3 g_M_span) rfl rfl rfl (by decide +kernel) ⟨by decide, by decide⟩) (pre_V hS hz ha (va_recv ha.1 hP (ci := 3) (q0 := 0) rfl rfl) ⟨va_pair (hP 0 _ rfl) (hP 1 _ rfl), hf3, by omega, by omega⟩) rfl rfl hl.1 rfl (lv_room (Nat.le_of_ble_eq_true rfl)) d_M_overlapOf_82 ⟨by decide, by decide⟩) hS (fun q _ h => h.elim) (fun q h => h.elim) (fun r_9 u t H1 locs ht hvm hw hB hz1 hk1 hS => ?_)
          obtain rfl := hB.symm.trans ht
          subst hw
          refine lv_lmul hx hb d_M_overlapOf_85 ?_
          refine lv_ladd hx hb d_M_overlapOf_86 ?_
          refine lv_lstore_n (lv' := [(3, .long ((sm (fun u => sm (fun v => ((spM f (oM a u) (oM b v) 0) * (spM f (oM a u) (oM b v) 1)) * (spM f (oM a u) (oM b v) 2)) nb) i + sm (fun v => ((spM f (oM a i) (oM b v) 0) * (spM f (oM a i) (oM b v) 1)) * (spM f (oM a i) (oM b v) 2)) j) + (((spM f ((144 * a) + (6 * i)) ((144 * b) + (6 * j)) (0)) * (spM f ((144 * a) + (6 * i)) ((144 * b) + (6 * j)) (1))) * (spM f ((144 * a) + (6 * i)) ((144 * b) + (6 * j)) (2))))), (8, .int (nI ((144 * b) + (6 * j)))), (7, .int (nI ((144 * a) + (6 * i)))), (0, .ref h), (1, .int (nI (a))), (2, .int (nI (b))), (5, .int (nI (i))), (6, .int (nI (j)))]) hx hb d_M_overlapOf_87 rfl hl (by decide) rfl (fun ls hl => ?_)
          refine lv_iinc (v := nI (j + 1)) (lv' := [(6, .int (nI (j + 1))), (3, .long ((sm (fun u => sm (fun v => ((spM f (oM a u) (oM b v) 0) * (spM f (oM a u) (oM b v) 1)) * (spM f (oM a u) (oM b v) 2)) nb) i + sm (fun v => ((spM f (oM a i) (oM b v) 0) * (spM f (oM a i) (oM b v) 1)) * (spM f (oM a i) (oM b v) 2)) j) + (((spM f ((144 * a) + (6 * i)) ((144 * b) + (6 * j)) (0)) * (spM f ((144 * a) + (6 * i)) ((144 * b) + (6 * j)) (1))) * (spM f ((144 * a) + (6 * i)) ((144 * b) + (6 * j)) (2))))), (8, .int (nI ((144 * b) + (6 * j)))), (7, .int (nI ((144 * a) + (6 * i)))), (0, .ref h), (1, .int (nI (a))), (2, .int (nI (b))), (5, .int (nI (i)))]) hx hb d_M_overlapOf_88 hl (k := 7) rfl (nI_add _ 1) (by decide) rfl (fun ls hl => ?_)
          refine lv_goto (tgt := 19) hx hb d_M_overlapOf_91 (by decide) ?_
          rw [sm_add (fun v => ((spM f (oM a i) (oM b v) 0) * (spM f (oM a i) (oM b v) 1)) * (spM f (oM a i) (oM b v) 2)) (sm (fun u => sm (fun v => ((spM f (oM a u) (oM b v) 0) * (spM f (oM a u) (oM b v) 1)) * (spM f (oM a u) (oM b v) 2)) nb) i) j] at hl
          exact ih_5 (locs := locs) (ls := ls) (j := j + 1) (hS := hS) (hinv := lv_sub (l' := [(0, .ref h), (1, .int (nI (a))), (2, .int (nI (b))), (3, .long (sm (fun u => sm (fun v => ((spM f (oM a u) (oM b v) 0) * (spM f (oM a u) (oM b v) 1)) * (spM f (oM a u) (oM b v) 2)) nb) i + sm (fun v => ((spM f (oM a i) (oM b v) 0) * (spM f (oM a i) (oM b v) 1)) * (spM f (oM a i) (oM b v) 2)) (j + 1))), (5, .int (nI (i))), (6, .int (nI ((j + 1))))]) hl [4, 5, 6, 1, 7, 0] rfl) (hi_j := by omega) (hn_j := by omega)
set_option maxHeartbeats 4000000 in
set_option maxRecDepth 100000 in
theorem p_M_touchOf (l : Launch) (g : gT) (z : Nat) (H0 : Heap) (h : Nat) (fs : List Value) (ap am : Nat) (f mn : Nat → Int32) (a na b nb : Nat) : Met l y_M_touchOf w_M_touchOf ({ frames := 2, cells := 0, slots := 0, locals := 45 }) (va_Pc [.ref h, .int (nI (a)), .int (nI (b))] (pB g z H0 (va_P g.1 cls [(h, .inr (3, fs)), (ap, eI g 1152 f), (am, eI g 8 mn)] H0 ∧ fs[3]? = some (.ref ap) ∧ fs[4]? = some (.ref am) ∧ a < 8 ∧ b < 8 ∧ mn a = nI na ∧ mn b = nI nb ∧ na ≤ 24 ∧ nb ≤ 24))) (qL (toM f a na b nb) H0) 0 0 nA := by
  refine Met.ofW (cc := c_M_touchOf) (maxL := 12) (ret := (some .long)) (by decide) rfl ?_
  intro p e s m args below meth c s₁ B hml hv
  obtain ⟨rfl, hH0, ha, hP, hf3, hf4, ha8, hb8, hma, hmb, hna, hnb⟩ := hv
  have hx := B.exec
  have hb := B.bytes
  have hr := B.returns
  have htB : ∀ w ∈ tB, w.before _ s = true := fun w h => atoms_spec (ws := w_M_touchOf) B.pre w (List.mem_cons_of_mem _ h)
  have hown : s.vm.findClass "JointSolidsModel" = some m.cls := findClass_of_methodNamed B.named
  have hlocks := B.notSynchronized
  subst hH0
  have hz : ∀ q, nA q → z ≤ q := nA_z
  have hS : va_S nA s.heap s.heap [] := va_S.rf
  have hl := lv_entry ([.ref h, .int (nI (a)), .int (nI (b))]) (n := 12) (Nat.le_of_ble_eq_true rfl)
  rw [lg_entry_eq]
  generalize (lg_sl ([.ref h, .int (nI (a)), .int (nI (b))]) ++ List.replicate (12 - (lg_sl ([.ref h, .int (nI (a)), .int (nI (b))])).length) Slot.unset).toArray = ls at hl ⊢
  have hl : lv_has ls 12 [(0, .ref h), (1, .int (nI (a))), (2, .int (nI (b)))] := hl
  refine lv_lconst (v := 0) hx hb d_M_touchOf_0 (by decide) ?_
  refine lv_lstore_n (lv' := [(3, .long (0)), (0, .ref h), (1, .int (nI (a))), (2, .int (nI (b)))]) hx hb d_M_touchOf_1 rfl hl (by decide) rfl (fun ls hl => ?_)
  refine lv_iconst (v := (nI (0))) hx hb d_M_touchOf_2 (by decide) ?_
  refine lv_istore (lv' := [(5, .int (nI (0))), (3, .long (0)), (0, .ref h), (1, .int (nI (a))), (2, .int (nI (b)))]) hx hb d_M_touchOf_3 hl (by decide) rfl (fun ls hl => ?_)
  obtain ⟨i, hinv, hi_i⟩ : ∃ i : Nat, lv_has ls 12 [(0, .ref h), (1, .int (nI (a))), (2, .int (nI (b))), (3, .long (sm (fun u => sm (fun v => sm (toK f (oM a u) (oM b v)) 3) nb) i)), (5, .int (nI (i)))] ∧ i ≤ na := ⟨0, lv_sub hl [2, 3, 4, 1, 0] rfl, Nat.zero_le _⟩
  obtain ⟨n_1, hn_i⟩ : ∃ n_1 : Nat, na + 1 ≤ i + n_1 := ⟨na + 1, by omega⟩
  refine W.ofL hS (fun locs hS => ?_)
  clear hl
  induction n_1 generalizing i ls locs with
  | zero => exact absurd hn_i (by omega)
  | succ n_1 ih_2 =>
    have hl := hinv
    refine lv_iload hx hb d_M_touchOf_5 (lv_at hl 4 rfl) ?_
    refine lv_aload_n hx hb d_M_touchOf_7 rfl (lv_at hl 0 rfl) ?_
    refine va_get (D := g.1) (ci := 3) (v := .ref am) (C := R_M) (T := F_M) (N := 19) hx hb htB in_M hown ha.1 hP 0 rfl rfl 4 (by decide) (htB _ kw_446) (fun _ h9 => h9) hf4 d_M_touchOf_8 ?_
    refine lv_iload_n hx hb d_M_touchOf_11 rfl (lv_at hl 1 rfl) ?_
    refine ja_ald (k := a) hx hb ha.1 hP 2 0 rfl rfl (by omega) (by omega) d_M_touchOf_12 ?_
    rw [hma]
    refine jv_icmp_ge (tgt := 173) hx hb (by omega) (by omega) d_M_touchOf_13 (by decide) (fun c_3 => ?_) (fun c_3 => ?_)
    · refine lv_lload_n hx hb d_M_touchOf_173 rfl (lv_at hl 3 rfl) ?_
      exact W.lret (v := (sm (fun u => sm (fun v => sm (toK f (oM a u) (oM b v)) 3) nb) i)) hx hb hr (fun t ht hW => ⟨⟨(sm (fun u => sm (fun v => sm (toK f (oM a u) (oM b v)) 3) nb) i), (), rfl, by rw [show i = na from by omega]; rfl, ht⟩, hS.F ht⟩) hS.2.2 d_M_touchOf_174
    · refine lv_iconst (v := (nI (0))) hx hb d_M_touchOf_16 (by decide) ?_
      refine lv_istore (lv' := [(6, .int (nI (0))), (0, .ref h), (1, .int (nI (a))), (2, .int (nI (b))), (3, .long (sm (fun u => sm (fun v => sm (toK f (oM a u) (oM b v)) 3) nb) i)), (5, .int (nI (i)))]) hx hb d_M_touchOf_17 hl (by decide) rfl (fun ls hl => ?_)
      rw [sm_zero (fun v => sm (toK f (oM a i) (oM b v)) 3) (sm (fun u => sm (fun v => sm (toK f (oM a u) (oM b v)) 3) nb) i)] at hl
      obtain ⟨j, hinv, hi_j⟩ : ∃ j : Nat, lv_has ls 12 [(0, .ref h), (1, .int (nI (a))), (2, .int (nI (b))), (3, .long (sm (fun u => sm (fun v => sm (toK f (oM a u) (oM b v)) 3) nb) i + sm (fun v => sm (toK f (oM a i) (oM b v)) 3) j)), (5, .int (nI (i))), (6, .int (nI (j)))] ∧ j ≤ nb := ⟨0, lv_sub hl [1, 2, 3, 4, 5, 0] rfl, Nat.zero_le _⟩
      obtain ⟨n_4, hn_j⟩ : ∃ n_4 : Nat, nb + 1 ≤ j + n_4 := ⟨nb + 1, by omega⟩
      refine W.ofL hS (fun locs hS => ?_)
      clear hl
      induction n_4 generalizing j ls locs with
      | zero => exact absurd hn_j (by omega)
      | succ n_4 ih_5 =>
        have hl := hinv
        refine lv_iload hx hb d_M_touchOf_19 (lv_at hl 5 rfl) ?_
        refine lv_aload_n hx hb d_M_touchOf_21 rfl (lv_at hl 0 rfl) ?_
        refine va_get (D := g.1) (ci := 3) (v := .ref am) (C := R_M) (T := F_M) (N := 19) hx hb htB in_M hown ha.1 hP 0 rfl rfl 4 (by decide) (htB _ kw_446) (fun _ h9 => h9) hf4 d_M_touchOf_22 ?_
        refine lv_iload_n hx hb d_M_touchOf_25 rfl (lv_at hl 2 rfl) ?_
        refine ja_ald (k := b) hx hb ha.1 hP 2 0 rfl rfl (by omega) (by omega) d_M_touchOf_26 ?_
        rw [hmb]
        refine jv_icmp_ge (tgt := 167) hx hb (by omega) (by omega) d_M_touchOf_27 (by decide) (fun c_6 => ?_) (fun c_6 => ?_)
        · refine lv_iinc (v := nI (i + 1)) (lv' := [(5, .int (nI (i + 1))), (0, .ref h), (1, .int (nI (a))), (2, .int (nI (b))), (3, .long (sm (fun u => sm (fun v => sm (toK f (oM a u) (oM b v)) 3) nb) i + sm (fun v => sm (toK f (oM a i) (oM b v)) 3) j)), (6, .int (nI (j)))]) hx hb d_M_touchOf_167 hl (k := 4) rfl (nI_add _ 1) (by decide) rfl (fun ls hl => ?_)
          refine lv_goto (tgt := 5) hx hb d_M_touchOf_170 (by decide) ?_
          rw [show j = nb from by omega] at hl
          exact ih_2 (locs := locs) (ls := ls) (i := i + 1) (hS := hS) (hinv := lv_sub (l' := [(0, .ref h), (1, .int (nI (a))), (2, .int (nI (b))), (3, .long (sm (fun u => sm (fun v => sm (toK f (oM a u) (oM b v)) 3) nb) (i + 1))), (5, .int (nI ((i + 1))))]) hl [1, 2, 3, 4, 0] rfl) (hi_i := by omega) (hn_i := by omega)
        · refine lv_iconst (v := (nI (0))) hx hb d_M_touchOf_30 (by decide) ?_
          refine lv_istore (lv' := [(7, .int (nI (0))), (0, .ref h), (1, .int (nI (a))), (2, .int (nI (b))), (3, .long (sm (fun u => sm (fun v => sm (toK f (oM a u) (oM b v)) 3) nb) i + sm (fun v => sm (toK f (oM a i) (oM b v)) 3) j)), (5, .int (nI (i))), (6, .int (nI (j)))]) hx hb d_M_touchOf_31 hl (by decide) rfl (fun ls hl => ?_)
          rw [sm_zero (toK f (oM a i) (oM b j)) (sm (fun u => sm (fun v => sm (toK f (oM a u) (oM b v)) 3) nb) i + sm (fun v => sm (toK f (oM a i) (oM b v)) 3) j)] at hl
          obtain ⟨k, hinv, hi_k⟩ : ∃ k : Nat, lv_has ls 12 [(0, .ref h), (1, .int (nI (a))), (2, .int (nI (b))), (3, .long ((sm (fun u => sm (fun v => sm (toK f (oM a u) (oM b v)) 3) nb) i + sm (fun v => sm (toK f (oM a i) (oM b v)) 3) j) + sm (toK f (oM a i) (oM b j)) k)), (5, .int (nI (i))), (6, .int (nI (j))), (7, .int (nI (k)))] ∧ k ≤ 3 := ⟨0, lv_sub hl [1, 2, 3, 4, 5, 6, 0] rfl, Nat.zero_le _⟩
          obtain ⟨n_7, hn_k⟩ : ∃ n_7 : Nat, 3 + 1 ≤ k + n_7 := ⟨3 + 1, by omega⟩
          refine W.ofL hS (fun locs hS => ?_)
          clear hl
          induction n_7 generalizing k ls locs with
          | zero => exact absurd hn_k (by omega)
          | succ n_7 ih_8 =>
            have hl := hinv
            refine lv_iload hx hb d_M_touchOf_33 (lv_at hl 6 rfl) ?_
            refine lv_iconst (v := (nI (3))) hx hb d_M_touchOf_35 (by decide) ?_
            refine jv_icmp_ge (tgt := 161) hx hb (by omega) (by omega) d_M_touchOf_36 (by decide) (fun c_9 => ?_) (fun c_9 => ?_)
            · refine lv_iinc (v := nI (j + 1)) (lv' := [(6, .int (nI (j + 1))), (0, .ref h), (1, .int (nI (a))), (2, .int (nI (b))), (3, .long ((sm (fun u => sm (fun v => sm (toK f (oM a u) (oM b v)) 3) nb) i + sm (fun v => sm (toK f (oM a i) (oM b v)) 3) j) + sm (toK f (oM a i) (oM b j)) k)), (5, .int (nI (i))), (7, .int (nI (k)))]) hx hb d_M_touchOf_161 hl (k := 5) rfl (nI_add _ 1) (by decide) rfl (fun ls hl => ?_)
              refine lv_goto (tgt := 19) hx hb d_M_touchOf_164 (by decide) ?_
              rw [show k = 3 from by omega, sm_add (fun v => sm (toK f (oM a i) (oM b v)) 3) (sm (fun u => sm (fun v => sm (toK f (oM a u) (oM b v)) 3) nb) i) j] at hl
              exact ih_5 (locs := locs) (ls := ls) (j := j + 1) (hS := hS) (hinv := lv_sub (l' := [(0, .ref h), (1, .int (nI (a))), (2, .int (nI (b))), (3, .long (sm (fun u => sm (fun v => sm (toK f (oM a u) (oM b v)) 3) nb) i + sm (fun v => sm (toK f (oM a i) (oM b v)) 3) (j + 1))), (5, .int (nI (i))), (6, .int (nI ((j + 1))))]) hl [1, 2, 3, 4, 5, 0] rfl) (hi_j := by omega) (hn_j := by omega)
            · refine lv_sipush (v := (nI (144))) hx hb d_M_touchOf_39 (by decide) ?_
              refine lv_iload_n hx hb d_M_touchOf_42 rfl (lv_at hl 1 rfl) ?_
              refine jv_imul hx hb d_M_touchOf_43 ?_
              refine lv_bipush (v := (nI (6))) hx hb d_M_touchOf_44 (by decide) ?_
              refine lv_iload hx hb d_M_touchOf_46 (lv_at hl 4 rfl) ?_
              refine jv_imul hx hb d_M_touchOf_48 ?_
              refine jv_iadd hx hb d_M_touchOf_49 ?_
              refine lv_istore (lv' := [(8, .int (nI ((144 * a) + (6 * i)))), (0, .ref h), (1, .int (nI (a))), (2, .int (nI (b))), (3, .long ((sm (fun u => sm (fun v => sm (toK f (oM a u) (oM b v)) 3) nb) i + sm (fun v => sm (toK f (oM a i) (oM b v)) 3) j) + sm (toK f (oM a i) (oM b j)) k)), (5, .int (nI (i))), (6, .int (nI (j))), (7, .int (nI (k)))]) hx hb d_M_touchOf_50 hl (by decide) rfl (fun ls hl => ?_)
              refine lv_sipush (v := (nI (144))) hx hb d_M_touchOf_52 (by decide) ?_
              refine lv_iload_n hx hb d_M_touchOf_55 rfl (lv_at hl 3 rfl) ?_
              refine jv_imul hx hb d_M_touchOf_56 ?_
              refine lv_bipush (v := (nI (6))) hx hb d_M_touchOf_57 (by decide) ?_
              refine lv_iload hx hb d_M_touchOf_59 (lv_at hl 6 rfl) ?_
              refine jv_imul hx hb d_M_touchOf_61 ?_
              refine jv_iadd hx hb d_M_touchOf_62 ?_
              refine lv_istore (lv' := [(9, .int (nI ((144 * b) + (6 * j)))), (8, .int (nI ((144 * a) + (6 * i)))), (0, .ref h), (1, .int (nI (a))), (2, .int (nI (b))), (3, .long ((sm (fun u => sm (fun v => sm (toK f (oM a u) (oM b v)) 3) nb) i + sm (fun v => sm (toK f (oM a i) (oM b v)) 3) j) + sm (toK f (oM a i) (oM b j)) k)), (5, .int (nI (i))), (6, .int (nI (j))), (7, .int (nI (k)))]) hx hb d_M_touchOf_63 hl (by decide) rfl (fun ls hl => ?_)
              refine lv_aload_n hx hb d_M_touchOf_65 rfl (lv_at hl 2 rfl) ?_
              refine lv_iload hx hb d_M_touchOf_66 (lv_at hl 1 rfl) ?_
              refine lv_iload hx hb d_M_touchOf_68 (lv_at hl 0 rfl) ?_
              refine lv_iload hx hb d_M_touchOf_70 (lv_at hl 8 rfl) ?_
              refine lv_iconst (v := (nI (1))) hx hb d_M_touchOf_72 (by decide) ?_
              refine jv_iadd hx hb d_M_touchOf_73 ?_
              refine lv_iconst (v := (nI (3))) hx hb d_M_touchOf_74 (by decide) ?_
              refine jv_irem hx hb (by omega) (by omega) (by omega) d_M_touchOf_75 ?_
              refine va_calll (va_runV (As := [.int (nI ((144 * a) + (6 * i))), .int (nI ((144 * b) + (6 * j))), .int (nI ((k + 1) % 3))]) (rest := []) ⟨hx, hb, hml, hown, htB⟩ (p_M_span l g z _ h (fs) ap (f) ((144 * a) + (6 * i)) ((144 * b) + (6 * j)) ((k + 1) % 3)) (cwV 3 htB (gV kw_601 kw_603 ks_1_13 kw_3 g_M_span) rfl rfl rfl (by decide +kernel) ⟨by decide, by decide⟩) (pre_V hS hz ha (va_recv ha.1 hP (ci := 3) (q0 := 0) rfl rfl) ⟨va_pair (hP 0 _ rfl) (hP 1 _ rfl), hf3, by omega, by omega⟩) rfl rfl hl.1 rfl (lv_room (Nat.le_of_ble_eq_true rfl)) d_M_touchOf_76 ⟨by decide, by decide⟩) hS (fun q _ h => h.elim) (fun q h => h.elim) (fun r_10 u t H1 locs ht hvm hw hB hz1 hk1 hS => ?_)
              obtain rfl := hB.symm.trans ht
              subst hw
              refine lv_aload_n hx hb d_M_touchOf_79 rfl (lv_at hl 2 rfl) ?_
              refine lv_iload hx hb d_M_touchOf_80 (lv_at hl 1 rfl) ?_
              refine lv_iload hx hb d_M_touchOf_82 (lv_at hl 0 rfl) ?_
              refine lv_iload hx hb d_M_touchOf_84 (lv_at hl 8 rfl) ?_
              refine lv_iconst (v := (nI (2))) hx hb d_M_touchOf_86 (by decide) ?_
              refine jv_iadd hx hb d_M_touchOf_87 ?_
              refine lv_iconst (v := (nI (3))) hx hb d_M_touchOf_88 (by decide) ?_
              refine jv_irem hx hb (by omega) (by omega) (by omega) d_M_touchOf_89 ?_
              refine va_calll (va_runV (As := [.int (nI ((144 * a) + (6 * i))), .int (nI ((144 * b) + (6 * j))), .int (nI ((k + 2) % 3))]) (rest := [.long (spM f ((144 * a) + (6 * i)) ((144 * b) + (6 * j)) ((k + 1) % 3))]) ⟨hx, hb, hml, hown, htB⟩ (p_M_span l g z _ h (fs) ap (f) ((144 * a) + (6 * i)) ((144 * b) + (6 * j)) ((k + 2) % 3)) (cwV 3 htB (gV kw_601 kw_603 ks_1_13 kw_3 g_M_span) rfl rfl rfl (by decide +kernel) ⟨by decide, by decide⟩) (pre_V hS hz ha (va_recv ha.1 hP (ci := 3) (q0 := 0) rfl rfl) ⟨va_pair (hP 0 _ rfl) (hP 1 _ rfl), hf3, by omega, by omega⟩) rfl rfl hl.1 rfl (lv_room (Nat.le_of_ble_eq_true rfl)) d_M_touchOf_90 ⟨by decide, by decide⟩) hS (fun q _ h => h.elim) (fun q h => h.elim) (fun r_11 u t H1 locs ht hvm hw hB hz1 hk1 hS => ?_)
              obtain rfl := hB.symm.trans ht
              subst hw
              refine lv_lmul hx hb d_M_touchOf_93 ?_
              refine lv_lstore (lv' := [(10, .long ((spM f ((144 * a) + (6 * i)) ((144 * b) + (6 * j)) ((k + 1) % 3)) * (spM f ((144 * a) + (6 * i)) ((144 * b) + (6 * j)) ((k + 2) % 3)))), (9, .int (nI ((144 * b) + (6 * j)))), (8, .int (nI ((144 * a) + (6 * i)))), (0, .ref h), (1, .int (nI (a))), (2, .int (nI (b))), (3, .long ((sm (fun u => sm (fun v => sm (toK f (oM a u) (oM b v)) 3) nb) i + sm (fun v => sm (toK f (oM a i) (oM b v)) 3) j) + sm (toK f (oM a i) (oM b j)) k)), (5, .int (nI (i))), (6, .int (nI (j))), (7, .int (nI (k)))]) hx hb d_M_touchOf_94 hl (by decide) rfl (fun ls hl => ?_)
              refine lv_aload_n hx hb d_M_touchOf_96 rfl (lv_at hl 3 rfl) ?_
              refine va_get (D := g.1) (ci := 3) (v := .ref ap) (C := R_M) (T := F_M) (N := 19) hx hb htB in_M hown ha.1 hP 0 rfl rfl 3 (by decide) (htB _ kw_445) (fun _ h9 => h9) hf3 d_M_touchOf_97 ?_
              refine lv_iload hx hb d_M_touchOf_100 (lv_at hl 2 rfl) ?_
              refine lv_iconst (v := (nI (3))) hx hb d_M_touchOf_102 (by decide) ?_
              refine jv_iadd hx hb d_M_touchOf_103 ?_
              refine lv_iload hx hb d_M_touchOf_104 (lv_at hl 9 rfl) ?_
              refine jv_iadd hx hb d_M_touchOf_106 ?_
              refine ja_ald (k := (((144 * a) + (6 * i)) + 3) + k) hx hb ha.1 hP 1 0 rfl rfl (by omega) (by omega) d_M_touchOf_107 ?_
              refine lv_aload_n hx hb d_M_touchOf_108 rfl (lv_at hl 3 rfl) ?_
              refine va_get (D := g.1) (ci := 3) (v := .ref ap) (C := R_M) (T := F_M) (N := 19) hx hb htB in_M hown ha.1 hP 0 rfl rfl 3 (by decide) (htB _ kw_445) (fun _ h9 => h9) hf3 d_M_touchOf_109 ?_
              refine lv_iload hx hb d_M_touchOf_112 (lv_at hl 1 rfl) ?_
              refine lv_iload hx hb d_M_touchOf_114 (lv_at hl 9 rfl) ?_
              refine jv_iadd hx hb d_M_touchOf_116 ?_
              refine ja_ald (k := ((144 * b) + (6 * j)) + k) hx hb ha.1 hP 1 0 rfl rfl (by omega) (by omega) d_M_touchOf_117 ?_
              refine lv_icmp_eq (tgt := 146) hx hb d_M_touchOf_118 (by decide) (fun c_12 => ?_) (fun c_12 => ?_)
              · refine lv_lload_n hx hb d_M_touchOf_146 rfl (lv_at hl 6 rfl) ?_
                refine lv_lload hx hb d_M_touchOf_147 (lv_at hl 0 rfl) ?_
                refine lv_ladd hx hb d_M_touchOf_149 ?_
                refine lv_goto (tgt := 154) hx hb d_M_touchOf_150 (by decide) ?_
                refine lv_lstore_n (lv' := [(3, .long (((sm (fun u => sm (fun v => sm (toK f (oM a u) (oM b v)) 3) nb) i + sm (fun v => sm (toK f (oM a i) (oM b v)) 3) j) + sm (toK f (oM a i) (oM b j)) k) + ((spM f ((144 * a) + (6 * i)) ((144 * b) + (6 * j)) ((k + 1) % 3)) * (spM f ((144 * a) + (6 * i)) ((144 * b) + (6 * j)) ((k + 2) % 3))))), (10, .long ((spM f ((144 * a) + (6 * i)) ((144 * b) + (6 * j)) ((k + 1) % 3)) * (spM f ((144 * a) + (6 * i)) ((144 * b) + (6 * j)) ((k + 2) % 3)))), (9, .int (nI ((144 * b) + (6 * j)))), (8, .int (nI ((144 * a) + (6 * i)))), (0, .ref h), (1, .int (nI (a))), (2, .int (nI (b))), (5, .int (nI (i))), (6, .int (nI (j))), (7, .int (nI (k)))]) hx hb d_M_touchOf_154 rfl hl (by decide) rfl (fun ls hl => ?_)
                refine lv_iinc (v := nI (k + 1)) (lv' := [(7, .int (nI (k + 1))), (3, .long (((sm (fun u => sm (fun v => sm (toK f (oM a u) (oM b v)) 3) nb) i + sm (fun v => sm (toK f (oM a i) (oM b v)) 3) j) + sm (toK f (oM a i) (oM b j)) k) + ((spM f ((144 * a) + (6 * i)) ((144 * b) + (6 * j)) ((k + 1) % 3)) * (spM f ((144 * a) + (6 * i)) ((144 * b) + (6 * j)) ((k + 2) % 3))))), (10, .long ((spM f ((144 * a) + (6 * i)) ((144 * b) + (6 * j)) ((k + 1) % 3)) * (spM f ((144 * a) + (6 * i)) ((144 * b) + (6 * j)) ((k + 2) % 3)))), (9, .int (nI ((144 * b) + (6 * j)))), (8, .int (nI ((144 * a) + (6 * i)))), (0, .ref h), (1, .int (nI (a))), (2, .int (nI (b))), (5, .int (nI (i))), (6, .int (nI (j)))]) hx hb d_M_touchOf_155 hl (k := 9) rfl (nI_add _ 1) (by decide) rfl (fun ls hl => ?_)
                refine lv_goto (tgt := 33) hx hb d_M_touchOf_158 (by decide) ?_
                rw [show ((sm (fun u => sm (fun v => sm (toK f (oM a u) (oM b v)) 3) nb) i + sm (fun v => sm (toK f (oM a i) (oM b v)) 3) j) + sm (toK f (oM a i) (oM b j)) k) + ((spM f (oM a i) (oM b j) ((k + 1) % 3)) * (spM f (oM a i) (oM b j) ((k + 2) % 3))) = (sm (fun u => sm (fun v => sm (toK f (oM a u) (oM b v)) 3) nb) i + sm (fun v => sm (toK f (oM a i) (oM b v)) 3) j) + sm (toK f (oM a i) (oM b j)) (k + 1) from (congrArg (fun q => ((sm (fun u => sm (fun v => sm (toK f (oM a u) (oM b v)) 3) nb) i + sm (fun v => sm (toK f (oM a i) (oM b v)) 3) j) + sm (toK f (oM a i) (oM b j)) k) + q) (show _ = toK f (oM a i) (oM b j) k from (if_pos (Or.inl c_12)).symm)).trans (sm_add (toK f (oM a i) (oM b j)) (sm (fun u => sm (fun v => sm (toK f (oM a u) (oM b v)) 3) nb) i + sm (fun v => sm (toK f (oM a i) (oM b v)) 3) j) k)] at hl
                exact ih_8 (locs := locs) (ls := ls) (k := k + 1) (hS := hS) (hinv := lv_sub (l' := [(0, .ref h), (1, .int (nI (a))), (2, .int (nI (b))), (3, .long ((sm (fun u => sm (fun v => sm (toK f (oM a u) (oM b v)) 3) nb) i + sm (fun v => sm (toK f (oM a i) (oM b v)) 3) j) + sm (toK f (oM a i) (oM b j)) (k + 1))), (5, .int (nI (i))), (6, .int (nI (j))), (7, .int (nI ((k + 1))))]) hl [5, 6, 7, 1, 8, 9, 0] rfl) (hi_k := by omega) (hn_k := by omega)
              · refine lv_aload_n hx hb d_M_touchOf_121 rfl (lv_at hl 3 rfl) ?_
                refine va_get (D := g.1) (ci := 3) (v := .ref ap) (C := R_M) (T := F_M) (N := 19) hx hb htB in_M hown ha.1 hP 0 rfl rfl 3 (by decide) (htB _ kw_445) (fun _ h9 => h9) hf3 d_M_touchOf_122 ?_
                refine lv_iload hx hb d_M_touchOf_125 (lv_at hl 1 rfl) ?_
                refine lv_iconst (v := (nI (3))) hx hb d_M_touchOf_127 (by decide) ?_
                refine jv_iadd hx hb d_M_touchOf_128 ?_
                refine lv_iload hx hb d_M_touchOf_129 (lv_at hl 9 rfl) ?_
                refine jv_iadd hx hb d_M_touchOf_131 ?_
                refine ja_ald (k := (((144 * b) + (6 * j)) + 3) + k) hx hb ha.1 hP 1 0 rfl rfl (by omega) (by omega) d_M_touchOf_132 ?_
                refine lv_aload_n hx hb d_M_touchOf_133 rfl (lv_at hl 3 rfl) ?_
                refine va_get (D := g.1) (ci := 3) (v := .ref ap) (C := R_M) (T := F_M) (N := 19) hx hb htB in_M hown ha.1 hP 0 rfl rfl 3 (by decide) (htB _ kw_445) (fun _ h9 => h9) hf3 d_M_touchOf_134 ?_
                refine lv_iload hx hb d_M_touchOf_137 (lv_at hl 2 rfl) ?_
                refine lv_iload hx hb d_M_touchOf_139 (lv_at hl 9 rfl) ?_
                refine jv_iadd hx hb d_M_touchOf_141 ?_
                refine ja_ald (k := ((144 * a) + (6 * i)) + k) hx hb ha.1 hP 1 0 rfl rfl (by omega) (by omega) d_M_touchOf_142 ?_
                refine lv_icmp_ne (tgt := 153) hx hb d_M_touchOf_143 (by decide) (fun c_13 => ?_) (fun c_13 => ?_)
                · refine lv_lload_n hx hb d_M_touchOf_153 rfl (lv_at hl 6 rfl) ?_
                  refine lv_lstore_n (lv' := [(3, .long ((sm (fun u => sm (fun v => sm (toK f (oM a u) (oM b v)) 3) nb) i + sm (fun v => sm (toK f (oM a i) (oM b v)) 3) j) + sm (toK f (oM a i) (oM b j)) k)), (10, .long ((spM f ((144 * a) + (6 * i)) ((144 * b) + (6 * j)) ((k + 1) % 3)) * (spM f ((144 * a) + (6 * i)) ((144 * b) + (6 * j)) ((k + 2) % 3)))), (9, .int (nI ((144 * b) + (6 * j)))), (8, .int (nI ((144 * a) + (6 * i)))), (0, .ref h), (1, .int (nI (a))), (2, .int (nI (b))), (5, .int (nI (i))), (6, .int (nI (j))), (7, .int (nI (k)))]) hx hb d_M_touchOf_154 rfl hl (by decide) rfl (fun ls hl => ?_)
                  refine lv_iinc (v := nI (k + 1)) (lv' := [(7, .int (nI (k + 1))), (3, .long ((sm (fun u => sm (fun v => sm (toK f (oM a u) (oM b v)) 3) nb) i + sm (fun v => sm (toK f (oM a i) (oM b v)) 3) j) + sm (toK f (oM a i) (oM b j)) k)), (10, .long ((spM f ((144 * a) + (6 * i)) ((144 * b) + (6 * j)) ((k + 1) % 3)) * (spM f ((144 * a) + (6 * i)) ((144 * b) + (6 * j)) ((k + 2) % 3)))), (9, .int (nI ((144 * b) + (6 * j)))), (8, .int (nI ((144 * a) + (6 * i)))), (0, .ref h), (1, .int (nI (a))), (2, .int (nI (b))), (5, .int (nI (i))), (6, .int (nI (j)))]) hx hb d_M_touchOf_155 hl (k := 9) rfl (nI_add _ 1) (by decide) rfl (fun ls hl => ?_)
                  refine lv_goto (tgt := 33) hx hb d_M_touchOf_158 (by decide) ?_
                  rw [show (sm (fun u => sm (fun v => sm (toK f (oM a u) (oM b v)) 3) nb) i + sm (fun v => sm (toK f (oM a i) (oM b v)) 3) j) + sm (toK f (oM a i) (oM b j)) k = (sm (fun u => sm (fun v => sm (toK f (oM a u) (oM b v)) 3) nb) i + sm (fun v => sm (toK f (oM a i) (oM b v)) 3) j) + sm (toK f (oM a i) (oM b j)) (k + 1) from (Int64.add_zero _).symm.trans ((congrArg (fun q => ((sm (fun u => sm (fun v => sm (toK f (oM a u) (oM b v)) 3) nb) i + sm (fun v => sm (toK f (oM a i) (oM b v)) 3) j) + sm (toK f (oM a i) (oM b j)) k) + q) (show (0 : Int64) = toK f (oM a i) (oM b j) k from (if_neg (fun q => q.elim c_12 c_13)).symm)).trans (sm_add (toK f (oM a i) (oM b j)) (sm (fun u => sm (fun v => sm (toK f (oM a u) (oM b v)) 3) nb) i + sm (fun v => sm (toK f (oM a i) (oM b v)) 3) j) k))] at hl
                  exact ih_8 (locs := locs) (ls := ls) (k := k + 1) (hS := hS) (hinv := lv_sub (l' := [(0, .ref h), (1, .int (nI (a))), (2, .int (nI (b))), (3, .long ((sm (fun u => sm (fun v => sm (toK f (oM a u) (oM b v)) 3) nb) i + sm (fun v => sm (toK f (oM a i) (oM b v)) 3) j) + sm (toK f (oM a i) (oM b j)) (k + 1))), (5, .int (nI (i))), (6, .int (nI (j))), (7, .int (nI ((k + 1))))]) hl [5, 6, 7, 1, 8, 9, 0] rfl) (hi_k := by omega) (hn_k := by omega)
                · refine lv_lload_n hx hb d_M_touchOf_146 rfl (lv_at hl 6 rfl) ?_
                  refine lv_lload hx hb d_M_touchOf_147 (lv_at hl 0 rfl) ?_
                  refine lv_ladd hx hb d_M_touchOf_149 ?_
                  refine lv_goto (tgt := 154) hx hb d_M_touchOf_150 (by decide) ?_
                  refine lv_lstore_n (lv' := [(3, .long (((sm (fun u => sm (fun v => sm (toK f (oM a u) (oM b v)) 3) nb) i + sm (fun v => sm (toK f (oM a i) (oM b v)) 3) j) + sm (toK f (oM a i) (oM b j)) k) + ((spM f ((144 * a) + (6 * i)) ((144 * b) + (6 * j)) ((k + 1) % 3)) * (spM f ((144 * a) + (6 * i)) ((144 * b) + (6 * j)) ((k + 2) % 3))))), (10, .long ((spM f ((144 * a) + (6 * i)) ((144 * b) + (6 * j)) ((k + 1) % 3)) * (spM f ((144 * a) + (6 * i)) ((144 * b) + (6 * j)) ((k + 2) % 3)))), (9, .int (nI ((144 * b) + (6 * j)))), (8, .int (nI ((144 * a) + (6 * i)))), (0, .ref h), (1, .int (nI (a))), (2, .int (nI (b))), (5, .int (nI (i))), (6, .int (nI (j))), (7, .int (nI (k)))]) hx hb d_M_touchOf_154 rfl hl (by decide) rfl (fun ls hl => ?_)
                  refine lv_iinc (v := nI (k + 1)) (lv' := [(7, .int (nI (k + 1))), (3, .long (((sm (fun u => sm (fun v => sm (toK f (oM a u) (oM b v)) 3) nb) i + sm (fun v => sm (toK f (oM a i) (oM b v)) 3) j) + sm (toK f (oM a i) (oM b j)) k) + ((spM f ((144 * a) + (6 * i)) ((144 * b) + (6 * j)) ((k + 1) % 3)) * (spM f ((144 * a) + (6 * i)) ((144 * b) + (6 * j)) ((k + 2) % 3))))), (10, .long ((spM f ((144 * a) + (6 * i)) ((144 * b) + (6 * j)) ((k + 1) % 3)) * (spM f ((144 * a) + (6 * i)) ((144 * b) + (6 * j)) ((k + 2) % 3)))), (9, .int (nI ((144 * b) + (6 * j)))), (8, .int (nI ((144 * a) + (6 * i)))), (0, .ref h), (1, .int (nI (a))), (2, .int (nI (b))), (5, .int (nI (i))), (6, .int (nI (j)))]) hx hb d_M_touchOf_155 hl (k := 9) rfl (nI_add _ 1) (by decide) rfl (fun ls hl => ?_)
                  refine lv_goto (tgt := 33) hx hb d_M_touchOf_158 (by decide) ?_
                  rw [show ((sm (fun u => sm (fun v => sm (toK f (oM a u) (oM b v)) 3) nb) i + sm (fun v => sm (toK f (oM a i) (oM b v)) 3) j) + sm (toK f (oM a i) (oM b j)) k) + ((spM f (oM a i) (oM b j) ((k + 1) % 3)) * (spM f (oM a i) (oM b j) ((k + 2) % 3))) = (sm (fun u => sm (fun v => sm (toK f (oM a u) (oM b v)) 3) nb) i + sm (fun v => sm (toK f (oM a i) (oM b v)) 3) j) + sm (toK f (oM a i) (oM b j)) (k + 1) from (congrArg (fun q => ((sm (fun u => sm (fun v => sm (toK f (oM a u) (oM b v)) 3) nb) i + sm (fun v => sm (toK f (oM a i) (oM b v)) 3) j) + sm (toK f (oM a i) (oM b j)) k) + q) (show _ = toK f (oM a i) (oM b j) k from (if_pos (Or.inr c_13)).symm)).trans (sm_add (toK f (oM a i) (oM b j)) (sm (fun u => sm (fun v => sm (toK f (oM a u) (oM b v)) 3) nb) i + sm (fun v => sm (toK f (oM a i) (oM b v)) 3) j) k)] at hl
                  exact ih_8 (locs := locs) (ls := ls) (k := k + 1) (hS := hS) (hinv := lv_sub (l' := [(0, .ref h), (1, .int (nI (a))), (2, .int (nI (b))), (3, .long ((sm (fun u => sm (fun v => sm (toK f (oM a u) (oM b v)) 3) nb) i + sm (fun v => sm (toK f (oM a i) (oM b v)) 3) j) + sm (toK f (oM a i) (oM b j)) (k + 1))), (5, .int (nI (i))), (6, .int (nI (j))), (7, .int (nI ((k + 1))))]) hl [5, 6, 7, 1, 8, 9, 0] rfl) (hi_k := by omega) (hn_k := by omega)
set_option maxHeartbeats 4000000 in
set_option maxRecDepth 100000 in
theorem p_M_volumeOf (l : Launch) (g : gT) (z : Nat) (H0 : Heap) (h : Nat) (fs : List Value) (ap am : Nat) (f mn : Nat → Int32) (a na : Nat) : Met l y_M_volumeOf w_M_volumeOf ({ frames := 0, cells := 0, slots := 0, locals := 0 }) (va_Pc [.ref h, .int (nI (a))] (pB g z H0 (va_P g.1 cls [(h, .inr (3, fs)), (ap, eI g 1152 f), (am, eI g 8 mn)] H0 ∧ fs[3]? = some (.ref ap) ∧ fs[4]? = some (.ref am) ∧ a < 8 ∧ mn a = nI na ∧ na ≤ 24))) (qL (voM f a na) H0) 0 0 nA := by
  refine Met.ofW (cc := c_M_volumeOf) (maxL := 6) (ret := (some .long)) (by decide) rfl ?_
  intro p e s m args below meth c s₁ B hml hv
  obtain ⟨rfl, hH0, ha, hP, hf3, hf4, ha8, hma, hna⟩ := hv
  have hx := B.exec
  have hb := B.bytes
  have hr := B.returns
  have htB : ∀ w ∈ tB, w.before _ s = true := fun w h => atoms_spec (ws := w_M_volumeOf) B.pre w (List.mem_cons_of_mem _ h)
  have hown : s.vm.findClass "JointSolidsModel" = some m.cls := findClass_of_methodNamed B.named
  have hlocks := B.notSynchronized
  subst hH0
  have hz : ∀ q, nA q → z ≤ q := nA_z
  have hS : va_S nA s.heap s.heap [] := va_S.rf
  have hl := lv_entry ([.ref h, .int (nI (a))]) (n := 6) (Nat.le_of_ble_eq_true rfl)
  rw [lg_entry_eq]
  generalize (lg_sl ([.ref h, .int (nI (a))]) ++ List.replicate (6 - (lg_sl ([.ref h, .int (nI (a))])).length) Slot.unset).toArray = ls at hl ⊢
  have hl : lv_has ls 6 [(0, .ref h), (1, .int (nI (a)))] := hl
  refine lv_lconst (v := 0) hx hb d_M_volumeOf_0 (by decide) ?_
  refine lv_lstore_n (lv' := [(2, .long (0)), (0, .ref h), (1, .int (nI (a)))]) hx hb d_M_volumeOf_1 rfl hl (by decide) rfl (fun ls hl => ?_)
  refine lv_iconst (v := (nI (0))) hx hb d_M_volumeOf_2 (by decide) ?_
  refine lv_istore (lv' := [(4, .int (nI (0))), (2, .long (0)), (0, .ref h), (1, .int (nI (a)))]) hx hb d_M_volumeOf_3 hl (by decide) rfl (fun ls hl => ?_)
  obtain ⟨i, hinv, hi_i⟩ : ∃ i : Nat, lv_has ls 6 [(0, .ref h), (1, .int (nI (a))), (2, .long (sm (fun u => (((f (oM a u + 3) - f (oM a u)).toInt64) * ((f (oM a u + 4) - f (oM a u + 1)).toInt64)) * ((f (oM a u + 5) - f (oM a u + 2)).toInt64)) i)), (4, .int (nI (i)))] ∧ i ≤ na := ⟨0, lv_sub hl [2, 3, 1, 0] rfl, Nat.zero_le _⟩
  obtain ⟨n_1, hn_i⟩ : ∃ n_1 : Nat, na + 1 ≤ i + n_1 := ⟨na + 1, by omega⟩
  refine W.ofL hS (fun locs hS => ?_)
  clear hl
  induction n_1 generalizing i ls locs with
  | zero => exact absurd hn_i (by omega)
  | succ n_1 ih_2 =>
    have hl := hinv
    refine lv_iload hx hb d_M_volumeOf_5 (lv_at hl 3 rfl) ?_
    refine lv_aload_n hx hb d_M_volumeOf_7 rfl (lv_at hl 0 rfl) ?_
    refine va_get (D := g.1) (ci := 3) (v := .ref am) (C := R_M) (T := F_M) (N := 19) hx hb htB in_M hown ha.1 hP 0 rfl rfl 4 (by decide) (htB _ kw_446) (fun _ h9 => h9) hf4 d_M_volumeOf_8 ?_
    refine lv_iload_n hx hb d_M_volumeOf_11 rfl (lv_at hl 1 rfl) ?_
    refine ja_ald (k := a) hx hb ha.1 hP 2 0 rfl rfl (by omega) (by omega) d_M_volumeOf_12 ?_
    rw [hma]
    refine jv_icmp_ge (tgt := 98) hx hb (by omega) (by omega) d_M_volumeOf_13 (by decide) (fun c_3 => ?_) (fun c_3 => ?_)
    · refine lv_lload_n hx hb d_M_volumeOf_98 rfl (lv_at hl 2 rfl) ?_
      exact W.lret (v := (sm (fun u => (((f (oM a u + 3) - f (oM a u)).toInt64) * ((f (oM a u + 4) - f (oM a u + 1)).toInt64)) * ((f (oM a u + 5) - f (oM a u + 2)).toInt64)) i)) hx hb hr (fun t ht hW => ⟨⟨(sm (fun u => (((f (oM a u + 3) - f (oM a u)).toInt64) * ((f (oM a u + 4) - f (oM a u + 1)).toInt64)) * ((f (oM a u + 5) - f (oM a u + 2)).toInt64)) i), (), rfl, by rw [show i = na from by omega]; rfl, ht⟩, hS.F ht⟩) hS.2.2 d_M_volumeOf_99
    · refine lv_sipush (v := (nI (144))) hx hb d_M_volumeOf_16 (by decide) ?_
      refine lv_iload_n hx hb d_M_volumeOf_19 rfl (lv_at hl 1 rfl) ?_
      refine jv_imul hx hb d_M_volumeOf_20 ?_
      refine lv_bipush (v := (nI (6))) hx hb d_M_volumeOf_21 (by decide) ?_
      refine lv_iload hx hb d_M_volumeOf_23 (lv_at hl 3 rfl) ?_
      refine jv_imul hx hb d_M_volumeOf_25 ?_
      refine jv_iadd hx hb d_M_volumeOf_26 ?_
      refine lv_istore (lv' := [(5, .int (nI ((144 * a) + (6 * i)))), (0, .ref h), (1, .int (nI (a))), (2, .long (sm (fun u => (((f (oM a u + 3) - f (oM a u)).toInt64) * ((f (oM a u + 4) - f (oM a u + 1)).toInt64)) * ((f (oM a u + 5) - f (oM a u + 2)).toInt64)) i)), (4, .int (nI (i)))]) hx hb d_M_volumeOf_27 hl (by decide) rfl (fun ls hl => ?_)
      refine lv_lload_n hx hb d_M_volumeOf_29 rfl (lv_at hl 3 rfl) ?_
      refine lv_aload_n hx hb d_M_volumeOf_30 rfl (lv_at hl 1 rfl) ?_
      refine va_get (D := g.1) (ci := 3) (v := .ref ap) (C := R_M) (T := F_M) (N := 19) hx hb htB in_M hown ha.1 hP 0 rfl rfl 3 (by decide) (htB _ kw_445) (fun _ h9 => h9) hf3 d_M_volumeOf_31 ?_
      refine lv_iload hx hb d_M_volumeOf_34 (lv_at hl 0 rfl) ?_
      refine lv_iconst (v := (nI (3))) hx hb d_M_volumeOf_36 (by decide) ?_
      refine jv_iadd hx hb d_M_volumeOf_37 ?_
      refine ja_ald (k := ((144 * a) + (6 * i)) + 3) hx hb ha.1 hP 1 0 rfl rfl (by omega) (by omega) d_M_volumeOf_38 ?_
      refine lv_aload_n hx hb d_M_volumeOf_39 rfl (lv_at hl 1 rfl) ?_
      refine va_get (D := g.1) (ci := 3) (v := .ref ap) (C := R_M) (T := F_M) (N := 19) hx hb htB in_M hown ha.1 hP 0 rfl rfl 3 (by decide) (htB _ kw_445) (fun _ h9 => h9) hf3 d_M_volumeOf_40 ?_
      refine lv_iload hx hb d_M_volumeOf_43 (lv_at hl 0 rfl) ?_
      refine ja_ald (k := (144 * a) + (6 * i)) hx hb ha.1 hP 1 0 rfl rfl (by omega) (by omega) d_M_volumeOf_45 ?_
      refine lv_isub hx hb d_M_volumeOf_46 ?_
      refine lv_i2l (v := (((f (((144 * a) + (6 * i)) + 3)) - (f ((144 * a) + (6 * i))))).toInt64) hx hb d_M_volumeOf_47 rfl ?_
      refine lv_aload_n hx hb d_M_volumeOf_48 rfl (lv_at hl 1 rfl) ?_
      refine va_get (D := g.1) (ci := 3) (v := .ref ap) (C := R_M) (T := F_M) (N := 19) hx hb htB in_M hown ha.1 hP 0 rfl rfl 3 (by decide) (htB _ kw_445) (fun _ h9 => h9) hf3 d_M_volumeOf_49 ?_
      refine lv_iload hx hb d_M_volumeOf_52 (lv_at hl 0 rfl) ?_
      refine lv_iconst (v := (nI (4))) hx hb d_M_volumeOf_54 (by decide) ?_
      refine jv_iadd hx hb d_M_volumeOf_55 ?_
      refine ja_ald (k := ((144 * a) + (6 * i)) + 4) hx hb ha.1 hP 1 0 rfl rfl (by omega) (by omega) d_M_volumeOf_56 ?_
      refine lv_aload_n hx hb d_M_volumeOf_57 rfl (lv_at hl 1 rfl) ?_
      refine va_get (D := g.1) (ci := 3) (v := .ref ap) (C := R_M) (T := F_M) (N := 19) hx hb htB in_M hown ha.1 hP 0 rfl rfl 3 (by decide) (htB _ kw_445) (fun _ h9 => h9) hf3 d_M_volumeOf_58 ?_
      refine lv_iload hx hb d_M_volumeOf_61 (lv_at hl 0 rfl) ?_
      refine lv_iconst (v := (nI (1))) hx hb d_M_volumeOf_63 (by decide) ?_
      refine jv_iadd hx hb d_M_volumeOf_64 ?_
      refine ja_ald (k := ((144 * a) + (6 * i)) + 1) hx hb ha.1 hP 1 0 rfl rfl (by omega) (by omega) d_M_volumeOf_65 ?_
      refine lv_isub hx hb d_M_volumeOf_66 ?_
      refine lv_i2l (v := (((f (((144 * a) + (6 * i)) + 4)) - (f (((144 * a) + (6 * i)) + 1)))).toInt64) hx hb d_M_volumeOf_67 rfl ?_
      refine lv_lmul hx hb d_M_volumeOf_68 ?_
      refine lv_aload_n hx hb d_M_volumeOf_69 rfl (lv_at hl 1 rfl) ?_
      refine va_get (D := g.1) (ci := 3) (v := .ref ap) (C := R_M) (T := F_M) (N := 19) hx hb htB in_M hown ha.1 hP 0 rfl rfl 3 (by decide) (htB _ kw_445) (fun _ h9 => h9) hf3 d_M_volumeOf_70 ?_
      refine lv_iload hx hb d_M_volumeOf_73 (lv_at hl 0 rfl) ?_
      refine lv_iconst (v := (nI (5))) hx hb d_M_volumeOf_75 (by decide) ?_
      refine jv_iadd hx hb d_M_volumeOf_76 ?_
      refine ja_ald (k := ((144 * a) + (6 * i)) + 5) hx hb ha.1 hP 1 0 rfl rfl (by omega) (by omega) d_M_volumeOf_77 ?_
      refine lv_aload_n hx hb d_M_volumeOf_78 rfl (lv_at hl 1 rfl) ?_
      refine va_get (D := g.1) (ci := 3) (v := .ref ap) (C := R_M) (T := F_M) (N := 19) hx hb htB in_M hown ha.1 hP 0 rfl rfl 3 (by decide) (htB _ kw_445) (fun _ h9 => h9) hf3 d_M_volumeOf_79 ?_
      refine lv_iload hx hb d_M_volumeOf_82 (lv_at hl 0 rfl) ?_
      refine lv_iconst (v := (nI (2))) hx hb d_M_volumeOf_84 (by decide) ?_
      refine jv_iadd hx hb d_M_volumeOf_85 ?_
      refine ja_ald (k := ((144 * a) + (6 * i)) + 2) hx hb ha.1 hP 1 0 rfl rfl (by omega) (by omega) d_M_volumeOf_86 ?_
      refine lv_isub hx hb d_M_volumeOf_87 ?_
      refine lv_i2l (v := (((f (((144 * a) + (6 * i)) + 5)) - (f (((144 * a) + (6 * i)) + 2)))).toInt64) hx hb d_M_volumeOf_88 rfl ?_
      refine lv_lmul hx hb d_M_volumeOf_89 ?_
      refine lv_ladd hx hb d_M_volumeOf_90 ?_
      refine lv_lstore_n (lv' := [(2, .long ((sm (fun u => (((f (oM a u + 3) - f (oM a u)).toInt64) * ((f (oM a u + 4) - f (oM a u + 1)).toInt64)) * ((f (oM a u + 5) - f (oM a u + 2)).toInt64)) i) + ((((((f (((144 * a) + (6 * i)) + 3)) - (f ((144 * a) + (6 * i))))).toInt64) * ((((f (((144 * a) + (6 * i)) + 4)) - (f (((144 * a) + (6 * i)) + 1)))).toInt64)) * ((((f (((144 * a) + (6 * i)) + 5)) - (f (((144 * a) + (6 * i)) + 2)))).toInt64)))), (5, .int (nI ((144 * a) + (6 * i)))), (0, .ref h), (1, .int (nI (a))), (4, .int (nI (i)))]) hx hb d_M_volumeOf_91 rfl hl (by decide) rfl (fun ls hl => ?_)
      refine lv_iinc (v := nI (i + 1)) (lv' := [(4, .int (nI (i + 1))), (2, .long ((sm (fun u => (((f (oM a u + 3) - f (oM a u)).toInt64) * ((f (oM a u + 4) - f (oM a u + 1)).toInt64)) * ((f (oM a u + 5) - f (oM a u + 2)).toInt64)) i) + ((((((f (((144 * a) + (6 * i)) + 3)) - (f ((144 * a) + (6 * i))))).toInt64) * ((((f (((144 * a) + (6 * i)) + 4)) - (f (((144 * a) + (6 * i)) + 1)))).toInt64)) * ((((f (((144 * a) + (6 * i)) + 5)) - (f (((144 * a) + (6 * i)) + 2)))).toInt64)))), (5, .int (nI ((144 * a) + (6 * i)))), (0, .ref h), (1, .int (nI (a)))]) hx hb d_M_volumeOf_92 hl (k := 4) rfl (nI_add _ 1) (by decide) rfl (fun ls hl => ?_)
      refine lv_goto (tgt := 5) hx hb d_M_volumeOf_95 (by decide) ?_
      exact ih_2 (locs := locs) (ls := ls) (i := i + 1) (hS := hS) (hinv := lv_sub (l' := [(0, .ref h), (1, .int (nI (a))), (2, .long (sm (fun u => (((f (oM a u + 3) - f (oM a u)).toInt64) * ((f (oM a u + 4) - f (oM a u + 1)).toInt64)) * ((f (oM a u + 5) - f (oM a u + 2)).toInt64)) (i + 1))), (4, .int (nI ((i + 1))))]) hl [3, 4, 1, 0] rfl) (hi_i := by omega) (hn_i := by omega)
