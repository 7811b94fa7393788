/-- a sum, term by term -/
def sm (F : Nat → Int64) : Nat → Int64
  | 0 => 0
  | n + 1 => sm F n + F n
theorem sm_add (F : Nat → Int64) (a : Int64) (n : Nat) : (a + sm F n) + F n = a + sm F (n + 1) := by
  show (a + sm F n) + F n = a + (sm F n + F n)
  rw [Int64.add_assoc]
theorem sm_zero (F : Nat → Int64) (a : Int64) : a = a + sm F 0 := (Int64.add_zero a).symm
/-- the area of faces on each other, of two boxes -/
def arS (f : Nat → Int32) (i : Nat) (h : Nat → Int32) (j : Nat) : Int64 :=
  if lenS f i h j 0 = 0 then (if lenS f i h j 1 = 0 then 0 else if lenS f i h j 2 = 0 then 0 else (1 * (mxI (nI 0) (lenS f i h j 1)).toInt64) * (mxI (nI 0) (lenS f i h j 2)).toInt64)
  else if lenS f i h j 1 = 0 then (if lenS f i h j 2 = 0 then 0 else (1 * (mxI (nI 0) (lenS f i h j 0)).toInt64) * (mxI (nI 0) (lenS f i h j 2)).toInt64)
  else if lenS f i h j 2 = 0 then (1 * (mxI (nI 0) (lenS f i h j 0)).toInt64) * (mxI (nI 0) (lenS f i h j 1)).toInt64 else 0
set_option maxHeartbeats 4000000 in
set_option maxRecDepth 100000 in
theorem p_J_areaShared (l : Launch) (g : gT) (z : Nat) (H0 : Heap) (ap aq n n2 : Nat) (f f2 : Nat → Int32) (i j : Nat) : Met l y_J_areaShared w_J_areaShared ({ frames := 2, cells := 0, slots := 0, locals := 39 }) (va_Pc [.ref ap, .int (nI (i)), .ref aq, .int (nI (j))] (pB g z H0 (va_P g.1 cls [(ap, eI g n f), (aq, eI g n2 f2)] H0 ∧ i + 5 < n ∧ j + 5 < n2 ∧ n < 2 ^ 31 ∧ n2 < 2 ^ 31))) (qL (arS f i f2 j) H0) 0 0 nA := by
  refine Met.ofW (cc := c_J_areaShared) (maxL := 9) (ret := (some .long)) (by decide) rfl ?_
  intro p e s m args below meth c s₁ B hml hv
  obtain ⟨rfl, hH0, ha, hP, hi, hj, hn, hn2⟩ := hv
  have hx := B.exec
  have hb := B.bytes
  have hr := B.returns
  have htB : ∀ w ∈ tB, w.before _ s = true := fun w h => atoms_spec (ws := w_J_areaShared) B.pre w (List.mem_cons_of_mem _ h)
  have hown : s.vm.findClass "JointSolids" = some m.cls := findClass_of_methodNamed B.named
  have hlocks := B.notSynchronized
  subst hH0
  have hz : ∀ q, nA q → z ≤ q := nA_z
  have hS : va_S nA s.heap s.heap [] := va_S.rf
  have hl := lv_entry ([.ref ap, .int (nI (i)), .ref aq, .int (nI (j))]) (n := 9) (Nat.le_of_ble_eq_true rfl)
  rw [lg_entry_eq]
  generalize (lg_sl ([.ref ap, .int (nI (i)), .ref aq, .int (nI (j))]) ++ List.replicate (9 - (lg_sl ([.ref ap, .int (nI (i)), .ref aq, .int (nI (j))])).length) Slot.unset).toArray = ls at hl ⊢
  have hl : lv_has ls 9 [(0, .ref ap), (1, .int (nI (i))), (2, .ref aq), (3, .int (nI (j)))] := hl
  refine lv_lconst (v := 1) hx hb d_J_areaShared_0 (by decide) ?_
  refine lv_lstore (lv' := [(4, .long (1)), (0, .ref ap), (1, .int (nI (i))), (2, .ref aq), (3, .int (nI (j)))]) hx hb d_J_areaShared_1 hl (by decide) rfl (fun ls hl => ?_)
  refine lv_iconst (v := (nI (0))) hx hb d_J_areaShared_3 (by decide) ?_
  refine lv_istore (lv' := [(6, .int (nI (0))), (4, .long (1)), (0, .ref ap), (1, .int (nI (i))), (2, .ref aq), (3, .int (nI (j)))]) hx hb d_J_areaShared_4 hl (by decide) rfl (fun ls hl => ?_)
  refine lv_iconst (v := (nI (0))) hx hb d_J_areaShared_6 (by decide) ?_
  refine lv_istore (lv' := [(7, .int (nI (0))), (6, .int (nI (0))), (4, .long (1)), (0, .ref ap), (1, .int (nI (i))), (2, .ref aq), (3, .int (nI (j)))]) hx hb d_J_areaShared_7 hl (by decide) rfl (fun ls hl => ?_)
  refine lv_iload hx hb d_J_areaShared_9 (lv_at hl 0 rfl) ?_
  refine lv_iconst (v := (nI (3))) hx hb d_J_areaShared_11 (by decide) ?_
  refine jv_icmp_ge (tgt := 55) hx hb (by omega) (by omega) d_J_areaShared_12 (by decide) (fun h => absurd h (by decide)) (fun _ => ?_)
  refine lv_aload_n hx hb d_J_areaShared_15 rfl (lv_at hl 3 rfl) ?_
  refine lv_iload_n hx hb d_J_areaShared_16 rfl (lv_at hl 4 rfl) ?_
  refine lv_aload_n hx hb d_J_areaShared_17 rfl (lv_at hl 5 rfl) ?_
  refine lv_iload_n hx hb d_J_areaShared_18 rfl (lv_at hl 6 rfl) ?_
  refine lv_iload hx hb d_J_areaShared_19 (lv_at hl 0 rfl) ?_
  refine va_calli (va_runS (As := [.ref ap, .int (nI (i)), .ref aq, .int (nI (j)), .int (nI (0))]) (rest := []) ⟨hx, hb, hml, hown, htB⟩ (p_J_lengthShared l g z _ ap aq n n2 f f2 (i) (j) (0)) (va_cwS 5 htB (gS kw_165 kw_166 kw_1 g_J_lengthShared) rfl rfl rfl (by decide +kernel) ⟨by decide, by decide⟩) (pre_S hS hz ha ⟨hP, by omega, by omega, hn, hn2⟩) rfl rfl hl.1 rfl (lv_room (Nat.le_of_ble_eq_true rfl)) d_J_areaShared_21 ⟨by decide, by decide⟩) hS (fun q _ h => h.elim) (fun q h => h.elim) (fun r_1 u t H1 locs ht hvm hw hB hz1 hk1 hS => ?_)
  obtain rfl := hB.symm.trans ht
  subst hw
  refine lv_istore (lv' := [(8, .int (lenS f (i) f2 (j) (0))), (7, .int (nI (0))), (6, .int (nI (0))), (4, .long (1)), (0, .ref ap), (1, .int (nI (i))), (2, .ref aq), (3, .int (nI (j)))]) hx hb d_J_areaShared_24 hl (by decide) rfl (fun ls hl => ?_)
  refine lv_iload hx hb d_J_areaShared_26 (lv_at hl 0 rfl) ?_
  refine lv_if_ne (tgt := 37) hx hb d_J_areaShared_28 (by decide) (fun c_2 => ?_) (fun c_2 => ?_)
  · refine lv_lload hx hb d_J_areaShared_37 (lv_at hl 3 rfl) ?_
    refine lv_iconst (v := (nI (0))) hx hb d_J_areaShared_39 (by decide) ?_
    refine lv_iload hx hb d_J_areaShared_40 (lv_at hl 0 rfl) ?_
    refine va_mmax (own := "JointSolids") hx hb (hml.trans hl.1.symm) hown (htB _ kw_168) (htB _ kw_169) (htB _ kw_4) (htB _ kw_170) (Nat.le_of_ble_eq_true rfl) (Nat.le_of_ble_eq_true rfl) (Nat.le_of_ble_eq_true rfl) (Nat.le_of_ble_eq_true rfl) d_J_areaShared_42 ?_
    refine lv_i2l (v := ((mxI (nI (0)) (lenS f (i) f2 (j) (0)))).toInt64) hx hb d_J_areaShared_45 rfl ?_
    refine lv_lmul hx hb d_J_areaShared_46 ?_
    refine lv_lstore (lv' := [(4, .long ((1) * (((mxI (nI (0)) (lenS f (i) f2 (j) (0)))).toInt64))), (8, .int (lenS f (i) f2 (j) (0))), (7, .int (nI (0))), (6, .int (nI (0))), (0, .ref ap), (1, .int (nI (i))), (2, .ref aq), (3, .int (nI (j)))]) hx hb d_J_areaShared_47 hl (by decide) rfl (fun ls hl => ?_)
    refine lv_iinc (v := nI (1)) (lv' := [(7, .int (nI (1))), (4, .long ((1) * (((mxI (nI (0)) (lenS f (i) f2 (j) (0)))).toInt64))), (8, .int (lenS f (i) f2 (j) (0))), (6, .int (nI (0))), (0, .ref ap), (1, .int (nI (i))), (2, .ref aq), (3, .int (nI (j)))]) hx hb d_J_areaShared_49 hl (k := 2) rfl (nI_add _ 1) (by decide) rfl (fun ls hl => ?_)
    refine lv_goto (tgt := 9) hx hb d_J_areaShared_52 (by decide) ?_
    refine lv_iload hx hb d_J_areaShared_9 (lv_at hl 0 rfl) ?_
    refine lv_iconst (v := (nI (3))) hx hb d_J_areaShared_11 (by decide) ?_
    refine jv_icmp_ge (tgt := 55) hx hb (by omega) (by omega) d_J_areaShared_12 (by decide) (fun h => absurd h (by decide)) (fun _ => ?_)
    refine lv_aload_n hx hb d_J_areaShared_15 rfl (lv_at hl 4 rfl) ?_
    refine lv_iload_n hx hb d_J_areaShared_16 rfl (lv_at hl 5 rfl) ?_
    refine lv_aload_n hx hb d_J_areaShared_17 rfl (lv_at hl 6 rfl) ?_
    refine lv_iload_n hx hb d_J_areaShared_18 rfl (lv_at hl 7 rfl) ?_
    refine lv_iload hx hb d_J_areaShared_19 (lv_at hl 0 rfl) ?_
    refine va_calli (va_runS (As := [.ref ap, .int (nI (i)), .ref aq, .int (nI (j)), .int (nI (1))]) (rest := []) ⟨hx, hb, hml, hown, htB⟩ (p_J_lengthShared l g z _ ap aq n n2 f f2 (i) (j) (1)) (va_cwS 5 htB (gS kw_165 kw_166 kw_1 g_J_lengthShared) rfl rfl rfl (by decide +kernel) ⟨by decide, by decide⟩) (pre_S hS hz ha ⟨hP, by omega, by omega, hn, hn2⟩) rfl rfl hl.1 rfl (lv_room (Nat.le_of_ble_eq_true rfl)) d_J_areaShared_21 ⟨by decide, by decide⟩) hS (fun q _ h => h.elim) (fun q h => h.elim) (fun r_3 u t H1 locs ht hvm hw hB hz1 hk1 hS => ?_)
    obtain rfl := hB.symm.trans ht
    subst hw
    refine lv_istore (lv' := [(8, .int (lenS f (i) f2 (j) (1))), (7, .int (nI (1))), (4, .long ((1) * (((mxI (nI (0)) (lenS f (i) f2 (j) (0)))).toInt64))), (6, .int (nI (0))), (0, .ref ap), (1, .int (nI (i))), (2, .ref aq), (3, .int (nI (j)))]) hx hb d_J_areaShared_24 hl (by decide) rfl (fun ls hl => ?_)
    refine lv_iload hx hb d_J_areaShared_26 (lv_at hl 0 rfl) ?_
    refine lv_if_ne (tgt := 37) hx hb d_J_areaShared_28 (by decide) (fun c_4 => ?_) (fun c_4 => ?_)
    · refine lv_lload hx hb d_J_areaShared_37 (lv_at hl 2 rfl) ?_
      refine lv_iconst (v := (nI (0))) hx hb d_J_areaShared_39 (by decide) ?_
      refine lv_iload hx hb d_J_areaShared_40 (lv_at hl 0 rfl) ?_
      refine va_mmax (own := "JointSolids") hx hb (hml.trans hl.1.symm) hown (htB _ kw_168) (htB _ kw_169) (htB _ kw_4) (htB _ kw_170) (Nat.le_of_ble_eq_true rfl) (Nat.le_of_ble_eq_true rfl) (Nat.le_of_ble_eq_true rfl) (Nat.le_of_ble_eq_true rfl) d_J_areaShared_42 ?_
      refine lv_i2l (v := ((mxI (nI (0)) (lenS f (i) f2 (j) (1)))).toInt64) hx hb d_J_areaShared_45 rfl ?_
      refine lv_lmul hx hb d_J_areaShared_46 ?_
      refine lv_lstore (lv' := [(4, .long (((1) * (((mxI (nI (0)) (lenS f (i) f2 (j) (0)))).toInt64)) * (((mxI (nI (0)) (lenS f (i) f2 (j) (1)))).toInt64))), (8, .int (lenS f (i) f2 (j) (1))), (7, .int (nI (1))), (6, .int (nI (0))), (0, .ref ap), (1, .int (nI (i))), (2, .ref aq), (3, .int (nI (j)))]) hx hb d_J_areaShared_47 hl (by decide) rfl (fun ls hl => ?_)
      refine lv_iinc (v := nI (2)) (lv' := [(7, .int (nI (2))), (4, .long (((1) * (((mxI (nI (0)) (lenS f (i) f2 (j) (0)))).toInt64)) * (((mxI (nI (0)) (lenS f (i) f2 (j) (1)))).toInt64))), (8, .int (lenS f (i) f2 (j) (1))), (6, .int (nI (0))), (0, .ref ap), (1, .int (nI (i))), (2, .ref aq), (3, .int (nI (j)))]) hx hb d_J_areaShared_49 hl (k := 2) rfl (nI_add _ 1) (by decide) rfl (fun ls hl => ?_)
      refine lv_goto (tgt := 9) hx hb d_J_areaShared_52 (by decide) ?_
      refine lv_iload hx hb d_J_areaShared_9 (lv_at hl 0 rfl) ?_
      refine lv_iconst (v := (nI (3))) hx hb d_J_areaShared_11 (by decide) ?_
      refine jv_icmp_ge (tgt := 55) hx hb (by omega) (by omega) d_J_areaShared_12 (by decide) (fun h => absurd h (by decide)) (fun _ => ?_)
      refine lv_aload_n hx hb d_J_areaShared_15 rfl (lv_at hl 4 rfl) ?_
      refine lv_iload_n hx hb d_J_areaShared_16 rfl (lv_at hl 5 rfl) ?_
      refine lv_aload_n hx hb d_J_areaShared_17 rfl (lv_at hl 6 rfl) ?_
      refine lv_iload_n hx hb d_J_areaShared_18 rfl (lv_at hl 7 rfl) ?_
      refine lv_iload hx hb d_J_areaShared_19 (lv_at hl 0 rfl) ?_
      refine va_calli (va_runS (As := [.ref ap, .int (nI (i)), .ref aq, .int (nI (j)), .int (nI (2))]) (rest := []) ⟨hx, hb, hml, hown, htB⟩ (p_J_lengthShared l g z _ ap aq n n2 f f2 (i) (j) (2)) (va_cwS 5 htB (gS kw_165 kw_166 kw_1 g_J_lengthShared) rfl rfl rfl (by decide +kernel) ⟨by decide, by decide⟩) (pre_S hS hz ha ⟨hP, by omega, by omega, hn, hn2⟩) rfl rfl hl.1 rfl (lv_room (Nat.le_of_ble_eq_true rfl)) d_J_areaShared_21 ⟨by decide, by decide⟩) hS (fun q _ h => h.elim) (fun q h => h.elim) (fun r_5 u t H1 locs ht hvm hw hB hz1 hk1 hS => ?_)
      obtain rfl := hB.symm.trans ht
      subst hw
      refine lv_istore (lv' := [(8, .int (lenS f (i) f2 (j) (2))), (7, .int (nI (2))), (4, .long (((1) * (((mxI (nI (0)) (lenS f (i) f2 (j) (0)))).toInt64)) * (((mxI (nI (0)) (lenS f (i) f2 (j) (1)))).toInt64))), (6, .int (nI (0))), (0, .ref ap), (1, .int (nI (i))), (2, .ref aq), (3, .int (nI (j)))]) hx hb d_J_areaShared_24 hl (by decide) rfl (fun ls hl => ?_)
      refine lv_iload hx hb d_J_areaShared_26 (lv_at hl 0 rfl) ?_
      refine lv_if_ne (tgt := 37) hx hb d_J_areaShared_28 (by decide) (fun c_6 => ?_) (fun c_6 => ?_)
      · refine lv_lload hx hb d_J_areaShared_37 (lv_at hl 2 rfl) ?_
        refine lv_iconst (v := (nI (0))) hx hb d_J_areaShared_39 (by decide) ?_
        refine lv_iload hx hb d_J_areaShared_40 (lv_at hl 0 rfl) ?_
        refine va_mmax (own := "JointSolids") hx hb (hml.trans hl.1.symm) hown (htB _ kw_168) (htB _ kw_169) (htB _ kw_4) (htB _ kw_170) (Nat.le_of_ble_eq_true rfl) (Nat.le_of_ble_eq_true rfl) (Nat.le_of_ble_eq_true rfl) (Nat.le_of_ble_eq_true rfl) d_J_areaShared_42 ?_
        refine lv_i2l (v := ((mxI (nI (0)) (lenS f (i) f2 (j) (2)))).toInt64) hx hb d_J_areaShared_45 rfl ?_
        refine lv_lmul hx hb d_J_areaShared_46 ?_
        refine lv_lstore (lv' := [(4, .long ((((1) * (((mxI (nI (0)) (lenS f (i) f2 (j) (0)))).toInt64)) * (((mxI (nI (0)) (lenS f (i) f2 (j) (1)))).toInt64)) * (((mxI (nI (0)) (lenS f (i) f2 (j) (2)))).toInt64))), (8, .int (lenS f (i) f2 (j) (2))), (7, .int (nI (2))), (6, .int (nI (0))), (0, .ref ap), (1, .int (nI (i))), (2, .ref aq), (3, .int (nI (j)))]) hx hb d_J_areaShared_47 hl (by decide) rfl (fun ls hl => ?_)
        refine lv_iinc (v := nI (3)) (lv' := [(7, .int (nI (3))), (4, .long ((((1) * (((mxI (nI (0)) (lenS f (i) f2 (j) (0)))).toInt64)) * (((mxI (nI (0)) (lenS f (i) f2 (j) (1)))).toInt64)) * (((mxI (nI (0)) (lenS f (i) f2 (j) (2)))).toInt64))), (8, .int (lenS f (i) f2 (j) (2))), (6, .int (nI (0))), (0, .ref ap), (1, .int (nI (i))), (2, .ref aq), (3, .int (nI (j)))]) hx hb d_J_areaShared_49 hl (k := 2) rfl (nI_add _ 1) (by decide) rfl (fun ls hl => ?_)
        refine lv_goto (tgt := 9) hx hb d_J_areaShared_52 (by decide) ?_
        refine lv_iload hx hb d_J_areaShared_9 (lv_at hl 0 rfl) ?_
        refine lv_iconst (v := (nI (3))) hx hb d_J_areaShared_11 (by decide) ?_
        refine jv_icmp_ge (tgt := 55) hx hb (by omega) (by omega) d_J_areaShared_12 (by decide) (fun _ => ?_) (fun h => absurd h (by decide))
        refine lv_iload hx hb d_J_areaShared_55 (lv_at hl 3 rfl) ?_
        refine lv_iconst (v := (nI (1))) hx hb d_J_areaShared_57 (by decide) ?_
        refine jv_icmp_ne (tgt := 66) hx hb (by omega) (by omega) d_J_areaShared_58 (by decide) (fun _ => ?_) (fun h => absurd h (by decide))
        refine lv_lconst (v := 0) hx hb d_J_areaShared_66 (by decide) ?_
        exact W.lret (v := (0)) hx hb hr (fun t ht hW => ⟨⟨(0), (), rfl, by simp only [arS, c_2, c_4, c_6, if_true, if_false], ht⟩, hS.F ht⟩) hS.2.2 d_J_areaShared_67
      · refine lv_iinc (v := nI (1)) (lv' := [(6, .int (nI (1))), (8, .int (lenS f (i) f2 (j) (2))), (7, .int (nI (2))), (4, .long (((1) * (((mxI (nI (0)) (lenS f (i) f2 (j) (0)))).toInt64)) * (((mxI (nI (0)) (lenS f (i) f2 (j) (1)))).toInt64))), (0, .ref ap), (1, .int (nI (i))), (2, .ref aq), (3, .int (nI (j)))]) hx hb d_J_areaShared_31 hl (k := 3) rfl (nI_add _ 1) (by decide) rfl (fun ls hl => ?_)
        refine lv_goto (tgt := 49) hx hb d_J_areaShared_34 (by decide) ?_
        refine lv_iinc (v := nI (3)) (lv' := [(7, .int (nI (3))), (6, .int (nI (1))), (8, .int (lenS f (i) f2 (j) (2))), (4, .long (((1) * (((mxI (nI (0)) (lenS f (i) f2 (j) (0)))).toInt64)) * (((mxI (nI (0)) (lenS f (i) f2 (j) (1)))).toInt64))), (0, .ref ap), (1, .int (nI (i))), (2, .ref aq), (3, .int (nI (j)))]) hx hb d_J_areaShared_49 hl (k := 2) rfl (nI_add _ 1) (by decide) rfl (fun ls hl => ?_)
        refine lv_goto (tgt := 9) hx hb d_J_areaShared_52 (by decide) ?_
        refine lv_iload hx hb d_J_areaShared_9 (lv_at hl 0 rfl) ?_
        refine lv_iconst (v := (nI (3))) hx hb d_J_areaShared_11 (by decide) ?_
        refine jv_icmp_ge (tgt := 55) hx hb (by omega) (by omega) d_J_areaShared_12 (by decide) (fun _ => ?_) (fun h => absurd h (by decide))
        refine lv_iload hx hb d_J_areaShared_55 (lv_at hl 1 rfl) ?_
        refine lv_iconst (v := (nI (1))) hx hb d_J_areaShared_57 (by decide) ?_
        refine jv_icmp_ne (tgt := 66) hx hb (by omega) (by omega) d_J_areaShared_58 (by decide) (fun h => absurd h (by decide)) (fun _ => ?_)
        refine lv_lload hx hb d_J_areaShared_61 (lv_at hl 3 rfl) ?_
        refine lv_goto (tgt := 67) hx hb d_J_areaShared_63 (by decide) ?_
        exact W.lret (v := (((1) * (((mxI (nI (0)) (lenS f (i) f2 (j) (0)))).toInt64)) * (((mxI (nI (0)) (lenS f (i) f2 (j) (1)))).toInt64))) hx hb hr (fun t ht hW => ⟨⟨(((1) * (((mxI (nI (0)) (lenS f (i) f2 (j) (0)))).toInt64)) * (((mxI (nI (0)) (lenS f (i) f2 (j) (1)))).toInt64)), (), rfl, by simp only [arS, c_2, c_4, c_6, if_true, if_false], ht⟩, hS.F ht⟩) hS.2.2 d_J_areaShared_67
    · refine lv_iinc (v := nI (1)) (lv' := [(6, .int (nI (1))), (8, .int (lenS f (i) f2 (j) (1))), (7, .int (nI (1))), (4, .long ((1) * (((mxI (nI (0)) (lenS f (i) f2 (j) (0)))).toInt64))), (0, .ref ap), (1, .int (nI (i))), (2, .ref aq), (3, .int (nI (j)))]) hx hb d_J_areaShared_31 hl (k := 3) rfl (nI_add _ 1) (by decide) rfl (fun ls hl => ?_)
      refine lv_goto (tgt := 49) hx hb d_J_areaShared_34 (by decide) ?_
      refine lv_iinc (v := nI (2)) (lv' := [(7, .int (nI (2))), (6, .int (nI (1))), (8, .int (lenS f (i) f2 (j) (1))), (4, .long ((1) * (((mxI (nI (0)) (lenS f (i) f2 (j) (0)))).toInt64))), (0, .ref ap), (1, .int (nI (i))), (2, .ref aq), (3, .int (nI (j)))]) hx hb d_J_areaShared_49 hl (k := 2) rfl (nI_add _ 1) (by decide) rfl (fun ls hl => ?_)
      refine lv_goto (tgt := 9) hx hb d_J_areaShared_52 (by decide) ?_
      refine lv_iload hx hb d_J_areaShared_9 (lv_at hl 0 rfl) ?_
      refine lv_iconst (v := (nI (3))) hx hb d_J_areaShared_11 (by decide) ?_
      refine jv_icmp_ge (tgt := 55) hx hb (by omega) (by omega) d_J_areaShared_12 (by decide) (fun h => absurd h (by decide)) (fun _ => ?_)
      refine lv_aload_n hx hb d_J_areaShared_15 rfl (lv_at hl 4 rfl) ?_
      refine lv_iload_n hx hb d_J_areaShared_16 rfl (lv_at hl 5 rfl) ?_
      refine lv_aload_n hx hb d_J_areaShared_17 rfl (lv_at hl 6 rfl) ?_
      refine lv_iload_n hx hb d_J_areaShared_18 rfl (lv_at hl 7 rfl) ?_
      refine lv_iload hx hb d_J_areaShared_19 (lv_at hl 0 rfl) ?_
      refine va_calli (va_runS (As := [.ref ap, .int (nI (i)), .ref aq, .int (nI (j)), .int (nI (2))]) (rest := []) ⟨hx, hb, hml, hown, htB⟩ (p_J_lengthShared l g z _ ap aq n n2 f f2 (i) (j) (2)) (va_cwS 5 htB (gS kw_165 kw_166 kw_1 g_J_lengthShared) rfl rfl rfl (by decide +kernel) ⟨by decide, by decide⟩) (pre_S hS hz ha ⟨hP, by omega, by omega, hn, hn2⟩) rfl rfl hl.1 rfl (lv_room (Nat.le_of_ble_eq_true rfl)) d_J_areaShared_21 ⟨by decide, by decide⟩) hS (fun q _ h => h.elim) (fun q h => h.elim) (fun r_7 u t H1 locs ht hvm hw hB hz1 hk1 hS => ?_)
      obtain rfl := hB.symm.trans ht
      subst hw
      refine lv_istore (lv' := [(8, .int (lenS f (i) f2 (j) (2))), (7, .int (nI (2))), (6, .int (nI (1))), (4, .long ((1) * (((mxI (nI (0)) (lenS f (i) f2 (j) (0)))).toInt64))), (0, .ref ap), (1, .int (nI (i))), (2, .ref aq), (3, .int (nI (j)))]) hx hb d_J_areaShared_24 hl (by decide) rfl (fun ls hl => ?_)
      refine lv_iload hx hb d_J_areaShared_26 (lv_at hl 0 rfl) ?_
      refine lv_if_ne (tgt := 37) hx hb d_J_areaShared_28 (by decide) (fun c_8 => ?_) (fun c_8 => ?_)
      · refine lv_lload hx hb d_J_areaShared_37 (lv_at hl 3 rfl) ?_
        refine lv_iconst (v := (nI (0))) hx hb d_J_areaShared_39 (by decide) ?_
        refine lv_iload hx hb d_J_areaShared_40 (lv_at hl 0 rfl) ?_
        refine va_mmax (own := "JointSolids") hx hb (hml.trans hl.1.symm) hown (htB _ kw_168) (htB _ kw_169) (htB _ kw_4) (htB _ kw_170) (Nat.le_of_ble_eq_true rfl) (Nat.le_of_ble_eq_true rfl) (Nat.le_of_ble_eq_true rfl) (Nat.le_of_ble_eq_true rfl) d_J_areaShared_42 ?_
        refine lv_i2l (v := ((mxI (nI (0)) (lenS f (i) f2 (j) (2)))).toInt64) hx hb d_J_areaShared_45 rfl ?_
        refine lv_lmul hx hb d_J_areaShared_46 ?_
        refine lv_lstore (lv' := [(4, .long (((1) * (((mxI (nI (0)) (lenS f (i) f2 (j) (0)))).toInt64)) * (((mxI (nI (0)) (lenS f (i) f2 (j) (2)))).toInt64))), (8, .int (lenS f (i) f2 (j) (2))), (7, .int (nI (2))), (6, .int (nI (1))), (0, .ref ap), (1, .int (nI (i))), (2, .ref aq), (3, .int (nI (j)))]) hx hb d_J_areaShared_47 hl (by decide) rfl (fun ls hl => ?_)
        refine lv_iinc (v := nI (3)) (lv' := [(7, .int (nI (3))), (4, .long (((1) * (((mxI (nI (0)) (lenS f (i) f2 (j) (0)))).toInt64)) * (((mxI (nI (0)) (lenS f (i) f2 (j) (2)))).toInt64))), (8, .int (lenS f (i) f2 (j) (2))), (6, .int (nI (1))), (0, .ref ap), (1, .int (nI (i))), (2, .ref aq), (3, .int (nI (j)))]) hx hb d_J_areaShared_49 hl (k := 2) rfl (nI_add _ 1) (by decide) rfl (fun ls hl => ?_)
        refine lv_goto (tgt := 9) hx hb d_J_areaShared_52 (by decide) ?_
        refine lv_iload hx hb d_J_areaShared_9 (lv_at hl 0 rfl) ?_
        refine lv_iconst (v := (nI (3))) hx hb d_J_areaShared_11 (by decide) ?_
        refine jv_icmp_ge (tgt := 55) hx hb (by omega) (by omega) d_J_areaShared_12 (by decide) (fun _ => ?_) (fun h => absurd h (by decide))
        refine lv_iload hx hb d_J_areaShared_55 (lv_at hl 3 rfl) ?_
        refine lv_iconst (v := (nI (1))) hx hb d_J_areaShared_57 (by decide) ?_
        refine jv_icmp_ne (tgt := 66) hx hb (by omega) (by omega) d_J_areaShared_58 (by decide) (fun h => absurd h (by decide)) (fun _ => ?_)
        refine lv_lload hx hb d_J_areaShared_61 (lv_at hl 1 rfl) ?_
        refine lv_goto (tgt := 67) hx hb d_J_areaShared_63 (by decide) ?_
        exact W.lret (v := (((1) * (((mxI (nI (0)) (lenS f (i) f2 (j) (0)))).toInt64)) * (((mxI (nI (0)) (lenS f (i) f2 (j) (2)))).toInt64))) hx hb hr (fun t ht hW => ⟨⟨(((1) * (((mxI (nI (0)) (lenS f (i) f2 (j) (0)))).toInt64)) * (((mxI (nI (0)) (lenS f (i) f2 (j) (2)))).toInt64)), (), rfl, by simp only [arS, c_2, c_4, c_8, if_true, if_false], ht⟩, hS.F ht⟩) hS.2.2 d_J_areaShared_67
      · refine lv_iinc (v := nI (2)) (lv' := [(6, .int (nI (2))), (8, .int (lenS f (i) f2 (j) (2))), (7, .int (nI (2))), (4, .long ((1) * (((mxI (nI (0)) (lenS f (i) f2 (j) (0)))).toInt64))), (0, .ref ap), (1, .int (nI (i))), (2, .ref aq), (3, .int (nI (j)))]) hx hb d_J_areaShared_31 hl (k := 2) rfl (nI_add _ 1) (by decide) rfl (fun ls hl => ?_)
        refine lv_goto (tgt := 49) hx hb d_J_areaShared_34 (by decide) ?_
        refine lv_iinc (v := nI (3)) (lv' := [(7, .int (nI (3))), (6, .int (nI (2))), (8, .int (lenS f (i) f2 (j) (2))), (4, .long ((1) * (((mxI (nI (0)) (lenS f (i) f2 (j) (0)))).toInt64))), (0, .ref ap), (1, .int (nI (i))), (2, .ref aq), (3, .int (nI (j)))]) hx hb d_J_areaShared_49 hl (k := 2) rfl (nI_add _ 1) (by decide) rfl (fun ls hl => ?_)
        refine lv_goto (tgt := 9) hx hb d_J_areaShared_52 (by decide) ?_
        refine lv_iload hx hb d_J_areaShared_9 (lv_at hl 0 rfl) ?_
        refine lv_iconst (v := (nI (3))) hx hb d_J_areaShared_11 (by decide) ?_
        refine jv_icmp_ge (tgt := 55) hx hb (by omega) (by omega) d_J_areaShared_12 (by decide) (fun _ => ?_) (fun h => absurd h (by decide))
        refine lv_iload hx hb d_J_areaShared_55 (lv_at hl 1 rfl) ?_
        refine lv_iconst (v := (nI (1))) hx hb d_J_areaShared_57 (by decide) ?_
        refine jv_icmp_ne (tgt := 66) hx hb (by omega) (by omega) d_J_areaShared_58 (by decide) (fun _ => ?_) (fun h => absurd h (by decide))
        refine lv_lconst (v := 0) hx hb d_J_areaShared_66 (by decide) ?_
        exact W.lret (v := (0)) hx hb hr (fun t ht hW => ⟨⟨(0), (), rfl, by simp only [arS, c_2, c_4, c_8, if_true, if_false], ht⟩, hS.F ht⟩) hS.2.2 d_J_areaShared_67
  · refine lv_iinc (v := nI (1)) (lv' := [(6, .int (nI (1))), (8, .int (lenS f (i) f2 (j) (0))), (7, .int (nI (0))), (4, .long (1)), (0, .ref ap), (1, .int (nI (i))), (2, .ref aq), (3, .int (nI (j)))]) hx hb d_J_areaShared_31 hl (k := 2) rfl (nI_add _ 1) (by decide) rfl (fun ls hl => ?_)
    refine lv_goto (tgt := 49) hx hb d_J_areaShared_34 (by decide) ?_
    refine lv_iinc (v := nI (1)) (lv' := [(7, .int (nI (1))), (6, .int (nI (1))), (8, .int (lenS f (i) f2 (j) (0))), (4, .long (1)), (0, .ref ap), (1, .int (nI (i))), (2, .ref aq), (3, .int (nI (j)))]) hx hb d_J_areaShared_49 hl (k := 2) rfl (nI_add _ 1) (by decide) rfl (fun ls hl => ?_)
    refine lv_goto (tgt := 9) hx hb d_J_areaShared_52 (by decide) ?_
    refine lv_iload hx hb d_J_areaShared_9 (lv_at hl 0 rfl) ?_
    refine lv_iconst (v := (nI (3))) hx hb d_J_areaShared_11 (by decide) ?_
    refine jv_icmp_ge (tgt := 55) hx hb (by omega) (by omega) d_J_areaShared_12 (by decide) (fun h => absurd h (by decide)) (fun _ => ?_)
    refine lv_aload_n hx hb d_J_areaShared_15 rfl (lv_at hl 4 rfl) ?_
    refine lv_iload_n hx hb d_J_areaShared_16 rfl (lv_at hl 5 rfl) ?_
    refine lv_aload_n hx hb d_J_areaShared_17 rfl (lv_at hl 6 rfl) ?_
    refine lv_iload_n hx hb d_J_areaShared_18 rfl (lv_at hl 7 rfl) ?_
    refine lv_iload hx hb d_J_areaShared_19 (lv_at hl 0 rfl) ?_
    refine va_calli (va_runS (As := [.ref ap, .int (nI (i)), .ref aq, .int (nI (j)), .int (nI (1))]) (rest := []) ⟨hx, hb, hml, hown, htB⟩ (p_J_lengthShared l g z _ ap aq n n2 f f2 (i) (j) (1)) (va_cwS 5 htB (gS kw_165 kw_166 kw_1 g_J_lengthShared) rfl rfl rfl (by decide +kernel) ⟨by decide, by decide⟩) (pre_S hS hz ha ⟨hP, by omega, by omega, hn, hn2⟩) rfl rfl hl.1 rfl (lv_room (Nat.le_of_ble_eq_true rfl)) d_J_areaShared_21 ⟨by decide, by decide⟩) hS (fun q _ h => h.elim) (fun q h => h.elim) (fun r_9 u t H1 locs ht hvm hw hB hz1 hk1 hS => ?_)
    obtain rfl := hB.symm.trans ht
    subst hw
    refine lv_istore (lv' := [(8, .int (lenS f (i) f2 (j) (1))), (7, .int (nI (1))), (6, .int (nI (1))), (4, .long (1)), (0, .ref ap), (1, .int (nI (i))), (2, .ref aq), (3, .int (nI (j)))]) hx hb d_J_areaShared_24 hl (by decide) rfl (fun ls hl => ?_)
    refine lv_iload hx hb d_J_areaShared_26 (lv_at hl 0 rfl) ?_
    refine lv_if_ne (tgt := 37) hx hb d_J_areaShared_28 (by decide) (fun c_10 => ?_) (fun c_10 => ?_)
    · refine lv_lload hx hb d_J_areaShared_37 (lv_at hl 3 rfl) ?_
      refine lv_iconst (v := (nI (0))) hx hb d_J_areaShared_39 (by decide) ?_
      refine lv_iload hx hb d_J_areaShared_40 (lv_at hl 0 rfl) ?_
      refine va_mmax (own := "JointSolids") hx hb (hml.trans hl.1.symm) hown (htB _ kw_168) (htB _ kw_169) (htB _ kw_4) (htB _ kw_170) (Nat.le_of_ble_eq_true rfl) (Nat.le_of_ble_eq_true rfl) (Nat.le_of_ble_eq_true rfl) (Nat.le_of_ble_eq_true rfl) d_J_areaShared_42 ?_
      refine lv_i2l (v := ((mxI (nI (0)) (lenS f (i) f2 (j) (1)))).toInt64) hx hb d_J_areaShared_45 rfl ?_
      refine lv_lmul hx hb d_J_areaShared_46 ?_
      refine lv_lstore (lv' := [(4, .long ((1) * (((mxI (nI (0)) (lenS f (i) f2 (j) (1)))).toInt64))), (8, .int (lenS f (i) f2 (j) (1))), (7, .int (nI (1))), (6, .int (nI (1))), (0, .ref ap), (1, .int (nI (i))), (2, .ref aq), (3, .int (nI (j)))]) hx hb d_J_areaShared_47 hl (by decide) rfl (fun ls hl => ?_)
      refine lv_iinc (v := nI (2)) (lv' := [(7, .int (nI (2))), (4, .long ((1) * (((mxI (nI (0)) (lenS f (i) f2 (j) (1)))).toInt64))), (8, .int (lenS f (i) f2 (j) (1))), (6, .int (nI (1))), (0, .ref ap), (1, .int (nI (i))), (2, .ref aq), (3, .int (nI (j)))]) hx hb d_J_areaShared_49 hl (k := 2) rfl (nI_add _ 1) (by decide) rfl (fun ls hl => ?_)
      refine lv_goto (tgt := 9) hx hb d_J_areaShared_52 (by decide) ?_
      refine lv_iload hx hb d_J_areaShared_9 (lv_at hl 0 rfl) ?_
      refine lv_iconst (v := (nI (3))) hx hb d_J_areaShared_11 (by decide) ?_
      refine jv_icmp_ge (tgt := 55) hx hb (by omega) (by omega) d_J_areaShared_12 (by decide) (fun h => absurd h (by decide)) (fun _ => ?_)
      refine lv_aload_n hx hb d_J_areaShared_15 rfl (lv_at hl 4 rfl) ?_
      refine lv_iload_n hx hb d_J_areaShared_16 rfl (lv_at hl 5 rfl) ?_
      refine lv_aload_n hx hb d_J_areaShared_17 rfl (lv_at hl 6 rfl) ?_
      refine lv_iload_n hx hb d_J_areaShared_18 rfl (lv_at hl 7 rfl) ?_
      refine lv_iload hx hb d_J_areaShared_19 (lv_at hl 0 rfl) ?_
      refine va_calli (va_runS (As := [.ref ap, .int (nI (i)), .ref aq, .int (nI (j)), .int (nI (2))]) (rest := []) ⟨hx, hb, hml, hown, htB⟩ (p_J_lengthShared l g z _ ap aq n n2 f f2 (i) (j) (2)) (va_cwS 5 htB (gS kw_165 kw_166 kw_1 g_J_lengthShared) rfl rfl rfl (by decide +kernel) ⟨by decide, by decide⟩) (pre_S hS hz ha ⟨hP, by omega, by omega, hn, hn2⟩) rfl rfl hl.1 rfl (lv_room (Nat.le_of_ble_eq_true rfl)) d_J_areaShared_21 ⟨by decide, by decide⟩) hS (fun q _ h => h.elim) (fun q h => h.elim) (fun r_11 u t H1 locs ht hvm hw hB hz1 hk1 hS => ?_)
      obtain rfl := hB.symm.trans ht
      subst hw
      refine lv_istore (lv' := [(8, .int (lenS f (i) f2 (j) (2))), (7, .int (nI (2))), (4, .long ((1) * (((mxI (nI (0)) (lenS f (i) f2 (j) (1)))).toInt64))), (6, .int (nI (1))), (0, .ref ap), (1, .int (nI (i))), (2, .ref aq), (3, .int (nI (j)))]) hx hb d_J_areaShared_24 hl (by decide) rfl (fun ls hl => ?_)
      refine lv_iload hx hb d_J_areaShared_26 (lv_at hl 0 rfl) ?_
      refine lv_if_ne (tgt := 37) hx hb d_J_areaShared_28 (by decide) (fun c_12 => ?_) (fun c_12 => ?_)
      · refine lv_lload hx hb d_J_areaShared_37 (lv_at hl 2 rfl) ?_
        refine lv_iconst (v := (nI (0))) hx hb d_J_areaShared_39 (by decide) ?_
        refine lv_iload hx hb d_J_areaShared_40 (lv_at hl 0 rfl) ?_
        refine va_mmax (own := "JointSolids") hx hb (hml.trans hl.1.symm) hown (htB _ kw_168) (htB _ kw_169) (htB _ kw_4) (htB _ kw_170) (Nat.le_of_ble_eq_true rfl) (Nat.le_of_ble_eq_true rfl) (Nat.le_of_ble_eq_true rfl) (Nat.le_of_ble_eq_true rfl) d_J_areaShared_42 ?_
        refine lv_i2l (v := ((mxI (nI (0)) (lenS f (i) f2 (j) (2)))).toInt64) hx hb d_J_areaShared_45 rfl ?_
        refine lv_lmul hx hb d_J_areaShared_46 ?_
        refine lv_lstore (lv' := [(4, .long (((1) * (((mxI (nI (0)) (lenS f (i) f2 (j) (1)))).toInt64)) * (((mxI (nI (0)) (lenS f (i) f2 (j) (2)))).toInt64))), (8, .int (lenS f (i) f2 (j) (2))), (7, .int (nI (2))), (6, .int (nI (1))), (0, .ref ap), (1, .int (nI (i))), (2, .ref aq), (3, .int (nI (j)))]) hx hb d_J_areaShared_47 hl (by decide) rfl (fun ls hl => ?_)
        refine lv_iinc (v := nI (3)) (lv' := [(7, .int (nI (3))), (4, .long (((1) * (((mxI (nI (0)) (lenS f (i) f2 (j) (1)))).toInt64)) * (((mxI (nI (0)) (lenS f (i) f2 (j) (2)))).toInt64))), (8, .int (lenS f (i) f2 (j) (2))), (6, .int (nI (1))), (0, .ref ap), (1, .int (nI (i))), (2, .ref aq), (3, .int (nI (j)))]) hx hb d_J_areaShared_49 hl (k := 2) rfl (nI_add _ 1) (by decide) rfl (fun ls hl => ?_)
        refine lv_goto (tgt := 9) hx hb d_J_areaShared_52 (by decide) ?_
        refine lv_iload hx hb d_J_areaShared_9 (lv_at hl 0 rfl) ?_
        refine lv_iconst (v := (nI (3))) hx hb d_J_areaShared_11 (by decide) ?_
        refine jv_icmp_ge (tgt := 55) hx hb (by omega) (by omega) d_J_areaShared_12 (by decide) (fun _ => ?_) (fun h => absurd h (by decide))
        refine lv_iload hx hb d_J_areaShared_55 (lv_at hl 3 rfl) ?_
        refine lv_iconst (v := (nI (1))) hx hb d_J_areaShared_57 (by decide) ?_
        refine jv_icmp_ne (tgt := 66) hx hb (by omega) (by omega) d_J_areaShared_58 (by decide) (fun h => absurd h (by decide)) (fun _ => ?_)
        refine lv_lload hx hb d_J_areaShared_61 (lv_at hl 1 rfl) ?_
        refine lv_goto (tgt := 67) hx hb d_J_areaShared_63 (by decide) ?_
        exact W.lret (v := (((1) * (((mxI (nI (0)) (lenS f (i) f2 (j) (1)))).toInt64)) * (((mxI (nI (0)) (lenS f (i) f2 (j) (2)))).toInt64))) hx hb hr (fun t ht hW => ⟨⟨(((1) * (((mxI (nI (0)) (lenS f (i) f2 (j) (1)))).toInt64)) * (((mxI (nI (0)) (lenS f (i) f2 (j) (2)))).toInt64)), (), rfl, by simp only [arS, c_2, c_10, c_12, if_true, if_false], ht⟩, hS.F ht⟩) hS.2.2 d_J_areaShared_67
      · refine lv_iinc (v := nI (2)) (lv' := [(6, .int (nI (2))), (8, .int (lenS f (i) f2 (j) (2))), (7, .int (nI (2))), (4, .long ((1) * (((mxI (nI (0)) (lenS f (i) f2 (j) (1)))).toInt64))), (0, .ref ap), (1, .int (nI (i))), (2, .ref aq), (3, .int (nI (j)))]) hx hb d_J_areaShared_31 hl (k := 3) rfl (nI_add _ 1) (by decide) rfl (fun ls hl => ?_)
        refine lv_goto (tgt := 49) hx hb d_J_areaShared_34 (by decide) ?_
        refine lv_iinc (v := nI (3)) (lv' := [(7, .int (nI (3))), (6, .int (nI (2))), (8, .int (lenS f (i) f2 (j) (2))), (4, .long ((1) * (((mxI (nI (0)) (lenS f (i) f2 (j) (1)))).toInt64))), (0, .ref ap), (1, .int (nI (i))), (2, .ref aq), (3, .int (nI (j)))]) hx hb d_J_areaShared_49 hl (k := 2) rfl (nI_add _ 1) (by decide) rfl (fun ls hl => ?_)
        refine lv_goto (tgt := 9) hx hb d_J_areaShared_52 (by decide) ?_
        refine lv_iload hx hb d_J_areaShared_9 (lv_at hl 0 rfl) ?_
        refine lv_iconst (v := (nI (3))) hx hb d_J_areaShared_11 (by decide) ?_
        refine jv_icmp_ge (tgt := 55) hx hb (by omega) (by omega) d_J_areaShared_12 (by decide) (fun _ => ?_) (fun h => absurd h (by decide))
        refine lv_iload hx hb d_J_areaShared_55 (lv_at hl 1 rfl) ?_
        refine lv_iconst (v := (nI (1))) hx hb d_J_areaShared_57 (by decide) ?_
        refine jv_icmp_ne (tgt := 66) hx hb (by omega) (by omega) d_J_areaShared_58 (by decide) (fun _ => ?_) (fun h => absurd h (by decide))
        refine lv_lconst (v := 0) hx hb d_J_areaShared_66 (by decide) ?_
        exact W.lret (v := (0)) hx hb hr (fun t ht hW => ⟨⟨(0), (), rfl, by simp only [arS, c_2, c_10, c_12, if_true, if_false], ht⟩, hS.F ht⟩) hS.2.2 d_J_areaShared_67
    · refine lv_iinc (v := nI (2)) (lv' := [(6, .int (nI (2))), (8, .int (lenS f (i) f2 (j) (1))), (7, .int (nI (1))), (4, .long (1)), (0, .ref ap), (1, .int (nI (i))), (2, .ref aq), (3, .int (nI (j)))]) hx hb d_J_areaShared_31 hl (k := 2) rfl (nI_add _ 1) (by decide) rfl (fun ls hl => ?_)
      refine lv_goto (tgt := 49) hx hb d_J_areaShared_34 (by decide) ?_
      refine lv_iinc (v := nI (2)) (lv' := [(7, .int (nI (2))), (6, .int (nI (2))), (8, .int (lenS f (i) f2 (j) (1))), (4, .long (1)), (0, .ref ap), (1, .int (nI (i))), (2, .ref aq), (3, .int (nI (j)))]) hx hb d_J_areaShared_49 hl (k := 2) rfl (nI_add _ 1) (by decide) rfl (fun ls hl => ?_)
      refine lv_goto (tgt := 9) hx hb d_J_areaShared_52 (by decide) ?_
      refine lv_iload hx hb d_J_areaShared_9 (lv_at hl 0 rfl) ?_
      refine lv_iconst (v := (nI (3))) hx hb d_J_areaShared_11 (by decide) ?_
      refine jv_icmp_ge (tgt := 55) hx hb (by omega) (by omega) d_J_areaShared_12 (by decide) (fun h => absurd h (by decide)) (fun _ => ?_)
      refine lv_aload_n hx hb d_J_areaShared_15 rfl (lv_at hl 4 rfl) ?_
      refine lv_iload_n hx hb d_J_areaShared_16 rfl (lv_at hl 5 rfl) ?_
      refine lv_aload_n hx hb d_J_areaShared_17 rfl (lv_at hl 6 rfl) ?_
      refine lv_iload_n hx hb d_J_areaShared_18 rfl (lv_at hl 7 rfl) ?_
      refine lv_iload hx hb d_J_areaShared_19 (lv_at hl 0 rfl) ?_
      refine va_calli (va_runS (As := [.ref ap, .int (nI (i)), .ref aq, .int (nI (j)), .int (nI (2))]) (rest := []) ⟨hx, hb, hml, hown, htB⟩ (p_J_lengthShared l g z _ ap aq n n2 f f2 (i) (j) (2)) (va_cwS 5 htB (gS kw_165 kw_166 kw_1 g_J_lengthShared) rfl rfl rfl (by decide +kernel) ⟨by decide, by decide⟩) (pre_S hS hz ha ⟨hP, by omega, by omega, hn, hn2⟩) rfl rfl hl.1 rfl (lv_room (Nat.le_of_ble_eq_true rfl)) d_J_areaShared_21 ⟨by decide, by decide⟩) hS (fun q _ h => h.elim) (fun q h => h.elim) (fun r_13 u t H1 locs ht hvm hw hB hz1 hk1 hS => ?_)
      obtain rfl := hB.symm.trans ht
      subst hw
      refine lv_istore (lv' := [(8, .int (lenS f (i) f2 (j) (2))), (7, .int (nI (2))), (6, .int (nI (2))), (4, .long (1)), (0, .ref ap), (1, .int (nI (i))), (2, .ref aq), (3, .int (nI (j)))]) hx hb d_J_areaShared_24 hl (by decide) rfl (fun ls hl => ?_)
      refine lv_iload hx hb d_J_areaShared_26 (lv_at hl 0 rfl) ?_
      refine lv_if_ne (tgt := 37) hx hb d_J_areaShared_28 (by decide) (fun c_14 => ?_) (fun c_14 => ?_)
      · refine lv_lload hx hb d_J_areaShared_37 (lv_at hl 3 rfl) ?_
        refine lv_iconst (v := (nI (0))) hx hb d_J_areaShared_39 (by decide) ?_
        refine lv_iload hx hb d_J_areaShared_40 (lv_at hl 0 rfl) ?_
        refine va_mmax (own := "JointSolids") hx hb (hml.trans hl.1.symm) hown (htB _ kw_168) (htB _ kw_169) (htB _ kw_4) (htB _ kw_170) (Nat.le_of_ble_eq_true rfl) (Nat.le_of_ble_eq_true rfl) (Nat.le_of_ble_eq_true rfl) (Nat.le_of_ble_eq_true rfl) d_J_areaShared_42 ?_
        refine lv_i2l (v := ((mxI (nI (0)) (lenS f (i) f2 (j) (2)))).toInt64) hx hb d_J_areaShared_45 rfl ?_
        refine lv_lmul hx hb d_J_areaShared_46 ?_
        refine lv_lstore (lv' := [(4, .long ((1) * (((mxI (nI (0)) (lenS f (i) f2 (j) (2)))).toInt64))), (8, .int (lenS f (i) f2 (j) (2))), (7, .int (nI (2))), (6, .int (nI (2))), (0, .ref ap), (1, .int (nI (i))), (2, .ref aq), (3, .int (nI (j)))]) hx hb d_J_areaShared_47 hl (by decide) rfl (fun ls hl => ?_)
        refine lv_iinc (v := nI (3)) (lv' := [(7, .int (nI (3))), (4, .long ((1) * (((mxI (nI (0)) (lenS f (i) f2 (j) (2)))).toInt64))), (8, .int (lenS f (i) f2 (j) (2))), (6, .int (nI (2))), (0, .ref ap), (1, .int (nI (i))), (2, .ref aq), (3, .int (nI (j)))]) hx hb d_J_areaShared_49 hl (k := 2) rfl (nI_add _ 1) (by decide) rfl (fun ls hl => ?_)
        refine lv_goto (tgt := 9) hx hb d_J_areaShared_52 (by decide) ?_
        refine lv_iload hx hb d_J_areaShared_9 (lv_at hl 0 rfl) ?_
        refine lv_iconst (v := (nI (3))) hx hb d_J_areaShared_11 (by decide) ?_
        refine jv_icmp_ge (tgt := 55) hx hb (by omega) (by omega) d_J_areaShared_12 (by decide) (fun _ => ?_) (fun h => absurd h (by decide))
        refine lv_iload hx hb d_J_areaShared_55 (lv_at hl 3 rfl) ?_
        refine lv_iconst (v := (nI (1))) hx hb d_J_areaShared_57 (by decide) ?_
        refine jv_icmp_ne (tgt := 66) hx hb (by omega) (by omega) d_J_areaShared_58 (by decide) (fun _ => ?_) (fun h => absurd h (by decide))
        refine lv_lconst (v := 0) hx hb d_J_areaShared_66 (by decide) ?_
        exact W.lret (v := (0)) hx hb hr (fun t ht hW => ⟨⟨(0), (), rfl, by simp only [arS, c_2, c_10, c_14, if_true, if_false], ht⟩, hS.F ht⟩) hS.2.2 d_J_areaShared_67
      · refine lv_iinc (v := nI (3)) (lv' := [(6, .int (nI (3))), (8, .int (lenS f (i) f2 (j) (2))), (7, .int (nI (2))), (4, .long (1)), (0, .ref ap), (1, .int (nI (i))), (2, .ref aq), (3, .int (nI (j)))]) hx hb d_J_areaShared_31 hl (k := 2) rfl (nI_add _ 1) (by decide) rfl (fun ls hl => ?_)
        refine lv_goto (tgt := 49) hx hb d_J_areaShared_34 (by decide) ?_
        refine lv_iinc (v := nI (3)) (lv' := [(7, .int (nI (3))), (6, .int (nI (3))), (8, .int (lenS f (i) f2 (j) (2))), (4, .long (1)), (0, .ref ap), (1, .int (nI (i))), (2, .ref aq), (3, .int (nI (j)))]) hx hb d_J_areaShared_49 hl (k := 2) rfl (nI_add _ 1) (by decide) rfl (fun ls hl => ?_)
        refine lv_goto (tgt := 9) hx hb d_J_areaShared_52 (by decide) ?_
        refine lv_iload hx hb d_J_areaShared_9 (lv_at hl 0 rfl) ?_
        refine lv_iconst (v := (nI (3))) hx hb d_J_areaShared_11 (by decide) ?_
        refine jv_icmp_ge (tgt := 55) hx hb (by omega) (by omega) d_J_areaShared_12 (by decide) (fun _ => ?_) (fun h => absurd h (by decide))
        refine lv_iload hx hb d_J_areaShared_55 (lv_at hl 1 rfl) ?_
        refine lv_iconst (v := (nI (1))) hx hb d_J_areaShared_57 (by decide) ?_
        refine jv_icmp_ne (tgt := 66) hx hb (by omega) (by omega) d_J_areaShared_58 (by decide) (fun _ => ?_) (fun h => absurd h (by decide))
        refine lv_lconst (v := 0) hx hb d_J_areaShared_66 (by decide) ?_
        exact W.lret (v := (0)) hx hb hr (fun t ht hW => ⟨⟨(0), (), rfl, by simp only [arS, c_2, c_10, c_14, if_true, if_false], ht⟩, hS.F ht⟩) hS.2.2 d_J_areaShared_67
theorem va_pair {D : va_G} {cl : List vw_C} {a b : Nat × va_E} {H : Heap} (h1 : va_at D cl a H) (h2 : va_at D cl b H) : va_P D cl [a, b] H := fun k q hk => match k, hk with
  | 0, hk => by cases hk; exact h1
  | 1, hk => by cases hk; exact h2
  | k + 2, hk => by simp at hk
def volB (fa : Nat → Int32) (na : Nat) (fb : Nat → Int32) (nb : Nat) : Int64 := sm (fun i => sm (fun j => volS fa (i * 6) fb (j * 6)) nb) na
set_option maxHeartbeats 4000000 in
set_option maxRecDepth 100000 in
theorem p_J_volumeOfBoth (l : Launch) (g : gT) (z : Nat) (H0 : Heap) (sa ba na sb bb nb : Nat) (fa fb : Nat → Int32) : Met l y_J_volumeOfBoth w_J_volumeOfBoth ({ frames := 3, cells := 0, slots := 0, locals := 65 }) (va_Pc [.ref sa, .ref sb] (pB g z H0 (va_P g.1 cls [(sa, .inr (0, [.ref ba, .int (nI na)])), (ba, eI g 144 fa), (sb, .inr (0, [.ref bb, .int (nI nb)])), (bb, eI g 144 fb)] H0 ∧ na ≤ 24 ∧ nb ≤ 24))) (qL (volB fa na fb nb) H0) 0 0 nA := by
  refine Met.ofW (cc := c_J_volumeOfBoth) (maxL := 6) (ret := (some .long)) (by decide) rfl ?_
  intro p e s m args below meth c s₁ B hml hv
  obtain ⟨rfl, hH0, ha, hP, hna, hnb⟩ := hv
  have hx := B.exec
  have hb := B.bytes
  have hr := B.returns
  have htB : ∀ w ∈ tB, w.before _ s = true := fun w h => atoms_spec (ws := w_J_volumeOfBoth) B.pre w (List.mem_cons_of_mem _ h)
  have hown : s.vm.findClass "JointSolids" = some m.cls := findClass_of_methodNamed B.named
  have hlocks := B.notSynchronized
  subst hH0
  have hz : ∀ q, nA q → z ≤ q := nA_z
  have hS : va_S nA s.heap s.heap [] := va_S.rf
  have hl := lv_entry ([.ref sa, .ref sb]) (n := 6) (Nat.le_of_ble_eq_true rfl)
  rw [lg_entry_eq]
  generalize (lg_sl ([.ref sa, .ref sb]) ++ List.replicate (6 - (lg_sl ([.ref sa, .ref sb])).length) Slot.unset).toArray = ls at hl ⊢
  have hl : lv_has ls 6 [(0, .ref sa), (1, .ref sb)] := hl
  refine lv_lconst (v := 0) hx hb d_J_volumeOfBoth_0 (by decide) ?_
  refine lv_lstore_n (lv' := [(2, .long (0)), (0, .ref sa), (1, .ref sb)]) hx hb d_J_volumeOfBoth_1 rfl hl (by decide) rfl (fun ls hl => ?_)
  refine lv_iconst (v := (nI (0))) hx hb d_J_volumeOfBoth_2 (by decide) ?_
  refine lv_istore (lv' := [(4, .int (nI (0))), (2, .long (0)), (0, .ref sa), (1, .ref sb)]) hx hb d_J_volumeOfBoth_3 hl (by decide) rfl (fun ls hl => ?_)
  obtain ⟨i, hinv, hi_i⟩ : ∃ i : Nat, lv_has ls 6 [(0, .ref sa), (1, .ref sb), (2, .long (sm (fun u => sm (fun v => volS fa (u * 6) fb (v * 6)) nb) i)), (4, .int (nI (i)))] ∧ i ≤ na := ⟨0, lv_sub hl [2, 3, 1, 0] rfl, Nat.zero_le _⟩
  obtain ⟨n_1, hn_i⟩ : ∃ n_1 : Nat, na + 1 ≤ i + n_1 := ⟨na + 1, by omega⟩
  refine W.ofL hS (fun locs hS => ?_)
  clear hl
  induction n_1 generalizing i ls locs with
  | zero => exact absurd hn_i (by omega)
  | succ n_1 ih_2 =>
    have hl := hinv
    refine lv_iload hx hb d_J_volumeOfBoth_5 (lv_at hl 3 rfl) ?_
    refine lv_aload_n hx hb d_J_volumeOfBoth_7 rfl (lv_at hl 0 rfl) ?_
    refine va_getN (D := g.1) (ci := 0) (v := .int (nI (na))) (C := R_S) (T := F_S) (N := 2) hx hb htB in_S hown ha.1 hP 0 rfl rfl 1 (by decide) (va_Nw.use rfl (ha.2.1 _ nb_2)) (fun _ h9 => h9) rfl d_J_volumeOfBoth_8 ?_
    refine jv_icmp_ge (tgt := 62) hx hb (by omega) (by omega) d_J_volumeOfBoth_11 (by decide) (fun c_3 => ?_) (fun c_3 => ?_)
    · refine lv_lload_n hx hb d_J_volumeOfBoth_62 rfl (lv_at hl 2 rfl) ?_
      exact W.lret (v := (sm (fun u => sm (fun v => volS fa (u * 6) fb (v * 6)) nb) i)) hx hb hr (fun t ht hW => ⟨⟨(sm (fun u => sm (fun v => volS fa (u * 6) fb (v * 6)) nb) i), (), rfl, by rw [show i = na from by omega]; rfl, ht⟩, hS.F ht⟩) hS.2.2 d_J_volumeOfBoth_63
    · refine lv_iconst (v := (nI (0))) hx hb d_J_volumeOfBoth_14 (by decide) ?_
      refine lv_istore (lv' := [(5, .int (nI (0))), (0, .ref sa), (1, .ref sb), (2, .long (sm (fun u => sm (fun v => volS fa (u * 6) fb (v * 6)) nb) i)), (4, .int (nI (i)))]) hx hb d_J_volumeOfBoth_15 hl (by decide) rfl (fun ls hl => ?_)
      rw [sm_zero (fun v => volS fa (i * 6) fb (v * 6)) (sm (fun u => sm (fun v => volS fa (u * 6) fb (v * 6)) nb) i)] at hl
      obtain ⟨j, hinv, hi_j⟩ : ∃ j : Nat, lv_has ls 6 [(0, .ref sa), (1, .ref sb), (2, .long (sm (fun u => sm (fun v => volS fa (u * 6) fb (v * 6)) nb) i + sm (fun v => volS fa (i * 6) fb (v * 6)) j)), (4, .int (nI (i))), (5, .int (nI (j)))] ∧ j ≤ nb := ⟨0, lv_sub hl [1, 2, 3, 4, 0] rfl, Nat.zero_le _⟩
      obtain ⟨n_4, hn_j⟩ : ∃ n_4 : Nat, nb + 1 ≤ j + n_4 := ⟨nb + 1, by omega⟩
      refine W.ofL hS (fun locs hS => ?_)
      clear hl
      induction n_4 generalizing j ls locs with
      | zero => exact absurd hn_j (by omega)
      | succ n_4 ih_5 =>
        have hl := hinv
        refine lv_iload hx hb d_J_volumeOfBoth_17 (lv_at hl 4 rfl) ?_
        refine lv_aload_n hx hb d_J_volumeOfBoth_19 rfl (lv_at hl 1 rfl) ?_
        refine va_getN (D := g.1) (ci := 0) (v := .int (nI (nb))) (C := R_S) (T := F_S) (N := 2) hx hb htB in_S hown ha.1 hP 2 rfl rfl 1 (by decide) (va_Nw.use rfl (ha.2.1 _ nb_2)) (fun _ h9 => h9) rfl d_J_volumeOfBoth_20 ?_
        refine jv_icmp_ge (tgt := 56) hx hb (by omega) (by omega) d_J_volumeOfBoth_23 (by decide) (fun c_6 => ?_) (fun c_6 => ?_)
        · refine lv_iinc (v := nI (i + 1)) (lv' := [(4, .int (nI (i + 1))), (0, .ref sa), (1, .ref sb), (2, .long (sm (fun u => sm (fun v => volS fa (u * 6) fb (v * 6)) nb) i + sm (fun v => volS fa (i * 6) fb (v * 6)) j)), (5, .int (nI (j)))]) hx hb d_J_volumeOfBoth_56 hl (k := 3) rfl (nI_add _ 1) (by decide) rfl (fun ls hl => ?_)
          refine lv_goto (tgt := 5) hx hb d_J_volumeOfBoth_59 (by decide) ?_
          rw [show j = nb from by omega] at hl
          exact ih_2 (locs := locs) (ls := ls) (i := i + 1) (hS := hS) (hinv := lv_sub (l' := [(0, .ref sa), (1, .ref sb), (2, .long (sm (fun u => sm (fun v => volS fa (u * 6) fb (v * 6)) nb) (i + 1))), (4, .int (nI ((i + 1))))]) hl [1, 2, 3, 0] rfl) (hi_i := by omega) (hn_i := by omega)
        · refine lv_lload_n hx hb d_J_volumeOfBoth_26 rfl (lv_at hl 2 rfl) ?_
          refine lv_aload_n hx hb d_J_volumeOfBoth_27 rfl (lv_at hl 0 rfl) ?_
          refine va_getN (D := g.1) (ci := 0) (v := .ref ba) (C := R_S) (T := F_S) (N := 2) hx hb htB in_S hown ha.1 hP 0 rfl rfl 0 (by decide) (va_Nw.use rfl (ha.2.1 _ nb_1)) (fun _ h9 => h9) rfl d_J_volumeOfBoth_28 ?_
          refine lv_iload hx hb d_J_volumeOfBoth_31 (lv_at hl 3 rfl) ?_
          refine lv_bipush (v := (nI (6))) hx hb d_J_volumeOfBoth_33 (by decide) ?_
          refine jv_imul hx hb d_J_volumeOfBoth_35 ?_
          refine lv_aload_n hx hb d_J_volumeOfBoth_36 rfl (lv_at hl 1 rfl) ?_
          refine va_getN (D := g.1) (ci := 0) (v := .ref bb) (C := R_S) (T := F_S) (N := 2) hx hb htB in_S hown ha.1 hP 2 rfl rfl 0 (by decide) (va_Nw.use rfl (ha.2.1 _ nb_1)) (fun _ h9 => h9) rfl d_J_volumeOfBoth_37 ?_
          refine lv_iload hx hb d_J_volumeOfBoth_40 (lv_at hl 4 rfl) ?_
          refine lv_bipush (v := (nI (6))) hx hb d_J_volumeOfBoth_42 (by decide) ?_
          refine jv_imul hx hb d_J_volumeOfBoth_44 ?_
          refine va_calll (va_runS (As := [.ref ba, .int (nI (i * 6)), .ref bb, .int (nI (j * 6))]) (rest := [.long (sm (fun u => sm (fun v => volS fa (u * 6) fb (v * 6)) nb) i + sm (fun v => volS fa (i * 6) fb (v * 6)) j)]) ⟨hx, hb, hml, hown, htB⟩ (p_J_volumeShared l g z _ ba bb 144 144 fa fb (i * 6) (j * 6)) (va_cwS 4 htB (gS kw_162 kw_163 kw_1 g_J_volumeShared) rfl rfl rfl (by decide +kernel) ⟨by decide, by decide⟩) (pre_S hS hz ha ⟨va_pair (hP 1 _ rfl) (hP 3 _ rfl), by omega, by omega, by omega, by omega⟩) rfl rfl hl.1 rfl (lv_room (Nat.le_of_ble_eq_true rfl)) d_J_volumeOfBoth_45 ⟨by decide, by decide⟩) hS (fun q _ h => h.elim) (fun q h => h.elim) (fun r_7 u t H1 locs ht hvm hw hB hz1 hk1 hS => ?_)
          obtain rfl := hB.symm.trans ht
          subst hw
          refine lv_ladd hx hb d_J_volumeOfBoth_48 ?_
          refine lv_lstore_n (lv' := [(2, .long ((sm (fun u => sm (fun v => volS fa (u * 6) fb (v * 6)) nb) i + sm (fun v => volS fa (i * 6) fb (v * 6)) j) + (volS fa (i * 6) fb (j * 6)))), (0, .ref sa), (1, .ref sb), (4, .int (nI (i))), (5, .int (nI (j)))]) hx hb d_J_volumeOfBoth_49 rfl hl (by decide) rfl (fun ls hl => ?_)
          refine lv_iinc (v := nI (j + 1)) (lv' := [(5, .int (nI (j + 1))), (2, .long ((sm (fun u => sm (fun v => volS fa (u * 6) fb (v * 6)) nb) i + sm (fun v => volS fa (i * 6) fb (v * 6)) j) + (volS fa (i * 6) fb (j * 6)))), (0, .ref sa), (1, .ref sb), (4, .int (nI (i)))]) hx hb d_J_volumeOfBoth_50 hl (k := 4) rfl (nI_add _ 1) (by decide) rfl (fun ls hl => ?_)
          refine lv_goto (tgt := 17) hx hb d_J_volumeOfBoth_53 (by decide) ?_
          rw [sm_add (fun v => volS fa (i * 6) fb (v * 6)) (sm (fun u => sm (fun v => volS fa (u * 6) fb (v * 6)) nb) i) j] at hl
          exact ih_5 (locs := locs) (ls := ls) (j := j + 1) (hS := hS) (hinv := lv_sub (l' := [(0, .ref sa), (1, .ref sb), (2, .long (sm (fun u => sm (fun v => volS fa (u * 6) fb (v * 6)) nb) i + sm (fun v => volS fa (i * 6) fb (v * 6)) (j + 1))), (4, .int (nI (i))), (5, .int (nI ((j + 1))))]) hl [2, 3, 1, 4, 0] rfl) (hi_j := by omega) (hn_j := by omega)
def arB (fa : Nat → Int32) (na : Nat) (fb : Nat → Int32) (nb : Nat) : Int64 := sm (fun i => sm (fun j => arS fa (i * 6) fb (j * 6)) nb) na
set_option maxHeartbeats 4000000 in
set_option maxRecDepth 100000 in
theorem p_J_areaOfBoth (l : Launch) (g : gT) (z : Nat) (H0 : Heap) (sa ba na sb bb nb : Nat) (fa fb : Nat → Int32) : Met l y_J_areaOfBoth w_J_areaOfBoth ({ frames := 3, cells := 0, slots := 0, locals := 67 }) (va_Pc [.ref sa, .ref sb] (pB g z H0 (va_P g.1 cls [(sa, .inr (0, [.ref ba, .int (nI na)])), (ba, eI g 144 fa), (sb, .inr (0, [.ref bb, .int (nI nb)])), (bb, eI g 144 fb)] H0 ∧ na ≤ 24 ∧ nb ≤ 24))) (qL (arB fa na fb nb) H0) 0 0 nA := by
  refine Met.ofW (cc := c_J_areaOfBoth) (maxL := 6) (ret := (some .long)) (by decide) rfl ?_
  intro p e s m args below meth c s₁ B hml hv
  obtain ⟨rfl, hH0, ha, hP, hna, hnb⟩ := hv
  have hx := B.exec
  have hb := B.bytes
  have hr := B.returns
  have htB : ∀ w ∈ tB, w.before _ s = true := fun w h => atoms_spec (ws := w_J_areaOfBoth) B.pre w (List.mem_cons_of_mem _ h)
  have hown : s.vm.findClass "JointSolids" = some m.cls := findClass_of_methodNamed B.named
  have hlocks := B.notSynchronized
  subst hH0
  have hz : ∀ q, nA q → z ≤ q := nA_z
  have hS : va_S nA s.heap s.heap [] := va_S.rf
  have hl := lv_entry ([.ref sa, .ref sb]) (n := 6) (Nat.le_of_ble_eq_true rfl)
  rw [lg_entry_eq]
  generalize (lg_sl ([.ref sa, .ref sb]) ++ List.replicate (6 - (lg_sl ([.ref sa, .ref sb])).length) Slot.unset).toArray = ls at hl ⊢
  have hl : lv_has ls 6 [(0, .ref sa), (1, .ref sb)] := hl
  refine lv_lconst (v := 0) hx hb d_J_areaOfBoth_0 (by decide) ?_
  refine lv_lstore_n (lv' := [(2, .long (0)), (0, .ref sa), (1, .ref sb)]) hx hb d_J_areaOfBoth_1 rfl hl (by decide) rfl (fun ls hl => ?_)
  refine lv_iconst (v := (nI (0))) hx hb d_J_areaOfBoth_2 (by decide) ?_
  refine lv_istore (lv' := [(4, .int (nI (0))), (2, .long (0)), (0, .ref sa), (1, .ref sb)]) hx hb d_J_areaOfBoth_3 hl (by decide) rfl (fun ls hl => ?_)
  obtain ⟨i, hinv, hi_i⟩ : ∃ i : Nat, lv_has ls 6 [(0, .ref sa), (1, .ref sb), (2, .long (sm (fun u => sm (fun v => arS fa (u * 6) fb (v * 6)) nb) i)), (4, .int (nI (i)))] ∧ i ≤ na := ⟨0, lv_sub hl [2, 3, 1, 0] rfl, Nat.zero_le _⟩
  obtain ⟨n_1, hn_i⟩ : ∃ n_1 : Nat, na + 1 ≤ i + n_1 := ⟨na + 1, by omega⟩
  refine W.ofL hS (fun locs hS => ?_)
  clear hl
  induction n_1 generalizing i ls locs with
  | zero => exact absurd hn_i (by omega)
  | succ n_1 ih_2 =>
    have hl := hinv
    refine lv_iload hx hb d_J_areaOfBoth_5 (lv_at hl 3 rfl) ?_
    refine lv_aload_n hx hb d_J_areaOfBoth_7 rfl (lv_at hl 0 rfl) ?_
    refine va_getN (D := g.1) (ci := 0) (v := .int (nI (na))) (C := R_S) (T := F_S) (N := 2) hx hb htB in_S hown ha.1 hP 0 rfl rfl 1 (by decide) (va_Nw.use rfl (ha.2.1 _ nb_2)) (fun _ h9 => h9) rfl d_J_areaOfBoth_8 ?_
    refine jv_icmp_ge (tgt := 62) hx hb (by omega) (by omega) d_J_areaOfBoth_11 (by decide) (fun c_3 => ?_) (fun c_3 => ?_)
    · refine lv_lload_n hx hb d_J_areaOfBoth_62 rfl (lv_at hl 2 rfl) ?_
      exact W.lret (v := (sm (fun u => sm (fun v => arS fa (u * 6) fb (v * 6)) nb) i)) hx hb hr (fun t ht hW => ⟨⟨(sm (fun u => sm (fun v => arS fa (u * 6) fb (v * 6)) nb) i), (), rfl, by rw [show i = na from by omega]; rfl, ht⟩, hS.F ht⟩) hS.2.2 d_J_areaOfBoth_63
    · refine lv_iconst (v := (nI (0))) hx hb d_J_areaOfBoth_14 (by decide) ?_
      refine lv_istore (lv' := [(5, .int (nI (0))), (0, .ref sa), (1, .ref sb), (2, .long (sm (fun u => sm (fun v => arS fa (u * 6) fb (v * 6)) nb) i)), (4, .int (nI (i)))]) hx hb d_J_areaOfBoth_15 hl (by decide) rfl (fun ls hl => ?_)
      rw [sm_zero (fun v => arS fa (i * 6) fb (v * 6)) (sm (fun u => sm (fun v => arS fa (u * 6) fb (v * 6)) nb) i)] at hl
      obtain ⟨j, hinv, hi_j⟩ : ∃ j : Nat, lv_has ls 6 [(0, .ref sa), (1, .ref sb), (2, .long (sm (fun u => sm (fun v => arS fa (u * 6) fb (v * 6)) nb) i + sm (fun v => arS fa (i * 6) fb (v * 6)) j)), (4, .int (nI (i))), (5, .int (nI (j)))] ∧ j ≤ nb := ⟨0, lv_sub hl [1, 2, 3, 4, 0] rfl, Nat.zero_le _⟩
      obtain ⟨n_4, hn_j⟩ : ∃ n_4 : Nat, nb + 1 ≤ j + n_4 := ⟨nb + 1, by omega⟩
      refine W.ofL hS (fun locs hS => ?_)
      clear hl
      induction n_4 generalizing j ls locs with
      | zero => exact absurd hn_j (by omega)
      | succ n_4 ih_5 =>
        have hl := hinv
        refine lv_iload hx hb d_J_areaOfBoth_17 (lv_at hl 4 rfl) ?_
        refine lv_aload_n hx hb d_J_areaOfBoth_19 rfl (lv_at hl 1 rfl) ?_
        refine va_getN (D := g.1) (ci := 0) (v := .int (nI (nb))) (C := R_S) (T := F_S) (N := 2) hx hb htB in_S hown ha.1 hP 2 rfl rfl 1 (by decide) (va_Nw.use rfl (ha.2.1 _ nb_2)) (fun _ h9 => h9) rfl d_J_areaOfBoth_20 ?_
        refine jv_icmp_ge (tgt := 56) hx hb (by omega) (by omega) d_J_areaOfBoth_23 (by decide) (fun c_6 => ?_) (fun c_6 => ?_)
        · refine lv_iinc (v := nI (i + 1)) (lv' := [(4, .int (nI (i + 1))), (0, .ref sa), (1, .ref sb), (2, .long (sm (fun u => sm (fun v => arS fa (u * 6) fb (v * 6)) nb) i + sm (fun v => arS fa (i * 6) fb (v * 6)) j)), (5, .int (nI (j)))]) hx hb d_J_areaOfBoth_56 hl (k := 3) rfl (nI_add _ 1) (by decide) rfl (fun ls hl => ?_)
          refine lv_goto (tgt := 5) hx hb d_J_areaOfBoth_59 (by decide) ?_
          rw [show j = nb from by omega] at hl
          exact ih_2 (locs := locs) (ls := ls) (i := i + 1) (hS := hS) (hinv := lv_sub (l' := [(0, .ref sa), (1, .ref sb), (2, .long (sm (fun u => sm (fun v => arS fa (u * 6) fb (v * 6)) nb) (i + 1))), (4, .int (nI ((i + 1))))]) hl [1, 2, 3, 0] rfl) (hi_i := by omega) (hn_i := by omega)
        · refine lv_lload_n hx hb d_J_areaOfBoth_26 rfl (lv_at hl 2 rfl) ?_
          refine lv_aload_n hx hb d_J_areaOfBoth_27 rfl (lv_at hl 0 rfl) ?_
          refine va_getN (D := g.1) (ci := 0) (v := .ref ba) (C := R_S) (T := F_S) (N := 2) hx hb htB in_S hown ha.1 hP 0 rfl rfl 0 (by decide) (va_Nw.use rfl (ha.2.1 _ nb_1)) (fun _ h9 => h9) rfl d_J_areaOfBoth_28 ?_
          refine lv_iload hx hb d_J_areaOfBoth_31 (lv_at hl 3 rfl) ?_
          refine lv_bipush (v := (nI (6))) hx hb d_J_areaOfBoth_33 (by decide) ?_
          refine jv_imul hx hb d_J_areaOfBoth_35 ?_
          refine lv_aload_n hx hb d_J_areaOfBoth_36 rfl (lv_at hl 1 rfl) ?_
          refine va_getN (D := g.1) (ci := 0) (v := .ref bb) (C := R_S) (T := F_S) (N := 2) hx hb htB in_S hown ha.1 hP 2 rfl rfl 0 (by decide) (va_Nw.use rfl (ha.2.1 _ nb_1)) (fun _ h9 => h9) rfl d_J_areaOfBoth_37 ?_
          refine lv_iload hx hb d_J_areaOfBoth_40 (lv_at hl 4 rfl) ?_
          refine lv_bipush (v := (nI (6))) hx hb d_J_areaOfBoth_42 (by decide) ?_
          refine jv_imul hx hb d_J_areaOfBoth_44 ?_
          refine va_calll (va_runS (As := [.ref ba, .int (nI (i * 6)), .ref bb, .int (nI (j * 6))]) (rest := [.long (sm (fun u => sm (fun v => arS fa (u * 6) fb (v * 6)) nb) i + sm (fun v => arS fa (i * 6) fb (v * 6)) j)]) ⟨hx, hb, hml, hown, htB⟩ (p_J_areaShared l g z _ ba bb 144 144 fa fb (i * 6) (j * 6)) (va_cwS 4 htB (gS kw_393 kw_394 kw_1 g_J_areaShared) rfl rfl rfl (by decide +kernel) ⟨by decide, by decide⟩) (pre_S hS hz ha ⟨va_pair (hP 1 _ rfl) (hP 3 _ rfl), by omega, by omega, by omega, by omega⟩) rfl rfl hl.1 rfl (lv_room (Nat.le_of_ble_eq_true rfl)) d_J_areaOfBoth_45 ⟨by decide, by decide⟩) hS (fun q _ h => h.elim) (fun q h => h.elim) (fun r_7 u t H1 locs ht hvm hw hB hz1 hk1 hS => ?_)
          obtain rfl := hB.symm.trans ht
          subst hw
          refine lv_ladd hx hb d_J_areaOfBoth_48 ?_
          refine lv_lstore_n (lv' := [(2, .long ((sm (fun u => sm (fun v => arS fa (u * 6) fb (v * 6)) nb) i + sm (fun v => arS fa (i * 6) fb (v * 6)) j) + (arS fa (i * 6) fb (j * 6)))), (0, .ref sa), (1, .ref sb), (4, .int (nI (i))), (5, .int (nI (j)))]) hx hb d_J_areaOfBoth_49 rfl hl (by decide) rfl (fun ls hl => ?_)
          refine lv_iinc (v := nI (j + 1)) (lv' := [(5, .int (nI (j + 1))), (2, .long ((sm (fun u => sm (fun v => arS fa (u * 6) fb (v * 6)) nb) i + sm (fun v => arS fa (i * 6) fb (v * 6)) j) + (arS fa (i * 6) fb (j * 6)))), (0, .ref sa), (1, .ref sb), (4, .int (nI (i)))]) hx hb d_J_areaOfBoth_50 hl (k := 4) rfl (nI_add _ 1) (by decide) rfl (fun ls hl => ?_)
          refine lv_goto (tgt := 17) hx hb d_J_areaOfBoth_53 (by decide) ?_
          rw [sm_add (fun v => arS fa (i * 6) fb (v * 6)) (sm (fun u => sm (fun v => arS fa (u * 6) fb (v * 6)) nb) i) j] at hl
          exact ih_5 (locs := locs) (ls := ls) (j := j + 1) (hS := hS) (hinv := lv_sub (l' := [(0, .ref sa), (1, .ref sb), (2, .long (sm (fun u => sm (fun v => arS fa (u * 6) fb (v * 6)) nb) i + sm (fun v => arS fa (i * 6) fb (v * 6)) (j + 1))), (4, .int (nI (i))), (5, .int (nI ((j + 1))))]) hl [2, 3, 1, 4, 0] rfl) (hi_j := by omega) (hn_j := by omega)
