abbrev axF (t r : Nat → Int32) (k : Nat) : Int32 := mxI (r k) (t k)
abbrev axT (t r : Nat → Int32) (k : Nat) : Int32 := mnI (r (k + 3)) (t (k + 3))
/-- one axis of a cut: the row 'rest' behind it, the number of boxes, the boxes -/
def axR (t r : Nat → Int32) (k : Nat) : Nat → Int32 := upd (upd (slR (slR r k (r k) (axF t r k)) k (axT t r k) (r (k + 3))) k (axF t r k)) (k + 3) (axT t r k)
def axN (t r : Nat → Int32) (n k : Nat) : Nat := slN (slN n (r k) (axF t r k)) (axT t r k) (r (k + 3))
def axB (t r fb : Nat → Int32) (n k : Nat) : Nat → Int32 := slB (slB fb n r k (r k) (axF t r k)) (slN n (r k) (axF t r k)) (slR r k (r k) (axF t r k)) k (axT t r k) (r (k + 3))
def rsR (t q : Nat → Int32) : Nat → Int32 := axR t (axR t (axR t q 0) 1) 2
def rsN (t q : Nat → Int32) (n : Nat) : Nat := axN t (axR t (axR t q 0) 1) (axN t (axR t q 0) (axN t q n 0) 1) 2
def rsB (t q fb : Nat → Int32) (n : Nat) : Nat → Int32 := axB t (axR t (axR t q 0) 1) (axB t (axR t q 0) (axB t q fb n 0) (axN t q n 0) 1) (axN t (axR t q 0) (axN t q n 0) 1) 2
theorem slN_le (n : Nat) (a b : Int32) : slN n a b ≤ n + 1 := by unfold slN; split <;> omega
theorem axN_le (t r : Nat → Int32) (n k : Nat) : axN t r n k ≤ n + 2 := Nat.le_trans (slN_le _ _ _) (Nat.succ_le_succ (slN_le _ _ _))
theorem rsN_le (t q : Nat → Int32) (n : Nat) : rsN t q n ≤ n + 6 := Nat.le_trans (axN_le _ _ _ _) (Nat.add_le_add_right (Nat.le_trans (axN_le _ _ _ _) (Nat.add_le_add_right (axN_le _ _ _ _) 2)) 2)
set_option maxHeartbeats 4000000 in
set_option maxRecDepth 100000 in
theorem m_J_addRest (l : Launch) (g : gT) (z : Nat) (H0 : Heap) (h : Nat) (fs : List Value) (att ar sp bs n so bo no : Nat) (ft r fb fo : Nat → Int32) (i : Nat) : Met l y_J_addRest w_J_addRest ({ frames := 3, cells := 0, slots := 0, locals := 85 }) (va_Pc [.ref h, .ref so, .int (nI (i))] (pB g z H0 (va_P g.1 cls [(h, .inr (1, fs)), (att, eI g 6 (ft)), (ar, eI g 6 (r)), (sp, .inr (0, [.ref bs, .int (nI (n))])), (bs, eI g 144 (fb)), (so, .inr (0, [.ref bo, .int (nI (no))])), (bo, eI g 144 (fo))] H0 ∧ va_D (zA z) [(h, .inr (1, fs)), (att, eI g 6 (ft)), (ar, eI g 6 (r)), (sp, .inr (0, [.ref bs, .int (nI (n))])), (bs, eI g 144 (fb)), (so, .inr (0, [.ref bo, .int (nI (no))])), (bo, eI g 144 (fo))] ∧ (fs[9]? = some (.ref sp) ∧ fs[10]? = some (.ref att) ∧ fs[11]? = some (.ref ar) ∧ i < 24 ∧ n ≤ 150)))) (va_Qv (fun (_ : Unit) => True) (fun (_ : Unit) t => va_P g.1 cls [(h, .inr (1, fs)), (att, eI g 6 (ft)), (ar, eI g 6 (rsR ft (va_cpy fo r (i * 6) 0 6))), (sp, .inr (0, [.ref bs, .int (nI (rsN ft (va_cpy fo r (i * 6) 0 6) n))])), (bs, eI g 144 (rsB ft (va_cpy fo r (i * 6) 0 6) fb n)), (so, .inr (0, [.ref bo, .int (nI (no))])), (bo, eI g 144 (fo))] t.heap ∧ va_D (va_A [(h, .inr (1, fs)), (att, eI g 6 (ft)), (ar, eI g 6 (r)), (sp, .inr (0, [.ref bs, .int (nI (n))])), (bs, eI g 144 (fb)), (so, .inr (0, [.ref bo, .int (nI (no))])), (bo, eI g 144 (fo))] H0.size) [(h, .inr (1, fs)), (att, eI g 6 (ft)), (ar, eI g 6 (rsR ft (va_cpy fo r (i * 6) 0 6))), (sp, .inr (0, [.ref bs, .int (nI (rsN ft (va_cpy fo r (i * 6) 0 6) n))])), (bs, eI g 144 (rsB ft (va_cpy fo r (i * 6) 0 6) fb n)), (so, .inr (0, [.ref bo, .int (nI (no))])), (bo, eI g 144 (fo))]) (va_A [(h, .inr (1, fs)), (att, eI g 6 (ft)), (ar, eI g 6 (r)), (sp, .inr (0, [.ref bs, .int (nI (n))])), (bs, eI g 144 (fb)), (so, .inr (0, [.ref bo, .int (nI (no))])), (bo, eI g 144 (fo))] H0.size)) 0 0 (va_A [(h, .inr (1, fs)), (att, eI g 6 (ft)), (ar, eI g 6 (r)), (sp, .inr (0, [.ref bs, .int (nI (n))])), (bs, eI g 144 (fb)), (so, .inr (0, [.ref bo, .int (nI (no))])), (bo, eI g 144 (fo))] H0.size) := by
  refine Met.ofW (cc := c_J_addRest) (maxL := 8) (ret := none) (by decide) rfl ?_
  intro p e s m args below meth c s₁ B hml hv
  obtain ⟨rfl, hH0, ha, hP, hD0, hf9, hf10, hf11, hi, hn⟩ := hv
  have hx := B.exec
  have hb := B.bytes
  have hr := B.returns
  have htB : ∀ w ∈ tB, w.before _ s = true := fun w h => atoms_spec (ws := w_J_addRest) B.pre w (List.mem_cons_of_mem _ h)
  have hown : s.vm.findClass "JointSolids" = some m.cls := findClass_of_methodNamed B.named
  have hlocks := B.notSynchronized
  subst hH0
  have hD := hD0.self (sz := s.heap.size)
  have hz := aA_z hD0 ha.2.2.2.2.2
  generalize hAe : va_A [(h, .inr (1, fs)), (att, eI g 6 (ft)), (ar, eI g 6 (r)), (sp, .inr (0, [.ref bs, .int (nI (n))])), (bs, eI g 144 (fb)), (so, .inr (0, [.ref bo, .int (nI (no))])), (bo, eI g 144 (fo))] s.heap.size = A at hD hz ⊢
  have hA : ∀ q : Nat, s.heap.size ≤ q → A q := fun q h => by rw [← hAe]; exact Or.inr h
  have hS : va_S A s.heap s.heap [] := va_S.rf
  refine W.ofH hP hS (fun H locs hP hS => ?_)
  have hl := lv_entry ([.ref h, .ref so, .int (nI (i))]) (n := 8) (Nat.le_of_ble_eq_true rfl)
  rw [lg_entry_eq]
  generalize (lg_sl ([.ref h, .ref so, .int (nI (i))]) ++ List.replicate (8 - (lg_sl ([.ref h, .ref so, .int (nI (i))])).length) Slot.unset).toArray = ls at hl ⊢
  have hl : lv_has ls 8 [(0, .ref h), (1, .ref so), (2, .int (nI (i)))] := hl
  refine lv_aload_n hx hb d_J_addRest_0 rfl (lv_at hl 1 rfl) ?_
  refine va_getN (D := g.1) (ci := 0) (v := .ref bo) (C := R_S) (T := F_S) (N := 2) hx hb htB in_S hown ha.1 hP 5 rfl rfl 0 (by decide) (va_Nw.use rfl (ha.2.1 _ nb_1)) (fun _ h9 => h9) rfl d_J_addRest_1 ?_
  refine lv_iload_n hx hb d_J_addRest_4 rfl (lv_at hl 2 rfl) ?_
  refine lv_bipush (v := (nI (6))) hx hb d_J_addRest_5 (by decide) ?_
  refine jv_imul hx hb d_J_addRest_7 ?_
  refine lv_aload_n hx hb d_J_addRest_8 rfl (lv_at hl 0 rfl) ?_
  refine va_get (D := g.1) (ci := 1) (v := .ref ar) (C := R_J) (T := F_J) (N := 14) hx hb htB in_J hown ha.1 hP 0 rfl rfl 11 (by decide) (htB _ kw_51) (fun _ h9 => h9) hf11 d_J_addRest_9 ?_
  refine lv_iconst (v := (nI (0))) hx hb d_J_addRest_12 (by decide) ?_
  refine lv_bipush (v := (nI (6))) hx hb d_J_addRest_13 (by decide) ?_
  refine ja_copy (sp := i * 6) (dp := 0) (n := 6) (own := "JointSolids") hx hb (hml.trans hl.1.symm) hown (htB _ kw_226) (htB _ kw_228) (htB _ kw_227) (htB _ kw_10) ha.1 hP hD hS 6 2 0 0 rfl rfl rfl rfl (by omega) (by omega) (by omega) (by omega) (Nat.le_of_ble_eq_true rfl) (Nat.le_of_ble_eq_true rfl) d_J_addRest_15 (fun H locs hP hD hS => ?_)
  have hP : va_P g.1 cls [(h, .inr (1, fs)), (att, eI g 6 (ft)), (ar, eI g 6 (va_cpy (fo) (r) (i * 6) (0) (6))), (sp, .inr (0, [.ref bs, .int (nI (n))])), (bs, eI g 144 (fb)), (so, .inr (0, [.ref bo, .int (nI (no))])), (bo, eI g 144 (fo))] H := hP
  have hD : va_D A [(h, .inr (1, fs)), (att, eI g 6 (ft)), (ar, eI g 6 (va_cpy (fo) (r) (i * 6) (0) (6))), (sp, .inr (0, [.ref bs, .int (nI (n))])), (bs, eI g 144 (fb)), (so, .inr (0, [.ref bo, .int (nI (no))])), (bo, eI g 144 (fo))] := hD
  obtain ⟨q, hq⟩ : ∃ q : Nat → Int32, q = va_cpy fo r (i * 6) 0 6 := ⟨_, rfl⟩
  rw [← hq] at hP hD
  have hP : va_P g.1 cls [(h, .inr (1, fs)), (att, eI g 6 (ft)), (ar, eI g 6 (q)), (sp, .inr (0, [.ref bs, .int (nI (n))])), (bs, eI g 144 (fb)), (so, .inr (0, [.ref bo, .int (nI (no))])), (bo, eI g 144 (fo))] H := hP
  have hD : va_D A [(h, .inr (1, fs)), (att, eI g 6 (ft)), (ar, eI g 6 (q)), (sp, .inr (0, [.ref bs, .int (nI (n))])), (bs, eI g 144 (fb)), (so, .inr (0, [.ref bo, .int (nI (no))])), (bo, eI g 144 (fo))] := hD
  refine lv_iconst (v := (nI (0))) hx hb d_J_addRest_18 (by decide) ?_
  refine lv_istore_n (lv' := [(3, .int (nI (0))), (0, .ref h), (1, .ref so), (2, .int (nI (i)))]) hx hb d_J_addRest_19 rfl hl (by decide) rfl (fun ls hl => ?_)
  refine lv_iload_n hx hb d_J_addRest_20 rfl (lv_at hl 0 rfl) ?_
  refine lv_iconst (v := (nI (3))) hx hb d_J_addRest_21 (by decide) ?_
  refine jv_icmp_ge (tgt := 113) hx hb (by omega) (by omega) d_J_addRest_22 (by decide) (fun h => absurd h (by decide)) (fun _ => ?_)
  refine lv_aload_n hx hb d_J_addRest_25 rfl (lv_at hl 1 rfl) ?_
  refine va_get (D := g.1) (ci := 1) (v := .ref ar) (C := R_J) (T := F_J) (N := 14) hx hb htB in_J hown ha.1 hP 0 rfl rfl 11 (by decide) (htB _ kw_51) (fun _ h9 => h9) hf11 d_J_addRest_26 ?_
  refine lv_iload_n hx hb d_J_addRest_29 rfl (lv_at hl 0 rfl) ?_
  refine ja_ald (k := 0) hx hb ha.1 hP 2 0 rfl rfl (by omega) (by omega) d_J_addRest_30 ?_
  refine lv_istore (lv' := [(4, .int (q (0))), (3, .int (nI (0))), (0, .ref h), (1, .ref so), (2, .int (nI (i)))]) hx hb d_J_addRest_31 hl (by decide) rfl (fun ls hl => ?_)
  refine lv_aload_n hx hb d_J_addRest_33 rfl (lv_at hl 2 rfl) ?_
  refine va_get (D := g.1) (ci := 1) (v := .ref ar) (C := R_J) (T := F_J) (N := 14) hx hb htB in_J hown ha.1 hP 0 rfl rfl 11 (by decide) (htB _ kw_51) (fun _ h9 => h9) hf11 d_J_addRest_34 ?_
  refine lv_iload_n hx hb d_J_addRest_37 rfl (lv_at hl 1 rfl) ?_
  refine lv_iconst (v := (nI (3))) hx hb d_J_addRest_38 (by decide) ?_
  refine jv_iadd hx hb d_J_addRest_39 ?_
  refine ja_ald (k := 3) hx hb ha.1 hP 2 0 rfl rfl (by omega) (by omega) d_J_addRest_40 ?_
  refine lv_istore (lv' := [(5, .int (q (3))), (4, .int (q (0))), (3, .int (nI (0))), (0, .ref h), (1, .ref so), (2, .int (nI (i)))]) hx hb d_J_addRest_41 hl (by decide) rfl (fun ls hl => ?_)
  refine lv_iload hx hb d_J_addRest_43 (lv_at hl 1 rfl) ?_
  refine lv_aload_n hx hb d_J_addRest_45 rfl (lv_at hl 3 rfl) ?_
  refine va_get (D := g.1) (ci := 1) (v := .ref att) (C := R_J) (T := F_J) (N := 14) hx hb htB in_J hown ha.1 hP 0 rfl rfl 10 (by decide) (htB _ kw_50) (fun _ h9 => h9) hf10 d_J_addRest_46 ?_
  refine lv_iload_n hx hb d_J_addRest_49 rfl (lv_at hl 2 rfl) ?_
  refine ja_ald (k := 0) hx hb ha.1 hP 1 0 rfl rfl (by omega) (by omega) d_J_addRest_50 ?_
  refine va_mmax (own := "JointSolids") hx hb (hml.trans hl.1.symm) hown (htB _ kw_168) (htB _ kw_169) (htB _ kw_4) (htB _ kw_170) (Nat.le_of_ble_eq_true rfl) (Nat.le_of_ble_eq_true rfl) (Nat.le_of_ble_eq_true rfl) (Nat.le_of_ble_eq_true rfl) d_J_addRest_51 ?_
  refine lv_istore (lv' := [(6, .int (mxI (q (0)) (ft (0)))), (5, .int (q (3))), (4, .int (q (0))), (3, .int (nI (0))), (0, .ref h), (1, .ref so), (2, .int (nI (i)))]) hx hb d_J_addRest_54 hl (by decide) rfl (fun ls hl => ?_)
  refine lv_iload hx hb d_J_addRest_56 (lv_at hl 1 rfl) ?_
  refine lv_aload_n hx hb d_J_addRest_58 rfl (lv_at hl 4 rfl) ?_
  refine va_get (D := g.1) (ci := 1) (v := .ref att) (C := R_J) (T := F_J) (N := 14) hx hb htB in_J hown ha.1 hP 0 rfl rfl 10 (by decide) (htB _ kw_50) (fun _ h9 => h9) hf10 d_J_addRest_59 ?_
  refine lv_iload_n hx hb d_J_addRest_62 rfl (lv_at hl 3 rfl) ?_
  refine lv_iconst (v := (nI (3))) hx hb d_J_addRest_63 (by decide) ?_
  refine jv_iadd hx hb d_J_addRest_64 ?_
  refine ja_ald (k := 3) hx hb ha.1 hP 1 0 rfl rfl (by omega) (by omega) d_J_addRest_65 ?_
  refine va_mmin (own := "JointSolids") hx hb (hml.trans hl.1.symm) hown (htB _ kw_171) (htB _ kw_172) (htB _ kw_4) (htB _ kw_173) (Nat.le_of_ble_eq_true rfl) (Nat.le_of_ble_eq_true rfl) (Nat.le_of_ble_eq_true rfl) (Nat.le_of_ble_eq_true rfl) d_J_addRest_66 ?_
  refine lv_istore (lv' := [(7, .int (mnI (q (3)) (ft (3)))), (6, .int (mxI (q (0)) (ft (0)))), (5, .int (q (3))), (4, .int (q (0))), (3, .int (nI (0))), (0, .ref h), (1, .ref so), (2, .int (nI (i)))]) hx hb d_J_addRest_69 hl (by decide) rfl (fun ls hl => ?_)
  refine lv_aload_n hx hb d_J_addRest_71 rfl (lv_at hl 5 rfl) ?_
  refine lv_iload_n hx hb d_J_addRest_72 rfl (lv_at hl 4 rfl) ?_
  refine lv_iload hx hb d_J_addRest_73 (lv_at hl 3 rfl) ?_
  refine lv_iload hx hb d_J_addRest_75 (lv_at hl 1 rfl) ?_
  have hPc := hP.sub (ws' := [(h, .inr (1, fs)), (ar, eI g 6 (q)), (sp, .inr (0, [.ref bs, .int (nI (n))])), (bs, eI g 144 (fb))]) [0, 2, 3, 4] rfl
  have hDc := hD.sub (ws' := [(h, .inr (1, fs)), (ar, eI g 6 (q)), (sp, .inr (0, [.ref bs, .int (nI (n))])), (bs, eI g 144 (fb))]) [0, 2, 3, 4] (by decide) rfl
  have hFc := va_free (wc := [(h, .inr (1, fs)), (ar, eI g 6 (q)), (sp, .inr (0, [.ref bs, .int (nI (n))])), (bs, eI g 144 (fb))]) hD hS hA [0, 2, 3, 4] rfl
  refine va_callv (va_runV (As := [.int (nI (0)), .int (q (0)), .int (mxI (q (0)) (ft (0)))]) (rest := []) ⟨hx, hb, hml, hown, htB⟩ (m_J_addSlab l g z _ h fs ar sp bs (n) (q) (fb) (0) (q (0)) (mxI (q (0)) (ft (0)))) (cwV 3 htB (gV kw_259 kw_261 ks_0_8 kw_1 g_J_addSlab) rfl rfl rfl (by decide +kernel) ⟨Nat.le_of_ble_eq_true rfl, Nat.le_of_ble_eq_true rfl⟩) (pre_V hS hz ha (va_recv ha.1 hP (ci := 1) (q0 := 0) rfl rfl) ⟨hPc, hDc.weaken (fun _ _ _ h => hz _ h), ⟨hf9, hf11, by omega, by omega⟩⟩) rfl rfl hl.1 rfl (lv_room (Nat.le_of_ble_eq_true rfl)) d_J_addRest_77 ⟨Nat.le_of_ble_eq_true rfl, Nat.le_of_ble_eq_true rfl⟩) hS (fun q _ h => hFc q h) hFc (fun u_2 t H1 locs ht hvm hw hB hz1 hk1 hS => ?_)
  obtain ⟨hP1, hD1⟩ := hB
  rw [ht] at hP1
  obtain ⟨hP, hD⟩ := va_join (wr := [(att, eI g 6 (ft)), (so, .inr (0, [.ref bo, .int (nI (no))])), (bo, eI g 144 (fo))]) (w1 := [(h, .inr (1, fs)), (ar, eI g 6 (slR (q) (0) (q (0)) (mxI (q (0)) (ft (0))))), (sp, .inr (0, [.ref bs, .int (nI (slN (n) (q (0)) (mxI (q (0)) (ft (0)))))])), (bs, eI g 144 (slB (fb) (n) (q) (0) (q (0)) (mxI (q (0)) (ft (0)))))]) hP hD [0, 2, 3, 4] [1, 5, 6] rfl rfl (by decide) (by decide) hk1 hFc hP1 hD1
  clear hPc hDc hFc hP1 hD1 hk1 hz1 hvm ht
  generalize H1 = H at hP hS ⊢
  have hP : va_P g.1 cls [(att, eI g 6 (ft)), (so, .inr (0, [.ref bo, .int (nI (no))])), (bo, eI g 144 (fo)), (h, .inr (1, fs)), (ar, eI g 6 (slR (q) (0) (q (0)) (mxI (q (0)) (ft (0))))), (sp, .inr (0, [.ref bs, .int (nI (slN (n) (q (0)) (mxI (q (0)) (ft (0)))))])), (bs, eI g 144 (slB (fb) (n) (q) (0) (q (0)) (mxI (q (0)) (ft (0)))))] H := hP
  have hD : va_D A [(att, eI g 6 (ft)), (so, .inr (0, [.ref bo, .int (nI (no))])), (bo, eI g 144 (fo)), (h, .inr (1, fs)), (ar, eI g 6 (slR (q) (0) (q (0)) (mxI (q (0)) (ft (0))))), (sp, .inr (0, [.ref bs, .int (nI (slN (n) (q (0)) (mxI (q (0)) (ft (0)))))])), (bs, eI g 144 (slB (fb) (n) (q) (0) (q (0)) (mxI (q (0)) (ft (0)))))] := hD
  refine lv_aload_n hx hb d_J_addRest_80 rfl (lv_at hl 5 rfl) ?_
  refine lv_iload_n hx hb d_J_addRest_81 rfl (lv_at hl 4 rfl) ?_
  refine lv_iload hx hb d_J_addRest_82 (lv_at hl 0 rfl) ?_
  refine lv_iload hx hb d_J_addRest_84 (lv_at hl 2 rfl) ?_
  have hPc := hP.sub (ws' := [(h, .inr (1, fs)), (ar, eI g 6 (slR (q) (0) (q (0)) (mxI (q (0)) (ft (0))))), (sp, .inr (0, [.ref bs, .int (nI (slN (n) (q (0)) (mxI (q (0)) (ft (0)))))])), (bs, eI g 144 (slB (fb) (n) (q) (0) (q (0)) (mxI (q (0)) (ft (0)))))]) [3, 4, 5, 6] rfl
  have hDc := hD.sub (ws' := [(h, .inr (1, fs)), (ar, eI g 6 (slR (q) (0) (q (0)) (mxI (q (0)) (ft (0))))), (sp, .inr (0, [.ref bs, .int (nI (slN (n) (q (0)) (mxI (q (0)) (ft (0)))))])), (bs, eI g 144 (slB (fb) (n) (q) (0) (q (0)) (mxI (q (0)) (ft (0)))))]) [3, 4, 5, 6] (by decide) rfl
  have hFc := va_free (wc := [(h, .inr (1, fs)), (ar, eI g 6 (slR (q) (0) (q (0)) (mxI (q (0)) (ft (0))))), (sp, .inr (0, [.ref bs, .int (nI (slN (n) (q (0)) (mxI (q (0)) (ft (0)))))])), (bs, eI g 144 (slB (fb) (n) (q) (0) (q (0)) (mxI (q (0)) (ft (0)))))]) hD hS hA [3, 4, 5, 6] rfl
  refine va_callv (va_runV (As := [.int (nI (0)), .int (mnI (q (3)) (ft (3))), .int (q (3))]) (rest := []) ⟨hx, hb, hml, hown, htB⟩ (m_J_addSlab l g z _ h fs ar sp bs (slN (n) (q (0)) (mxI (q (0)) (ft (0)))) (slR (q) (0) (q (0)) (mxI (q (0)) (ft (0)))) (slB (fb) (n) (q) (0) (q (0)) (mxI (q (0)) (ft (0)))) (0) (mnI (q (3)) (ft (3))) (q (3))) (cwV 3 htB (gV kw_259 kw_261 ks_0_8 kw_1 g_J_addSlab) rfl rfl rfl (by decide +kernel) ⟨Nat.le_of_ble_eq_true rfl, Nat.le_of_ble_eq_true rfl⟩) (pre_V hS hz ha (va_recv ha.1 hP (ci := 1) (q0 := 3) rfl rfl) ⟨hPc, hDc.weaken (fun _ _ _ h => hz _ h), ⟨hf9, hf11, by omega, Nat.lt_of_le_of_lt (slN_le _ _ _) (by omega)⟩⟩) rfl rfl hl.1 rfl (lv_room (Nat.le_of_ble_eq_true rfl)) d_J_addRest_86 ⟨Nat.le_of_ble_eq_true rfl, Nat.le_of_ble_eq_true rfl⟩) hS (fun q _ h => hFc q h) hFc (fun u_4 t H1 locs ht hvm hw hB hz1 hk1 hS => ?_)
  obtain ⟨hP1, hD1⟩ := hB
  rw [ht] at hP1
  obtain ⟨hP, hD⟩ := va_join (wr := [(att, eI g 6 (ft)), (so, .inr (0, [.ref bo, .int (nI (no))])), (bo, eI g 144 (fo))]) (w1 := [(h, .inr (1, fs)), (ar, eI g 6 (slR (slR (q) (0) (q (0)) (mxI (q (0)) (ft (0)))) (0) (mnI (q (3)) (ft (3))) (q (3)))), (sp, .inr (0, [.ref bs, .int (nI (slN (slN (n) (q (0)) (mxI (q (0)) (ft (0)))) (mnI (q (3)) (ft (3))) (q (3))))])), (bs, eI g 144 (slB (slB (fb) (n) (q) (0) (q (0)) (mxI (q (0)) (ft (0)))) (slN (n) (q (0)) (mxI (q (0)) (ft (0)))) (slR (q) (0) (q (0)) (mxI (q (0)) (ft (0)))) (0) (mnI (q (3)) (ft (3))) (q (3))))]) hP hD [3, 4, 5, 6] [0, 1, 2] rfl rfl (by decide) (by decide) hk1 hFc hP1 hD1
  clear hPc hDc hFc hP1 hD1 hk1 hz1 hvm ht
  generalize H1 = H at hP hS ⊢
  have hP : va_P g.1 cls [(att, eI g 6 (ft)), (so, .inr (0, [.ref bo, .int (nI (no))])), (bo, eI g 144 (fo)), (h, .inr (1, fs)), (ar, eI g 6 (slR (slR (q) (0) (q (0)) (mxI (q (0)) (ft (0)))) (0) (mnI (q (3)) (ft (3))) (q (3)))), (sp, .inr (0, [.ref bs, .int (nI (slN (slN (n) (q (0)) (mxI (q (0)) (ft (0)))) (mnI (q (3)) (ft (3))) (q (3))))])), (bs, eI g 144 (slB (slB (fb) (n) (q) (0) (q (0)) (mxI (q (0)) (ft (0)))) (slN (n) (q (0)) (mxI (q (0)) (ft (0)))) (slR (q) (0) (q (0)) (mxI (q (0)) (ft (0)))) (0) (mnI (q (3)) (ft (3))) (q (3))))] H := hP
  have hD : va_D A [(att, eI g 6 (ft)), (so, .inr (0, [.ref bo, .int (nI (no))])), (bo, eI g 144 (fo)), (h, .inr (1, fs)), (ar, eI g 6 (slR (slR (q) (0) (q (0)) (mxI (q (0)) (ft (0)))) (0) (mnI (q (3)) (ft (3))) (q (3)))), (sp, .inr (0, [.ref bs, .int (nI (slN (slN (n) (q (0)) (mxI (q (0)) (ft (0)))) (mnI (q (3)) (ft (3))) (q (3))))])), (bs, eI g 144 (slB (slB (fb) (n) (q) (0) (q (0)) (mxI (q (0)) (ft (0)))) (slN (n) (q (0)) (mxI (q (0)) (ft (0)))) (slR (q) (0) (q (0)) (mxI (q (0)) (ft (0)))) (0) (mnI (q (3)) (ft (3))) (q (3))))] := hD
  refine lv_aload_n hx hb d_J_addRest_89 rfl (lv_at hl 5 rfl) ?_
  refine va_get (D := g.1) (ci := 1) (v := .ref ar) (C := R_J) (T := F_J) (N := 14) hx hb htB in_J hown ha.1 hP 3 rfl rfl 11 (by decide) (htB _ kw_51) (fun _ h9 => h9) hf11 d_J_addRest_90 ?_
  refine lv_iload_n hx hb d_J_addRest_93 rfl (lv_at hl 4 rfl) ?_
  refine lv_iload hx hb d_J_addRest_94 (lv_at hl 1 rfl) ?_
  refine ja_ast (k := 0) hx hb ha.1 hP hD hS 4 0 rfl rfl (by omega) (by omega) d_J_addRest_96 (fun H locs hP hD hS => ?_)
  have hP : va_P g.1 cls [(att, eI g 6 (ft)), (so, .inr (0, [.ref bo, .int (nI (no))])), (bo, eI g 144 (fo)), (h, .inr (1, fs)), (ar, eI g 6 (upd (slR (slR (q) (0) (q (0)) (mxI (q (0)) (ft (0)))) (0) (mnI (q (3)) (ft (3))) (q (3))) (0) (mxI (q (0)) (ft (0))))), (sp, .inr (0, [.ref bs, .int (nI (slN (slN (n) (q (0)) (mxI (q (0)) (ft (0)))) (mnI (q (3)) (ft (3))) (q (3))))])), (bs, eI g 144 (slB (slB (fb) (n) (q) (0) (q (0)) (mxI (q (0)) (ft (0)))) (slN (n) (q (0)) (mxI (q (0)) (ft (0)))) (slR (q) (0) (q (0)) (mxI (q (0)) (ft (0)))) (0) (mnI (q (3)) (ft (3))) (q (3))))] H := hP
  have hD : va_D A [(att, eI g 6 (ft)), (so, .inr (0, [.ref bo, .int (nI (no))])), (bo, eI g 144 (fo)), (h, .inr (1, fs)), (ar, eI g 6 (upd (slR (slR (q) (0) (q (0)) (mxI (q (0)) (ft (0)))) (0) (mnI (q (3)) (ft (3))) (q (3))) (0) (mxI (q (0)) (ft (0))))), (sp, .inr (0, [.ref bs, .int (nI (slN (slN (n) (q (0)) (mxI (q (0)) (ft (0)))) (mnI (q (3)) (ft (3))) (q (3))))])), (bs, eI g 144 (slB (slB (fb) (n) (q) (0) (q (0)) (mxI (q (0)) (ft (0)))) (slN (n) (q (0)) (mxI (q (0)) (ft (0)))) (slR (q) (0) (q (0)) (mxI (q (0)) (ft (0)))) (0) (mnI (q (3)) (ft (3))) (q (3))))] := hD
  refine lv_aload_n hx hb d_J_addRest_97 rfl (lv_at hl 5 rfl) ?_
  refine va_get (D := g.1) (ci := 1) (v := .ref ar) (C := R_J) (T := F_J) (N := 14) hx hb htB in_J hown ha.1 hP 3 rfl rfl 11 (by decide) (htB _ kw_51) (fun _ h9 => h9) hf11 d_J_addRest_98 ?_
  refine lv_iload_n hx hb d_J_addRest_101 rfl (lv_at hl 4 rfl) ?_
  refine lv_iconst (v := (nI (3))) hx hb d_J_addRest_102 (by decide) ?_
  refine jv_iadd hx hb d_J_addRest_103 ?_
  refine lv_iload hx hb d_J_addRest_104 (lv_at hl 0 rfl) ?_
  refine ja_ast (k := 3) hx hb ha.1 hP hD hS 4 0 rfl rfl (by omega) (by omega) d_J_addRest_106 (fun H locs hP hD hS => ?_)
  have hP : va_P g.1 cls [(att, eI g 6 (ft)), (so, .inr (0, [.ref bo, .int (nI (no))])), (bo, eI g 144 (fo)), (h, .inr (1, fs)), (ar, eI g 6 (upd (upd (slR (slR (q) (0) (q (0)) (mxI (q (0)) (ft (0)))) (0) (mnI (q (3)) (ft (3))) (q (3))) (0) (mxI (q (0)) (ft (0)))) (3) (mnI (q (3)) (ft (3))))), (sp, .inr (0, [.ref bs, .int (nI (slN (slN (n) (q (0)) (mxI (q (0)) (ft (0)))) (mnI (q (3)) (ft (3))) (q (3))))])), (bs, eI g 144 (slB (slB (fb) (n) (q) (0) (q (0)) (mxI (q (0)) (ft (0)))) (slN (n) (q (0)) (mxI (q (0)) (ft (0)))) (slR (q) (0) (q (0)) (mxI (q (0)) (ft (0)))) (0) (mnI (q (3)) (ft (3))) (q (3))))] H := hP
  have hD : va_D A [(att, eI g 6 (ft)), (so, .inr (0, [.ref bo, .int (nI (no))])), (bo, eI g 144 (fo)), (h, .inr (1, fs)), (ar, eI g 6 (upd (upd (slR (slR (q) (0) (q (0)) (mxI (q (0)) (ft (0)))) (0) (mnI (q (3)) (ft (3))) (q (3))) (0) (mxI (q (0)) (ft (0)))) (3) (mnI (q (3)) (ft (3))))), (sp, .inr (0, [.ref bs, .int (nI (slN (slN (n) (q (0)) (mxI (q (0)) (ft (0)))) (mnI (q (3)) (ft (3))) (q (3))))])), (bs, eI g 144 (slB (slB (fb) (n) (q) (0) (q (0)) (mxI (q (0)) (ft (0)))) (slN (n) (q (0)) (mxI (q (0)) (ft (0)))) (slR (q) (0) (q (0)) (mxI (q (0)) (ft (0)))) (0) (mnI (q (3)) (ft (3))) (q (3))))] := hD
  refine lv_iinc (v := nI (1)) (lv' := [(3, .int (nI (1))), (7, .int (mnI (q (3)) (ft (3)))), (6, .int (mxI (q (0)) (ft (0)))), (5, .int (q (3))), (4, .int (q (0))), (0, .ref h), (1, .ref so), (2, .int (nI (i)))]) hx hb d_J_addRest_107 hl (k := 4) rfl (nI_add _ 1) (by decide) rfl (fun ls hl => ?_)
  refine lv_goto (tgt := 20) hx hb d_J_addRest_110 (by decide) ?_
  obtain ⟨q1, n1, b1, hq1⟩ : ∃ (q1 : Nat → Int32) (n1 : Nat) (b1 : Nat → Int32), (q1, n1, b1) = (axR ft q 0, axN ft q n 0, axB ft q fb n 0) := ⟨_, _, _, rfl⟩
  have hle1 : n1 ≤ n + 2 := by rw [show n1 = axN ft q n 0 from congrArg (fun x => x.2.1) hq1]; exact axN_le _ _ _ _
  have hP : va_P g.1 cls [(att, eI g 6 (ft)), (so, .inr (0, [.ref bo, .int (nI (no))])), (bo, eI g 144 (fo)), (h, .inr (1, fs)), (ar, eI g 6 (q1)), (sp, .inr (0, [.ref bs, .int (nI (n1))])), (bs, eI g 144 (b1))] H := by rw [show q1 = axR ft q 0 from congrArg (fun x => x.1) hq1, show n1 = axN ft q n 0 from congrArg (fun x => x.2.1) hq1, show b1 = axB ft q fb n 0 from congrArg (fun x => x.2.2) hq1]; exact hP
  have hD : va_D A [(att, eI g 6 (ft)), (so, .inr (0, [.ref bo, .int (nI (no))])), (bo, eI g 144 (fo)), (h, .inr (1, fs)), (ar, eI g 6 (q1)), (sp, .inr (0, [.ref bs, .int (nI (n1))])), (bs, eI g 144 (b1))] := hD.re [att, so, bo, h, ar, sp, bs] rfl rfl
  refine lv_iload_n hx hb d_J_addRest_20 rfl (lv_at hl 0 rfl) ?_
  refine lv_iconst (v := (nI (3))) hx hb d_J_addRest_21 (by decide) ?_
  refine jv_icmp_ge (tgt := 113) hx hb (by omega) (by omega) d_J_addRest_22 (by decide) (fun h => absurd h (by decide)) (fun _ => ?_)
  refine lv_aload_n hx hb d_J_addRest_25 rfl (lv_at hl 5 rfl) ?_
  refine va_get (D := g.1) (ci := 1) (v := .ref ar) (C := R_J) (T := F_J) (N := 14) hx hb htB in_J hown ha.1 hP 3 rfl rfl 11 (by decide) (htB _ kw_51) (fun _ h9 => h9) hf11 d_J_addRest_26 ?_
  refine lv_iload_n hx hb d_J_addRest_29 rfl (lv_at hl 0 rfl) ?_
  refine ja_ald (k := 1) hx hb ha.1 hP 4 0 rfl rfl (by omega) (by omega) d_J_addRest_30 ?_
  refine lv_istore (lv' := [(4, .int (q1 (1))), (3, .int (nI (1))), (7, .int (mnI (q (3)) (ft (3)))), (6, .int (mxI (q (0)) (ft (0)))), (5, .int (q (3))), (0, .ref h), (1, .ref so), (2, .int (nI (i)))]) hx hb d_J_addRest_31 hl (by decide) rfl (fun ls hl => ?_)
  refine lv_aload_n hx hb d_J_addRest_33 rfl (lv_at hl 5 rfl) ?_
  refine va_get (D := g.1) (ci := 1) (v := .ref ar) (C := R_J) (T := F_J) (N := 14) hx hb htB in_J hown ha.1 hP 3 rfl rfl 11 (by decide) (htB _ kw_51) (fun _ h9 => h9) hf11 d_J_addRest_34 ?_
  refine lv_iload_n hx hb d_J_addRest_37 rfl (lv_at hl 1 rfl) ?_
  refine lv_iconst (v := (nI (3))) hx hb d_J_addRest_38 (by decide) ?_
  refine jv_iadd hx hb d_J_addRest_39 ?_
  refine ja_ald (k := 4) hx hb ha.1 hP 4 0 rfl rfl (by omega) (by omega) d_J_addRest_40 ?_
  refine lv_istore (lv' := [(5, .int (q1 (4))), (4, .int (q1 (1))), (3, .int (nI (1))), (7, .int (mnI (q (3)) (ft (3)))), (6, .int (mxI (q (0)) (ft (0)))), (0, .ref h), (1, .ref so), (2, .int (nI (i)))]) hx hb d_J_addRest_41 hl (by decide) rfl (fun ls hl => ?_)
  refine lv_iload hx hb d_J_addRest_43 (lv_at hl 1 rfl) ?_
  refine lv_aload_n hx hb d_J_addRest_45 rfl (lv_at hl 5 rfl) ?_
  refine va_get (D := g.1) (ci := 1) (v := .ref att) (C := R_J) (T := F_J) (N := 14) hx hb htB in_J hown ha.1 hP 3 rfl rfl 10 (by decide) (htB _ kw_50) (fun _ h9 => h9) hf10 d_J_addRest_46 ?_
  refine lv_iload_n hx hb d_J_addRest_49 rfl (lv_at hl 2 rfl) ?_
  refine ja_ald (k := 1) hx hb ha.1 hP 0 0 rfl rfl (by omega) (by omega) d_J_addRest_50 ?_
  refine va_mmax (own := "JointSolids") hx hb (hml.trans hl.1.symm) hown (htB _ kw_168) (htB _ kw_169) (htB _ kw_4) (htB _ kw_170) (Nat.le_of_ble_eq_true rfl) (Nat.le_of_ble_eq_true rfl) (Nat.le_of_ble_eq_true rfl) (Nat.le_of_ble_eq_true rfl) d_J_addRest_51 ?_
  refine lv_istore (lv' := [(6, .int (mxI (q1 (1)) (ft (1)))), (5, .int (q1 (4))), (4, .int (q1 (1))), (3, .int (nI (1))), (7, .int (mnI (q (3)) (ft (3)))), (0, .ref h), (1, .ref so), (2, .int (nI (i)))]) hx hb d_J_addRest_54 hl (by decide) rfl (fun ls hl => ?_)
  refine lv_iload hx hb d_J_addRest_56 (lv_at hl 1 rfl) ?_
  refine lv_aload_n hx hb d_J_addRest_58 rfl (lv_at hl 5 rfl) ?_
  refine va_get (D := g.1) (ci := 1) (v := .ref att) (C := R_J) (T := F_J) (N := 14) hx hb htB in_J hown ha.1 hP 3 rfl rfl 10 (by decide) (htB _ kw_50) (fun _ h9 => h9) hf10 d_J_addRest_59 ?_
  refine lv_iload_n hx hb d_J_addRest_62 rfl (lv_at hl 3 rfl) ?_
  refine lv_iconst (v := (nI (3))) hx hb d_J_addRest_63 (by decide) ?_
  refine jv_iadd hx hb d_J_addRest_64 ?_
  refine ja_ald (k := 4) hx hb ha.1 hP 0 0 rfl rfl (by omega) (by omega) d_J_addRest_65 ?_
  refine va_mmin (own := "JointSolids") hx hb (hml.trans hl.1.symm) hown (htB _ kw_171) (htB _ kw_172) (htB _ kw_4) (htB _ kw_173) (Nat.le_of_ble_eq_true rfl) (Nat.le_of_ble_eq_true rfl) (Nat.le_of_ble_eq_true rfl) (Nat.le_of_ble_eq_true rfl) d_J_addRest_66 ?_
  refine lv_istore (lv' := [(7, .int (mnI (q1 (4)) (ft (4)))), (6, .int (mxI (q1 (1)) (ft (1)))), (5, .int (q1 (4))), (4, .int (q1 (1))), (3, .int (nI (1))), (0, .ref h), (1, .ref so), (2, .int (nI (i)))]) hx hb d_J_addRest_69 hl (by decide) rfl (fun ls hl => ?_)
  refine lv_aload_n hx hb d_J_addRest_71 rfl (lv_at hl 5 rfl) ?_
  refine lv_iload_n hx hb d_J_addRest_72 rfl (lv_at hl 4 rfl) ?_
  refine lv_iload hx hb d_J_addRest_73 (lv_at hl 3 rfl) ?_
  refine lv_iload hx hb d_J_addRest_75 (lv_at hl 1 rfl) ?_
  have hPc := hP.sub (ws' := [(h, .inr (1, fs)), (ar, eI g 6 (q1)), (sp, .inr (0, [.ref bs, .int (nI (n1))])), (bs, eI g 144 (b1))]) [3, 4, 5, 6] rfl
  have hDc := hD.sub (ws' := [(h, .inr (1, fs)), (ar, eI g 6 (q1)), (sp, .inr (0, [.ref bs, .int (nI (n1))])), (bs, eI g 144 (b1))]) [3, 4, 5, 6] (by decide) rfl
  have hFc := va_free (wc := [(h, .inr (1, fs)), (ar, eI g 6 (q1)), (sp, .inr (0, [.ref bs, .int (nI (n1))])), (bs, eI g 144 (b1))]) hD hS hA [3, 4, 5, 6] rfl
  refine va_callv (va_runV (As := [.int (nI (1)), .int (q1 (1)), .int (mxI (q1 (1)) (ft (1)))]) (rest := []) ⟨hx, hb, hml, hown, htB⟩ (m_J_addSlab l g z _ h fs ar sp bs (n1) (q1) (b1) (1) (q1 (1)) (mxI (q1 (1)) (ft (1)))) (cwV 3 htB (gV kw_259 kw_261 ks_0_8 kw_1 g_J_addSlab) rfl rfl rfl (by decide +kernel) ⟨Nat.le_of_ble_eq_true rfl, Nat.le_of_ble_eq_true rfl⟩) (pre_V hS hz ha (va_recv ha.1 hP (ci := 1) (q0 := 3) rfl rfl) ⟨hPc, hDc.weaken (fun _ _ _ h => hz _ h), ⟨hf9, hf11, by omega, by omega⟩⟩) rfl rfl hl.1 rfl (lv_room (Nat.le_of_ble_eq_true rfl)) d_J_addRest_77 ⟨Nat.le_of_ble_eq_true rfl, Nat.le_of_ble_eq_true rfl⟩) hS (fun q _ h => hFc q h) hFc (fun u_6 t H1 locs ht hvm hw hB hz1 hk1 hS => ?_)
  obtain ⟨hP1, hD1⟩ := hB
  rw [ht] at hP1
  obtain ⟨hP, hD⟩ := va_join (wr := [(att, eI g 6 (ft)), (so, .inr (0, [.ref bo, .int (nI (no))])), (bo, eI g 144 (fo))]) (w1 := [(h, .inr (1, fs)), (ar, eI g 6 (slR (q1) (1) (q1 (1)) (mxI (q1 (1)) (ft (1))))), (sp, .inr (0, [.ref bs, .int (nI (slN (n1) (q1 (1)) (mxI (q1 (1)) (ft (1)))))])), (bs, eI g 144 (slB (b1) (n1) (q1) (1) (q1 (1)) (mxI (q1 (1)) (ft (1)))))]) hP hD [3, 4, 5, 6] [0, 1, 2] rfl rfl (by decide) (by decide) hk1 hFc hP1 hD1
  clear hPc hDc hFc hP1 hD1 hk1 hz1 hvm ht
  generalize H1 = H at hP hS ⊢
  have hP : va_P g.1 cls [(att, eI g 6 (ft)), (so, .inr (0, [.ref bo, .int (nI (no))])), (bo, eI g 144 (fo)), (h, .inr (1, fs)), (ar, eI g 6 (slR (q1) (1) (q1 (1)) (mxI (q1 (1)) (ft (1))))), (sp, .inr (0, [.ref bs, .int (nI (slN (n1) (q1 (1)) (mxI (q1 (1)) (ft (1)))))])), (bs, eI g 144 (slB (b1) (n1) (q1) (1) (q1 (1)) (mxI (q1 (1)) (ft (1)))))] H := hP
  have hD : va_D A [(att, eI g 6 (ft)), (so, .inr (0, [.ref bo, .int (nI (no))])), (bo, eI g 144 (fo)), (h, .inr (1, fs)), (ar, eI g 6 (slR (q1) (1) (q1 (1)) (mxI (q1 (1)) (ft (1))))), (sp, .inr (0, [.ref bs, .int (nI (slN (n1) (q1 (1)) (mxI (q1 (1)) (ft (1)))))])), (bs, eI g 144 (slB (b1) (n1) (q1) (1) (q1 (1)) (mxI (q1 (1)) (ft (1)))))] := hD
  refine lv_aload_n hx hb d_J_addRest_80 rfl (lv_at hl 5 rfl) ?_
  refine lv_iload_n hx hb d_J_addRest_81 rfl (lv_at hl 4 rfl) ?_
  refine lv_iload hx hb d_J_addRest_82 (lv_at hl 0 rfl) ?_
  refine lv_iload hx hb d_J_addRest_84 (lv_at hl 2 rfl) ?_
  have hPc := hP.sub (ws' := [(h, .inr (1, fs)), (ar, eI g 6 (slR (q1) (1) (q1 (1)) (mxI (q1 (1)) (ft (1))))), (sp, .inr (0, [.ref bs, .int (nI (slN (n1) (q1 (1)) (mxI (q1 (1)) (ft (1)))))])), (bs, eI g 144 (slB (b1) (n1) (q1) (1) (q1 (1)) (mxI (q1 (1)) (ft (1)))))]) [3, 4, 5, 6] rfl
  have hDc := hD.sub (ws' := [(h, .inr (1, fs)), (ar, eI g 6 (slR (q1) (1) (q1 (1)) (mxI (q1 (1)) (ft (1))))), (sp, .inr (0, [.ref bs, .int (nI (slN (n1) (q1 (1)) (mxI (q1 (1)) (ft (1)))))])), (bs, eI g 144 (slB (b1) (n1) (q1) (1) (q1 (1)) (mxI (q1 (1)) (ft (1)))))]) [3, 4, 5, 6] (by decide) rfl
  have hFc := va_free (wc := [(h, .inr (1, fs)), (ar, eI g 6 (slR (q1) (1) (q1 (1)) (mxI (q1 (1)) (ft (1))))), (sp, .inr (0, [.ref bs, .int (nI (slN (n1) (q1 (1)) (mxI (q1 (1)) (ft (1)))))])), (bs, eI g 144 (slB (b1) (n1) (q1) (1) (q1 (1)) (mxI (q1 (1)) (ft (1)))))]) hD hS hA [3, 4, 5, 6] rfl
  refine va_callv (va_runV (As := [.int (nI (1)), .int (mnI (q1 (4)) (ft (4))), .int (q1 (4))]) (rest := []) ⟨hx, hb, hml, hown, htB⟩ (m_J_addSlab l g z _ h fs ar sp bs (slN (n1) (q1 (1)) (mxI (q1 (1)) (ft (1)))) (slR (q1) (1) (q1 (1)) (mxI (q1 (1)) (ft (1)))) (slB (b1) (n1) (q1) (1) (q1 (1)) (mxI (q1 (1)) (ft (1)))) (1) (mnI (q1 (4)) (ft (4))) (q1 (4))) (cwV 3 htB (gV kw_259 kw_261 ks_0_8 kw_1 g_J_addSlab) rfl rfl rfl (by decide +kernel) ⟨Nat.le_of_ble_eq_true rfl, Nat.le_of_ble_eq_true rfl⟩) (pre_V hS hz ha (va_recv ha.1 hP (ci := 1) (q0 := 3) rfl rfl) ⟨hPc, hDc.weaken (fun _ _ _ h => hz _ h), ⟨hf9, hf11, by omega, Nat.lt_of_le_of_lt (slN_le _ _ _) (by omega)⟩⟩) rfl rfl hl.1 rfl (lv_room (Nat.le_of_ble_eq_true rfl)) d_J_addRest_86 ⟨Nat.le_of_ble_eq_true rfl, Nat.le_of_ble_eq_true rfl⟩) hS (fun q _ h => hFc q h) hFc (fun u_8 t H1 locs ht hvm hw hB hz1 hk1 hS => ?_)
  obtain ⟨hP1, hD1⟩ := hB
  rw [ht] at hP1
  obtain ⟨hP, hD⟩ := va_join (wr := [(att, eI g 6 (ft)), (so, .inr (0, [.ref bo, .int (nI (no))])), (bo, eI g 144 (fo))]) (w1 := [(h, .inr (1, fs)), (ar, eI g 6 (slR (slR (q1) (1) (q1 (1)) (mxI (q1 (1)) (ft (1)))) (1) (mnI (q1 (4)) (ft (4))) (q1 (4)))), (sp, .inr (0, [.ref bs, .int (nI (slN (slN (n1) (q1 (1)) (mxI (q1 (1)) (ft (1)))) (mnI (q1 (4)) (ft (4))) (q1 (4))))])), (bs, eI g 144 (slB (slB (b1) (n1) (q1) (1) (q1 (1)) (mxI (q1 (1)) (ft (1)))) (slN (n1) (q1 (1)) (mxI (q1 (1)) (ft (1)))) (slR (q1) (1) (q1 (1)) (mxI (q1 (1)) (ft (1)))) (1) (mnI (q1 (4)) (ft (4))) (q1 (4))))]) hP hD [3, 4, 5, 6] [0, 1, 2] rfl rfl (by decide) (by decide) hk1 hFc hP1 hD1
  clear hPc hDc hFc hP1 hD1 hk1 hz1 hvm ht
  generalize H1 = H at hP hS ⊢
  have hP : va_P g.1 cls [(att, eI g 6 (ft)), (so, .inr (0, [.ref bo, .int (nI (no))])), (bo, eI g 144 (fo)), (h, .inr (1, fs)), (ar, eI g 6 (slR (slR (q1) (1) (q1 (1)) (mxI (q1 (1)) (ft (1)))) (1) (mnI (q1 (4)) (ft (4))) (q1 (4)))), (sp, .inr (0, [.ref bs, .int (nI (slN (slN (n1) (q1 (1)) (mxI (q1 (1)) (ft (1)))) (mnI (q1 (4)) (ft (4))) (q1 (4))))])), (bs, eI g 144 (slB (slB (b1) (n1) (q1) (1) (q1 (1)) (mxI (q1 (1)) (ft (1)))) (slN (n1) (q1 (1)) (mxI (q1 (1)) (ft (1)))) (slR (q1) (1) (q1 (1)) (mxI (q1 (1)) (ft (1)))) (1) (mnI (q1 (4)) (ft (4))) (q1 (4))))] H := hP
  have hD : va_D A [(att, eI g 6 (ft)), (so, .inr (0, [.ref bo, .int (nI (no))])), (bo, eI g 144 (fo)), (h, .inr (1, fs)), (ar, eI g 6 (slR (slR (q1) (1) (q1 (1)) (mxI (q1 (1)) (ft (1)))) (1) (mnI (q1 (4)) (ft (4))) (q1 (4)))), (sp, .inr (0, [.ref bs, .int (nI (slN (slN (n1) (q1 (1)) (mxI (q1 (1)) (ft (1)))) (mnI (q1 (4)) (ft (4))) (q1 (4))))])), (bs, eI g 144 (slB (slB (b1) (n1) (q1) (1) (q1 (1)) (mxI (q1 (1)) (ft (1)))) (slN (n1) (q1 (1)) (mxI (q1 (1)) (ft (1)))) (slR (q1) (1) (q1 (1)) (mxI (q1 (1)) (ft (1)))) (1) (mnI (q1 (4)) (ft (4))) (q1 (4))))] := hD
  refine lv_aload_n hx hb d_J_addRest_89 rfl (lv_at hl 5 rfl) ?_
  refine va_get (D := g.1) (ci := 1) (v := .ref ar) (C := R_J) (T := F_J) (N := 14) hx hb htB in_J hown ha.1 hP 3 rfl rfl 11 (by decide) (htB _ kw_51) (fun _ h9 => h9) hf11 d_J_addRest_90 ?_
  refine lv_iload_n hx hb d_J_addRest_93 rfl (lv_at hl 4 rfl) ?_
  refine lv_iload hx hb d_J_addRest_94 (lv_at hl 1 rfl) ?_
  refine ja_ast (k := 1) hx hb ha.1 hP hD hS 4 0 rfl rfl (by omega) (by omega) d_J_addRest_96 (fun H locs hP hD hS => ?_)
  have hP : va_P g.1 cls [(att, eI g 6 (ft)), (so, .inr (0, [.ref bo, .int (nI (no))])), (bo, eI g 144 (fo)), (h, .inr (1, fs)), (ar, eI g 6 (upd (slR (slR (q1) (1) (q1 (1)) (mxI (q1 (1)) (ft (1)))) (1) (mnI (q1 (4)) (ft (4))) (q1 (4))) (1) (mxI (q1 (1)) (ft (1))))), (sp, .inr (0, [.ref bs, .int (nI (slN (slN (n1) (q1 (1)) (mxI (q1 (1)) (ft (1)))) (mnI (q1 (4)) (ft (4))) (q1 (4))))])), (bs, eI g 144 (slB (slB (b1) (n1) (q1) (1) (q1 (1)) (mxI (q1 (1)) (ft (1)))) (slN (n1) (q1 (1)) (mxI (q1 (1)) (ft (1)))) (slR (q1) (1) (q1 (1)) (mxI (q1 (1)) (ft (1)))) (1) (mnI (q1 (4)) (ft (4))) (q1 (4))))] H := hP
  have hD : va_D A [(att, eI g 6 (ft)), (so, .inr (0, [.ref bo, .int (nI (no))])), (bo, eI g 144 (fo)), (h, .inr (1, fs)), (ar, eI g 6 (upd (slR (slR (q1) (1) (q1 (1)) (mxI (q1 (1)) (ft (1)))) (1) (mnI (q1 (4)) (ft (4))) (q1 (4))) (1) (mxI (q1 (1)) (ft (1))))), (sp, .inr (0, [.ref bs, .int (nI (slN (slN (n1) (q1 (1)) (mxI (q1 (1)) (ft (1)))) (mnI (q1 (4)) (ft (4))) (q1 (4))))])), (bs, eI g 144 (slB (slB (b1) (n1) (q1) (1) (q1 (1)) (mxI (q1 (1)) (ft (1)))) (slN (n1) (q1 (1)) (mxI (q1 (1)) (ft (1)))) (slR (q1) (1) (q1 (1)) (mxI (q1 (1)) (ft (1)))) (1) (mnI (q1 (4)) (ft (4))) (q1 (4))))] := hD
  refine lv_aload_n hx hb d_J_addRest_97 rfl (lv_at hl 5 rfl) ?_
  refine va_get (D := g.1) (ci := 1) (v := .ref ar) (C := R_J) (T := F_J) (N := 14) hx hb htB in_J hown ha.1 hP 3 rfl rfl 11 (by decide) (htB _ kw_51) (fun _ h9 => h9) hf11 d_J_addRest_98 ?_
  refine lv_iload_n hx hb d_J_addRest_101 rfl (lv_at hl 4 rfl) ?_
  refine lv_iconst (v := (nI (3))) hx hb d_J_addRest_102 (by decide) ?_
  refine jv_iadd hx hb d_J_addRest_103 ?_
  refine lv_iload hx hb d_J_addRest_104 (lv_at hl 0 rfl) ?_
  refine ja_ast (k := 4) hx hb ha.1 hP hD hS 4 0 rfl rfl (by omega) (by omega) d_J_addRest_106 (fun H locs hP hD hS => ?_)
  have hP : va_P g.1 cls [(att, eI g 6 (ft)), (so, .inr (0, [.ref bo, .int (nI (no))])), (bo, eI g 144 (fo)), (h, .inr (1, fs)), (ar, eI g 6 (upd (upd (slR (slR (q1) (1) (q1 (1)) (mxI (q1 (1)) (ft (1)))) (1) (mnI (q1 (4)) (ft (4))) (q1 (4))) (1) (mxI (q1 (1)) (ft (1)))) (4) (mnI (q1 (4)) (ft (4))))), (sp, .inr (0, [.ref bs, .int (nI (slN (slN (n1) (q1 (1)) (mxI (q1 (1)) (ft (1)))) (mnI (q1 (4)) (ft (4))) (q1 (4))))])), (bs, eI g 144 (slB (slB (b1) (n1) (q1) (1) (q1 (1)) (mxI (q1 (1)) (ft (1)))) (slN (n1) (q1 (1)) (mxI (q1 (1)) (ft (1)))) (slR (q1) (1) (q1 (1)) (mxI (q1 (1)) (ft (1)))) (1) (mnI (q1 (4)) (ft (4))) (q1 (4))))] H := hP
  have hD : va_D A [(att, eI g 6 (ft)), (so, .inr (0, [.ref bo, .int (nI (no))])), (bo, eI g 144 (fo)), (h, .inr (1, fs)), (ar, eI g 6 (upd (upd (slR (slR (q1) (1) (q1 (1)) (mxI (q1 (1)) (ft (1)))) (1) (mnI (q1 (4)) (ft (4))) (q1 (4))) (1) (mxI (q1 (1)) (ft (1)))) (4) (mnI (q1 (4)) (ft (4))))), (sp, .inr (0, [.ref bs, .int (nI (slN (slN (n1) (q1 (1)) (mxI (q1 (1)) (ft (1)))) (mnI (q1 (4)) (ft (4))) (q1 (4))))])), (bs, eI g 144 (slB (slB (b1) (n1) (q1) (1) (q1 (1)) (mxI (q1 (1)) (ft (1)))) (slN (n1) (q1 (1)) (mxI (q1 (1)) (ft (1)))) (slR (q1) (1) (q1 (1)) (mxI (q1 (1)) (ft (1)))) (1) (mnI (q1 (4)) (ft (4))) (q1 (4))))] := hD
  refine lv_iinc (v := nI (2)) (lv' := [(3, .int (nI (2))), (7, .int (mnI (q1 (4)) (ft (4)))), (6, .int (mxI (q1 (1)) (ft (1)))), (5, .int (q1 (4))), (4, .int (q1 (1))), (0, .ref h), (1, .ref so), (2, .int (nI (i)))]) hx hb d_J_addRest_107 hl (k := 4) rfl (nI_add _ 1) (by decide) rfl (fun ls hl => ?_)
  refine lv_goto (tgt := 20) hx hb d_J_addRest_110 (by decide) ?_
  obtain ⟨q2, n2, b2, hq2⟩ : ∃ (q2 : Nat → Int32) (n2 : Nat) (b2 : Nat → Int32), (q2, n2, b2) = (axR ft q1 1, axN ft q1 n1 1, axB ft q1 b1 n1 1) := ⟨_, _, _, rfl⟩
  have hle2 : n2 ≤ n1 + 2 := by rw [show n2 = axN ft q1 n1 1 from congrArg (fun x => x.2.1) hq2]; exact axN_le _ _ _ _
  have hP : va_P g.1 cls [(att, eI g 6 (ft)), (so, .inr (0, [.ref bo, .int (nI (no))])), (bo, eI g 144 (fo)), (h, .inr (1, fs)), (ar, eI g 6 (q2)), (sp, .inr (0, [.ref bs, .int (nI (n2))])), (bs, eI g 144 (b2))] H := by rw [show q2 = axR ft q1 1 from congrArg (fun x => x.1) hq2, show n2 = axN ft q1 n1 1 from congrArg (fun x => x.2.1) hq2, show b2 = axB ft q1 b1 n1 1 from congrArg (fun x => x.2.2) hq2]; exact hP
  have hD : va_D A [(att, eI g 6 (ft)), (so, .inr (0, [.ref bo, .int (nI (no))])), (bo, eI g 144 (fo)), (h, .inr (1, fs)), (ar, eI g 6 (q2)), (sp, .inr (0, [.ref bs, .int (nI (n2))])), (bs, eI g 144 (b2))] := hD.re [att, so, bo, h, ar, sp, bs] rfl rfl
  refine lv_iload_n hx hb d_J_addRest_20 rfl (lv_at hl 0 rfl) ?_
  refine lv_iconst (v := (nI (3))) hx hb d_J_addRest_21 (by decide) ?_
  refine jv_icmp_ge (tgt := 113) hx hb (by omega) (by omega) d_J_addRest_22 (by decide) (fun h => absurd h (by decide)) (fun _ => ?_)
  refine lv_aload_n hx hb d_J_addRest_25 rfl (lv_at hl 5 rfl) ?_
  refine va_get (D := g.1) (ci := 1) (v := .ref ar) (C := R_J) (T := F_J) (N := 14) hx hb htB in_J hown ha.1 hP 3 rfl rfl 11 (by decide) (htB _ kw_51) (fun _ h9 => h9) hf11 d_J_addRest_26 ?_
  refine lv_iload_n hx hb d_J_addRest_29 rfl (lv_at hl 0 rfl) ?_
  refine ja_ald (k := 2) hx hb ha.1 hP 4 0 rfl rfl (by omega) (by omega) d_J_addRest_30 ?_
  refine lv_istore (lv' := [(4, .int (q2 (2))), (3, .int (nI (2))), (7, .int (mnI (q1 (4)) (ft (4)))), (6, .int (mxI (q1 (1)) (ft (1)))), (5, .int (q1 (4))), (0, .ref h), (1, .ref so), (2, .int (nI (i)))]) hx hb d_J_addRest_31 hl (by decide) rfl (fun ls hl => ?_)
  refine lv_aload_n hx hb d_J_addRest_33 rfl (lv_at hl 5 rfl) ?_
  refine va_get (D := g.1) (ci := 1) (v := .ref ar) (C := R_J) (T := F_J) (N := 14) hx hb htB in_J hown ha.1 hP 3 rfl rfl 11 (by decide) (htB _ kw_51) (fun _ h9 => h9) hf11 d_J_addRest_34 ?_
  refine lv_iload_n hx hb d_J_addRest_37 rfl (lv_at hl 1 rfl) ?_
  refine lv_iconst (v := (nI (3))) hx hb d_J_addRest_38 (by decide) ?_
  refine jv_iadd hx hb d_J_addRest_39 ?_
  refine ja_ald (k := 5) hx hb ha.1 hP 4 0 rfl rfl (by omega) (by omega) d_J_addRest_40 ?_
  refine lv_istore (lv' := [(5, .int (q2 (5))), (4, .int (q2 (2))), (3, .int (nI (2))), (7, .int (mnI (q1 (4)) (ft (4)))), (6, .int (mxI (q1 (1)) (ft (1)))), (0, .ref h), (1, .ref so), (2, .int (nI (i)))]) hx hb d_J_addRest_41 hl (by decide) rfl (fun ls hl => ?_)
  refine lv_iload hx hb d_J_addRest_43 (lv_at hl 1 rfl) ?_
  refine lv_aload_n hx hb d_J_addRest_45 rfl (lv_at hl 5 rfl) ?_
  refine va_get (D := g.1) (ci := 1) (v := .ref att) (C := R_J) (T := F_J) (N := 14) hx hb htB in_J hown ha.1 hP 3 rfl rfl 10 (by decide) (htB _ kw_50) (fun _ h9 => h9) hf10 d_J_addRest_46 ?_
  refine lv_iload_n hx hb d_J_addRest_49 rfl (lv_at hl 2 rfl) ?_
  refine ja_ald (k := 2) hx hb ha.1 hP 0 0 rfl rfl (by omega) (by omega) d_J_addRest_50 ?_
  refine va_mmax (own := "JointSolids") hx hb (hml.trans hl.1.symm) hown (htB _ kw_168) (htB _ kw_169) (htB _ kw_4) (htB _ kw_170) (Nat.le_of_ble_eq_true rfl) (Nat.le_of_ble_eq_true rfl) (Nat.le_of_ble_eq_true rfl) (Nat.le_of_ble_eq_true rfl) d_J_addRest_51 ?_
  refine lv_istore (lv' := [(6, .int (mxI (q2 (2)) (ft (2)))), (5, .int (q2 (5))), (4, .int (q2 (2))), (3, .int (nI (2))), (7, .int (mnI (q1 (4)) (ft (4)))), (0, .ref h), (1, .ref so), (2, .int (nI (i)))]) hx hb d_J_addRest_54 hl (by decide) rfl (fun ls hl => ?_)
  refine lv_iload hx hb d_J_addRest_56 (lv_at hl 1 rfl) ?_
  refine lv_aload_n hx hb d_J_addRest_58 rfl (lv_at hl 5 rfl) ?_
  refine va_get (D := g.1) (ci := 1) (v := .ref att) (C := R_J) (T := F_J) (N := 14) hx hb htB in_J hown ha.1 hP 3 rfl rfl 10 (by decide) (htB _ kw_50) (fun _ h9 => h9) hf10 d_J_addRest_59 ?_
  refine lv_iload_n hx hb d_J_addRest_62 rfl (lv_at hl 3 rfl) ?_
  refine lv_iconst (v := (nI (3))) hx hb d_J_addRest_63 (by decide) ?_
  refine jv_iadd hx hb d_J_addRest_64 ?_
  refine ja_ald (k := 5) hx hb ha.1 hP 0 0 rfl rfl (by omega) (by omega) d_J_addRest_65 ?_
  refine va_mmin (own := "JointSolids") hx hb (hml.trans hl.1.symm) hown (htB _ kw_171) (htB _ kw_172) (htB _ kw_4) (htB _ kw_173) (Nat.le_of_ble_eq_true rfl) (Nat.le_of_ble_eq_true rfl) (Nat.le_of_ble_eq_true rfl) (Nat.le_of_ble_eq_true rfl) d_J_addRest_66 ?_
  refine lv_istore (lv' := [(7, .int (mnI (q2 (5)) (ft (5)))), (6, .int (mxI (q2 (2)) (ft (2)))), (5, .int (q2 (5))), (4, .int (q2 (2))), (3, .int (nI (2))), (0, .ref h), (1, .ref so), (2, .int (nI (i)))]) hx hb d_J_addRest_69 hl (by decide) rfl (fun ls hl => ?_)
  refine lv_aload_n hx hb d_J_addRest_71 rfl (lv_at hl 5 rfl) ?_
  refine lv_iload_n hx hb d_J_addRest_72 rfl (lv_at hl 4 rfl) ?_
  refine lv_iload hx hb d_J_addRest_73 (lv_at hl 3 rfl) ?_
  refine lv_iload hx hb d_J_addRest_75 (lv_at hl 1 rfl) ?_
  have hPc := hP.sub (ws' := [(h, .inr (1, fs)), (ar, eI g 6 (q2)), (sp, .inr (0, [.ref bs, .int (nI (n2))])), (bs, eI g 144 (b2))]) [3, 4, 5, 6] rfl
  have hDc := hD.sub (ws' := [(h, .inr (1, fs)), (ar, eI g 6 (q2)), (sp, .inr (0, [.ref bs, .int (nI (n2))])), (bs, eI g 144 (b2))]) [3, 4, 5, 6] (by decide) rfl
  have hFc := va_free (wc := [(h, .inr (1, fs)), (ar, eI g 6 (q2)), (sp, .inr (0, [.ref bs, .int (nI (n2))])), (bs, eI g 144 (b2))]) hD hS hA [3, 4, 5, 6] rfl
  refine va_callv (va_runV (As := [.int (nI (2)), .int (q2 (2)), .int (mxI (q2 (2)) (ft (2)))]) (rest := []) ⟨hx, hb, hml, hown, htB⟩ (m_J_addSlab l g z _ h fs ar sp bs (n2) (q2) (b2) (2) (q2 (2)) (mxI (q2 (2)) (ft (2)))) (cwV 3 htB (gV kw_259 kw_261 ks_0_8 kw_1 g_J_addSlab) rfl rfl rfl (by decide +kernel) ⟨Nat.le_of_ble_eq_true rfl, Nat.le_of_ble_eq_true rfl⟩) (pre_V hS hz ha (va_recv ha.1 hP (ci := 1) (q0 := 3) rfl rfl) ⟨hPc, hDc.weaken (fun _ _ _ h => hz _ h), ⟨hf9, hf11, by omega, by omega⟩⟩) rfl rfl hl.1 rfl (lv_room (Nat.le_of_ble_eq_true rfl)) d_J_addRest_77 ⟨Nat.le_of_ble_eq_true rfl, Nat.le_of_ble_eq_true rfl⟩) hS (fun q _ h => hFc q h) hFc (fun u_10 t H1 locs ht hvm hw hB hz1 hk1 hS => ?_)
  obtain ⟨hP1, hD1⟩ := hB
  rw [ht] at hP1
  obtain ⟨hP, hD⟩ := va_join (wr := [(att, eI g 6 (ft)), (so, .inr (0, [.ref bo, .int (nI (no))])), (bo, eI g 144 (fo))]) (w1 := [(h, .inr (1, fs)), (ar, eI g 6 (slR (q2) (2) (q2 (2)) (mxI (q2 (2)) (ft (2))))), (sp, .inr (0, [.ref bs, .int (nI (slN (n2) (q2 (2)) (mxI (q2 (2)) (ft (2)))))])), (bs, eI g 144 (slB (b2) (n2) (q2) (2) (q2 (2)) (mxI (q2 (2)) (ft (2)))))]) hP hD [3, 4, 5, 6] [0, 1, 2] rfl rfl (by decide) (by decide) hk1 hFc hP1 hD1
  clear hPc hDc hFc hP1 hD1 hk1 hz1 hvm ht
  generalize H1 = H at hP hS ⊢
  have hP : va_P g.1 cls [(att, eI g 6 (ft)), (so, .inr (0, [.ref bo, .int (nI (no))])), (bo, eI g 144 (fo)), (h, .inr (1, fs)), (ar, eI g 6 (slR (q2) (2) (q2 (2)) (mxI (q2 (2)) (ft (2))))), (sp, .inr (0, [.ref bs, .int (nI (slN (n2) (q2 (2)) (mxI (q2 (2)) (ft (2)))))])), (bs, eI g 144 (slB (b2) (n2) (q2) (2) (q2 (2)) (mxI (q2 (2)) (ft (2)))))] H := hP
  have hD : va_D A [(att, eI g 6 (ft)), (so, .inr (0, [.ref bo, .int (nI (no))])), (bo, eI g 144 (fo)), (h, .inr (1, fs)), (ar, eI g 6 (slR (q2) (2) (q2 (2)) (mxI (q2 (2)) (ft (2))))), (sp, .inr (0, [.ref bs, .int (nI (slN (n2) (q2 (2)) (mxI (q2 (2)) (ft (2)))))])), (bs, eI g 144 (slB (b2) (n2) (q2) (2) (q2 (2)) (mxI (q2 (2)) (ft (2)))))] := hD
  refine lv_aload_n hx hb d_J_addRest_80 rfl (lv_at hl 5 rfl) ?_
  refine lv_iload_n hx hb d_J_addRest_81 rfl (lv_at hl 4 rfl) ?_
  refine lv_iload hx hb d_J_addRest_82 (lv_at hl 0 rfl) ?_
  refine lv_iload hx hb d_J_addRest_84 (lv_at hl 2 rfl) ?_
  have hPc := hP.sub (ws' := [(h, .inr (1, fs)), (ar, eI g 6 (slR (q2) (2) (q2 (2)) (mxI (q2 (2)) (ft (2))))), (sp, .inr (0, [.ref bs, .int (nI (slN (n2) (q2 (2)) (mxI (q2 (2)) (ft (2)))))])), (bs, eI g 144 (slB (b2) (n2) (q2) (2) (q2 (2)) (mxI (q2 (2)) (ft (2)))))]) [3, 4, 5, 6] rfl
  have hDc := hD.sub (ws' := [(h, .inr (1, fs)), (ar, eI g 6 (slR (q2) (2) (q2 (2)) (mxI (q2 (2)) (ft (2))))), (sp, .inr (0, [.ref bs, .int (nI (slN (n2) (q2 (2)) (mxI (q2 (2)) (ft (2)))))])), (bs, eI g 144 (slB (b2) (n2) (q2) (2) (q2 (2)) (mxI (q2 (2)) (ft (2)))))]) [3, 4, 5, 6] (by decide) rfl
  have hFc := va_free (wc := [(h, .inr (1, fs)), (ar, eI g 6 (slR (q2) (2) (q2 (2)) (mxI (q2 (2)) (ft (2))))), (sp, .inr (0, [.ref bs, .int (nI (slN (n2) (q2 (2)) (mxI (q2 (2)) (ft (2)))))])), (bs, eI g 144 (slB (b2) (n2) (q2) (2) (q2 (2)) (mxI (q2 (2)) (ft (2)))))]) hD hS hA [3, 4, 5, 6] rfl
  refine va_callv (va_runV (As := [.int (nI (2)), .int (mnI (q2 (5)) (ft (5))), .int (q2 (5))]) (rest := []) ⟨hx, hb, hml, hown, htB⟩ (m_J_addSlab l g z _ h fs ar sp bs (slN (n2) (q2 (2)) (mxI (q2 (2)) (ft (2)))) (slR (q2) (2) (q2 (2)) (mxI (q2 (2)) (ft (2)))) (slB (b2) (n2) (q2) (2) (q2 (2)) (mxI (q2 (2)) (ft (2)))) (2) (mnI (q2 (5)) (ft (5))) (q2 (5))) (cwV 3 htB (gV kw_259 kw_261 ks_0_8 kw_1 g_J_addSlab) rfl rfl rfl (by decide +kernel) ⟨Nat.le_of_ble_eq_true rfl, Nat.le_of_ble_eq_true rfl⟩) (pre_V hS hz ha (va_recv ha.1 hP (ci := 1) (q0 := 3) rfl rfl) ⟨hPc, hDc.weaken (fun _ _ _ h => hz _ h), ⟨hf9, hf11, by omega, Nat.lt_of_le_of_lt (slN_le _ _ _) (by omega)⟩⟩) rfl rfl hl.1 rfl (lv_room (Nat.le_of_ble_eq_true rfl)) d_J_addRest_86 ⟨Nat.le_of_ble_eq_true rfl, Nat.le_of_ble_eq_true rfl⟩) hS (fun q _ h => hFc q h) hFc (fun u_12 t H1 locs ht hvm hw hB hz1 hk1 hS => ?_)
  obtain ⟨hP1, hD1⟩ := hB
  rw [ht] at hP1
  obtain ⟨hP, hD⟩ := va_join (wr := [(att, eI g 6 (ft)), (so, .inr (0, [.ref bo, .int (nI (no))])), (bo, eI g 144 (fo))]) (w1 := [(h, .inr (1, fs)), (ar, eI g 6 (slR (slR (q2) (2) (q2 (2)) (mxI (q2 (2)) (ft (2)))) (2) (mnI (q2 (5)) (ft (5))) (q2 (5)))), (sp, .inr (0, [.ref bs, .int (nI (slN (slN (n2) (q2 (2)) (mxI (q2 (2)) (ft (2)))) (mnI (q2 (5)) (ft (5))) (q2 (5))))])), (bs, eI g 144 (slB (slB (b2) (n2) (q2) (2) (q2 (2)) (mxI (q2 (2)) (ft (2)))) (slN (n2) (q2 (2)) (mxI (q2 (2)) (ft (2)))) (slR (q2) (2) (q2 (2)) (mxI (q2 (2)) (ft (2)))) (2) (mnI (q2 (5)) (ft (5))) (q2 (5))))]) hP hD [3, 4, 5, 6] [0, 1, 2] rfl rfl (by decide) (by decide) hk1 hFc hP1 hD1
  clear hPc hDc hFc hP1 hD1 hk1 hz1 hvm ht
  generalize H1 = H at hP hS ⊢
  have hP : va_P g.1 cls [(att, eI g 6 (ft)), (so, .inr (0, [.ref bo, .int (nI (no))])), (bo, eI g 144 (fo)), (h, .inr (1, fs)), (ar, eI g 6 (slR (slR (q2) (2) (q2 (2)) (mxI (q2 (2)) (ft (2)))) (2) (mnI (q2 (5)) (ft (5))) (q2 (5)))), (sp, .inr (0, [.ref bs, .int (nI (slN (slN (n2) (q2 (2)) (mxI (q2 (2)) (ft (2)))) (mnI (q2 (5)) (ft (5))) (q2 (5))))])), (bs, eI g 144 (slB (slB (b2) (n2) (q2) (2) (q2 (2)) (mxI (q2 (2)) (ft (2)))) (slN (n2) (q2 (2)) (mxI (q2 (2)) (ft (2)))) (slR (q2) (2) (q2 (2)) (mxI (q2 (2)) (ft (2)))) (2) (mnI (q2 (5)) (ft (5))) (q2 (5))))] H := hP
  have hD : va_D A [(att, eI g 6 (ft)), (so, .inr (0, [.ref bo, .int (nI (no))])), (bo, eI g 144 (fo)), (h, .inr (1, fs)), (ar, eI g 6 (slR (slR (q2) (2) (q2 (2)) (mxI (q2 (2)) (ft (2)))) (2) (mnI (q2 (5)) (ft (5))) (q2 (5)))), (sp, .inr (0, [.ref bs, .int (nI (slN (slN (n2) (q2 (2)) (mxI (q2 (2)) (ft (2)))) (mnI (q2 (5)) (ft (5))) (q2 (5))))])), (bs, eI g 144 (slB (slB (b2) (n2) (q2) (2) (q2 (2)) (mxI (q2 (2)) (ft (2)))) (slN (n2) (q2 (2)) (mxI (q2 (2)) (ft (2)))) (slR (q2) (2) (q2 (2)) (mxI (q2 (2)) (ft (2)))) (2) (mnI (q2 (5)) (ft (5))) (q2 (5))))] := hD
  refine lv_aload_n hx hb d_J_addRest_89 rfl (lv_at hl 5 rfl) ?_
  refine va_get (D := g.1) (ci := 1) (v := .ref ar) (C := R_J) (T := F_J) (N := 14) hx hb htB in_J hown ha.1 hP 3 rfl rfl 11 (by decide) (htB _ kw_51) (fun _ h9 => h9) hf11 d_J_addRest_90 ?_
  refine lv_iload_n hx hb d_J_addRest_93 rfl (lv_at hl 4 rfl) ?_
  refine lv_iload hx hb d_J_addRest_94 (lv_at hl 1 rfl) ?_
  refine ja_ast (k := 2) hx hb ha.1 hP hD hS 4 0 rfl rfl (by omega) (by omega) d_J_addRest_96 (fun H locs hP hD hS => ?_)
  have hP : va_P g.1 cls [(att, eI g 6 (ft)), (so, .inr (0, [.ref bo, .int (nI (no))])), (bo, eI g 144 (fo)), (h, .inr (1, fs)), (ar, eI g 6 (upd (slR (slR (q2) (2) (q2 (2)) (mxI (q2 (2)) (ft (2)))) (2) (mnI (q2 (5)) (ft (5))) (q2 (5))) (2) (mxI (q2 (2)) (ft (2))))), (sp, .inr (0, [.ref bs, .int (nI (slN (slN (n2) (q2 (2)) (mxI (q2 (2)) (ft (2)))) (mnI (q2 (5)) (ft (5))) (q2 (5))))])), (bs, eI g 144 (slB (slB (b2) (n2) (q2) (2) (q2 (2)) (mxI (q2 (2)) (ft (2)))) (slN (n2) (q2 (2)) (mxI (q2 (2)) (ft (2)))) (slR (q2) (2) (q2 (2)) (mxI (q2 (2)) (ft (2)))) (2) (mnI (q2 (5)) (ft (5))) (q2 (5))))] H := hP
  have hD : va_D A [(att, eI g 6 (ft)), (so, .inr (0, [.ref bo, .int (nI (no))])), (bo, eI g 144 (fo)), (h, .inr (1, fs)), (ar, eI g 6 (upd (slR (slR (q2) (2) (q2 (2)) (mxI (q2 (2)) (ft (2)))) (2) (mnI (q2 (5)) (ft (5))) (q2 (5))) (2) (mxI (q2 (2)) (ft (2))))), (sp, .inr (0, [.ref bs, .int (nI (slN (slN (n2) (q2 (2)) (mxI (q2 (2)) (ft (2)))) (mnI (q2 (5)) (ft (5))) (q2 (5))))])), (bs, eI g 144 (slB (slB (b2) (n2) (q2) (2) (q2 (2)) (mxI (q2 (2)) (ft (2)))) (slN (n2) (q2 (2)) (mxI (q2 (2)) (ft (2)))) (slR (q2) (2) (q2 (2)) (mxI (q2 (2)) (ft (2)))) (2) (mnI (q2 (5)) (ft (5))) (q2 (5))))] := hD
  refine lv_aload_n hx hb d_J_addRest_97 rfl (lv_at hl 5 rfl) ?_
  refine va_get (D := g.1) (ci := 1) (v := .ref ar) (C := R_J) (T := F_J) (N := 14) hx hb htB in_J hown ha.1 hP 3 rfl rfl 11 (by decide) (htB _ kw_51) (fun _ h9 => h9) hf11 d_J_addRest_98 ?_
  refine lv_iload_n hx hb d_J_addRest_101 rfl (lv_at hl 4 rfl) ?_
  refine lv_iconst (v := (nI (3))) hx hb d_J_addRest_102 (by decide) ?_
  refine jv_iadd hx hb d_J_addRest_103 ?_
  refine lv_iload hx hb d_J_addRest_104 (lv_at hl 0 rfl) ?_
  refine ja_ast (k := 5) hx hb ha.1 hP hD hS 4 0 rfl rfl (by omega) (by omega) d_J_addRest_106 (fun H locs hP hD hS => ?_)
  have hP : va_P g.1 cls [(att, eI g 6 (ft)), (so, .inr (0, [.ref bo, .int (nI (no))])), (bo, eI g 144 (fo)), (h, .inr (1, fs)), (ar, eI g 6 (upd (upd (slR (slR (q2) (2) (q2 (2)) (mxI (q2 (2)) (ft (2)))) (2) (mnI (q2 (5)) (ft (5))) (q2 (5))) (2) (mxI (q2 (2)) (ft (2)))) (5) (mnI (q2 (5)) (ft (5))))), (sp, .inr (0, [.ref bs, .int (nI (slN (slN (n2) (q2 (2)) (mxI (q2 (2)) (ft (2)))) (mnI (q2 (5)) (ft (5))) (q2 (5))))])), (bs, eI g 144 (slB (slB (b2) (n2) (q2) (2) (q2 (2)) (mxI (q2 (2)) (ft (2)))) (slN (n2) (q2 (2)) (mxI (q2 (2)) (ft (2)))) (slR (q2) (2) (q2 (2)) (mxI (q2 (2)) (ft (2)))) (2) (mnI (q2 (5)) (ft (5))) (q2 (5))))] H := hP
  have hD : va_D A [(att, eI g 6 (ft)), (so, .inr (0, [.ref bo, .int (nI (no))])), (bo, eI g 144 (fo)), (h, .inr (1, fs)), (ar, eI g 6 (upd (upd (slR (slR (q2) (2) (q2 (2)) (mxI (q2 (2)) (ft (2)))) (2) (mnI (q2 (5)) (ft (5))) (q2 (5))) (2) (mxI (q2 (2)) (ft (2)))) (5) (mnI (q2 (5)) (ft (5))))), (sp, .inr (0, [.ref bs, .int (nI (slN (slN (n2) (q2 (2)) (mxI (q2 (2)) (ft (2)))) (mnI (q2 (5)) (ft (5))) (q2 (5))))])), (bs, eI g 144 (slB (slB (b2) (n2) (q2) (2) (q2 (2)) (mxI (q2 (2)) (ft (2)))) (slN (n2) (q2 (2)) (mxI (q2 (2)) (ft (2)))) (slR (q2) (2) (q2 (2)) (mxI (q2 (2)) (ft (2)))) (2) (mnI (q2 (5)) (ft (5))) (q2 (5))))] := hD
  refine lv_iinc (v := nI (3)) (lv' := [(3, .int (nI (3))), (7, .int (mnI (q2 (5)) (ft (5)))), (6, .int (mxI (q2 (2)) (ft (2)))), (5, .int (q2 (5))), (4, .int (q2 (2))), (0, .ref h), (1, .ref so), (2, .int (nI (i)))]) hx hb d_J_addRest_107 hl (k := 4) rfl (nI_add _ 1) (by decide) rfl (fun ls hl => ?_)
  refine lv_goto (tgt := 20) hx hb d_J_addRest_110 (by decide) ?_
  obtain ⟨q3, n3, b3, hq3⟩ : ∃ (q3 : Nat → Int32) (n3 : Nat) (b3 : Nat → Int32), (q3, n3, b3) = (axR ft q2 2, axN ft q2 n2 2, axB ft q2 b2 n2 2) := ⟨_, _, _, rfl⟩
  have hle3 : n3 ≤ n2 + 2 := by rw [show n3 = axN ft q2 n2 2 from congrArg (fun x => x.2.1) hq3]; exact axN_le _ _ _ _
  have hP : va_P g.1 cls [(att, eI g 6 (ft)), (so, .inr (0, [.ref bo, .int (nI (no))])), (bo, eI g 144 (fo)), (h, .inr (1, fs)), (ar, eI g 6 (q3)), (sp, .inr (0, [.ref bs, .int (nI (n3))])), (bs, eI g 144 (b3))] H := by rw [show q3 = axR ft q2 2 from congrArg (fun x => x.1) hq3, show n3 = axN ft q2 n2 2 from congrArg (fun x => x.2.1) hq3, show b3 = axB ft q2 b2 n2 2 from congrArg (fun x => x.2.2) hq3]; exact hP
  have hD : va_D A [(att, eI g 6 (ft)), (so, .inr (0, [.ref bo, .int (nI (no))])), (bo, eI g 144 (fo)), (h, .inr (1, fs)), (ar, eI g 6 (q3)), (sp, .inr (0, [.ref bs, .int (nI (n3))])), (bs, eI g 144 (b3))] := hD.re [att, so, bo, h, ar, sp, bs] rfl rfl
  refine lv_iload_n hx hb d_J_addRest_20 rfl (lv_at hl 0 rfl) ?_
  refine lv_iconst (v := (nI (3))) hx hb d_J_addRest_21 (by decide) ?_
  refine jv_icmp_ge (tgt := 113) hx hb (by omega) (by omega) d_J_addRest_22 (by decide) (fun _ => ?_) (fun h => absurd h (by decide))
  cases hq3
  cases hq2
  cases hq1
  have hP : va_P g.1 cls [(att, eI g 6 (ft)), (so, .inr (0, [.ref bo, .int (nI (no))])), (bo, eI g 144 (fo)), (h, .inr (1, fs)), (ar, eI g 6 (rsR ft q)), (sp, .inr (0, [.ref bs, .int (nI (rsN ft q n))])), (bs, eI g 144 (rsB ft q fb n))] H := hP
  have hD : va_D A [(att, eI g 6 (ft)), (so, .inr (0, [.ref bo, .int (nI (no))])), (bo, eI g 144 (fo)), (h, .inr (1, fs)), (ar, eI g 6 (rsR ft q)), (sp, .inr (0, [.ref bs, .int (nI (rsN ft q n))])), (bs, eI g 144 (rsB ft q fb n))] := hD.re [att, so, bo, h, ar, sp, bs] rfl rfl
  have hP9 := hP.sub (ws' := [(h, .inr (1, fs)), (att, eI g 6 (ft)), (ar, eI g 6 (rsR ft q)), (sp, .inr (0, [.ref bs, .int (nI (rsN ft q n))])), (bs, eI g 144 (rsB ft q fb n)), (so, .inr (0, [.ref bo, .int (nI (no))])), (bo, eI g 144 (fo))]) [3, 0, 4, 5, 6, 1, 2] rfl
  have hD9 := hD.sub (ws' := [(h, .inr (1, fs)), (att, eI g 6 (ft)), (ar, eI g 6 (rsR ft q)), (sp, .inr (0, [.ref bs, .int (nI (rsN ft q n))])), (bs, eI g 144 (rsB ft q fb n)), (so, .inr (0, [.ref bo, .int (nI (no))])), (bo, eI g 144 (fo))]) [3, 0, 4, 5, 6, 1, 2] (by decide) rfl
  exact (W.widen (k := 0) (n := 0) (Nat.le_of_ble_eq_true rfl) (Nat.le_of_ble_eq_true rfl) (W.vret hx hb hr (fun t ht hW => ⟨⟨(), rfl, trivial, by rw [ht, ← hq]; exact hP9, hD9.re [h, att, ar, sp, bs, so, bo] rfl rfl⟩, hS.F ht⟩) hS.2.2 d_J_addRest_113))
