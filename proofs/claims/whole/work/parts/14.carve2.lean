/-- a cut, box by box: the row 'rest', how many boxes came, the boxes -/
def cv (f t r0 b0 : Nat → Int32) : Nat → (Nat → Int32) × Nat × (Nat → Int32)
  | 0 => (r0, 0, b0)
  | i + 1 => if 0 < volS f (i * 6) t 0 then (rsR t (va_cpy f (cv f t r0 b0 i).1 (i * 6) 0 6), rsN t (va_cpy f (cv f t r0 b0 i).1 (i * 6) 0 6) (cv f t r0 b0 i).2.1, rsB t (va_cpy f (cv f t r0 b0 i).1 (i * 6) 0 6) (cv f t r0 b0 i).2.2 (cv f t r0 b0 i).2.1) else ((cv f t r0 b0 i).1, (cv f t r0 b0 i).2.1 + 1, adB (cv f t r0 b0 i).2.2 (cv f t r0 b0 i).2.1 f (i * 6))
theorem cv_s (f t r0 b0 : Nat → Int32) (i : Nat) : cv f t r0 b0 (i + 1) = if 0 < volS f (i * 6) t 0 then (rsR t (va_cpy f (cv f t r0 b0 i).1 (i * 6) 0 6), rsN t (va_cpy f (cv f t r0 b0 i).1 (i * 6) 0 6) (cv f t r0 b0 i).2.1, rsB t (va_cpy f (cv f t r0 b0 i).1 (i * 6) 0 6) (cv f t r0 b0 i).2.2 (cv f t r0 b0 i).2.1) else ((cv f t r0 b0 i).1, (cv f t r0 b0 i).2.1 + 1, adB (cv f t r0 b0 i).2.2 (cv f t r0 b0 i).2.1 f (i * 6)) := rfl
theorem cv_le (f t r0 b0 : Nat → Int32) (i : Nat) : (cv f t r0 b0 i).2.1 ≤ 6 * i := by
  induction i with
  | zero => exact Nat.le_refl 0
  | succ i ih =>
    rw [cv_s]
    split
    · exact Nat.le_trans (rsN_le _ _ _) (by omega)
    · exact Nat.le_trans (Nat.succ_le_succ ih) (by omega)
theorem vol_pos {x : Int64} (h : ¬ lg_cmp x 0 ≤ 0) : 0 < x := Int64.not_le.mp fun q => h ((lg_cmp_le _ _).mpr q)
theorem vol_no {x : Int64} (h : lg_cmp x 0 ≤ 0) : ¬ 0 < x := Int64.not_lt.mpr ((lg_cmp_le _ _).mp h)
set_option maxHeartbeats 4000000 in
set_option maxRecDepth 100000 in
theorem m_J_carve (l : Launch) (g : gT) (z : Nat) (H0 : Heap) (h : Nat) (fs : List Value) (att ar sp bs n so bo no : Nat) (ft r fb fo : Nat → Int32) : Met l y_J_carve w_J_carve ({ frames := 4, cells := 0, slots := 0, locals := 112 }) (va_Pc [.ref h, .ref so] (pB g z H0 (va_P g.1 cls [(h, .inr (1, fs)), (att, eI g 6 (ft)), (ar, eI g 6 (r)), (sp, .inr (0, [.ref bs, .int (nI (n))])), (bs, eI g 144 (fb)), (so, .inr (0, [.ref bo, .int (nI (no))])), (bo, eI g 144 (fo))] H0 ∧ va_D (zA z) [(h, .inr (1, fs)), (att, eI g 6 (ft)), (ar, eI g 6 (r)), (sp, .inr (0, [.ref bs, .int (nI (n))])), (bs, eI g 144 (fb)), (so, .inr (0, [.ref bo, .int (nI (no))])), (bo, eI g 144 (fo))] ∧ (fs[9]? = some (.ref sp) ∧ fs[10]? = some (.ref att) ∧ fs[11]? = some (.ref ar) ∧ no ≤ 24)))) (va_Qi (fun (rr : Int32) (_ : Unit) => rr = (if (cv fo ft r fb no).2.1 ≤ 24 then nI 1 else nI 0)) (fun (_ : Unit) t => va_P g.1 cls [(h, .inr (1, fs)), (att, eI g 6 (ft)), (ar, eI g 6 ((cv fo ft r fb no).1)), (sp, .inr (0, [.ref bs, .int (nI ((cv fo ft r fb no).2.1))])), (bs, eI g 144 ((cv fo ft r fb no).2.2)), (so, .inr (0, [.ref bo, .int (nI (if (cv fo ft r fb no).2.1 ≤ 24 then (cv fo ft r fb no).2.1 else no))])), (bo, eI g 144 (if (cv fo ft r fb no).2.1 ≤ 24 then va_cpy (cv fo ft r fb no).2.2 fo 0 0 ((cv fo ft r fb no).2.1 * 6) else fo))] t.heap ∧ va_D (va_A [(h, .inr (1, fs)), (att, eI g 6 (ft)), (ar, eI g 6 (r)), (sp, .inr (0, [.ref bs, .int (nI (n))])), (bs, eI g 144 (fb)), (so, .inr (0, [.ref bo, .int (nI (no))])), (bo, eI g 144 (fo))] H0.size) [(h, .inr (1, fs)), (att, eI g 6 (ft)), (ar, eI g 6 ((cv fo ft r fb no).1)), (sp, .inr (0, [.ref bs, .int (nI ((cv fo ft r fb no).2.1))])), (bs, eI g 144 ((cv fo ft r fb no).2.2)), (so, .inr (0, [.ref bo, .int (nI (if (cv fo ft r fb no).2.1 ≤ 24 then (cv fo ft r fb no).2.1 else no))])), (bo, eI g 144 (if (cv fo ft r fb no).2.1 ≤ 24 then va_cpy (cv fo ft r fb no).2.2 fo 0 0 ((cv fo ft r fb no).2.1 * 6) else fo))]) (va_A [(h, .inr (1, fs)), (att, eI g 6 (ft)), (ar, eI g 6 (r)), (sp, .inr (0, [.ref bs, .int (nI (n))])), (bs, eI g 144 (fb)), (so, .inr (0, [.ref bo, .int (nI (no))])), (bo, eI g 144 (fo))] H0.size)) 0 0 (va_A [(h, .inr (1, fs)), (att, eI g 6 (ft)), (ar, eI g 6 (r)), (sp, .inr (0, [.ref bs, .int (nI (n))])), (bs, eI g 144 (fb)), (so, .inr (0, [.ref bo, .int (nI (no))])), (bo, eI g 144 (fo))] H0.size) := by
  refine Met.ofW (cc := c_J_carve) (maxL := 3) (ret := (some .boolean)) (by decide) rfl ?_
  intro p e s m args below meth c s₁ B hml hv
  obtain ⟨rfl, hH0, ha, hP, hD0, hf9, hf10, hf11, hno⟩ := hv
  have hx := B.exec
  have hb := B.bytes
  have hr := B.returns
  have htB : ∀ w ∈ tB, w.before _ s = true := fun w h => atoms_spec (ws := w_J_carve) B.pre w (List.mem_cons_of_mem _ h)
  have hown : s.vm.findClass "JointSolids" = some m.cls := findClass_of_methodNamed B.named
  have hlocks := B.notSynchronized
  subst hH0
  have hD := hD0.self (sz := s.heap.size)
  have hz := aA_z hD0 ha.2.2.2.2.2
  generalize hAe : va_A [(h, .inr (1, fs)), (att, eI g 6 (ft)), (ar, eI g 6 (r)), (sp, .inr (0, [.ref bs, .int (nI (n))])), (bs, eI g 144 (fb)), (so, .inr (0, [.ref bo, .int (nI (no))])), (bo, eI g 144 (fo))] s.heap.size = A at hD hz ⊢
  have hA : ∀ q : Nat, s.heap.size ≤ q → A q := fun q h => by rw [← hAe]; exact Or.inr h
  have hS : va_S A s.heap s.heap [] := va_S.rf
  refine W.ofH hP hS (fun H locs hP hS => ?_)
  have hl := lv_entry ([.ref h, .ref so]) (n := 3) (Nat.le_of_ble_eq_true rfl)
  rw [lg_entry_eq]
  generalize (lg_sl ([.ref h, .ref so]) ++ List.replicate (3 - (lg_sl ([.ref h, .ref so])).length) Slot.unset).toArray = ls at hl ⊢
  have hl : lv_has ls 3 [(0, .ref h), (1, .ref so)] := hl
  refine lv_aload_n hx hb d_J_carve_0 rfl (lv_at hl 0 rfl) ?_
  refine va_get (D := g.1) (ci := 1) (v := .ref sp) (C := R_J) (T := F_J) (N := 14) hx hb htB in_J hown ha.1 hP 0 rfl rfl 9 (by decide) (htB _ kw_49) (fun _ h9 => h9) hf9 d_J_carve_1 ?_
  have hPc := hP.sub (ws' := [(sp, .inr (0, [.ref bs, .int (nI (n))]))]) [3] rfl
  have hDc := hD.sub (ws' := [(sp, .inr (0, [.ref bs, .int (nI (n))]))]) [3] (by decide) rfl
  have hFc := va_free (wc := [(sp, .inr (0, [.ref bs, .int (nI (n))]))]) hD hS hA [3] rfl
  refine va_callv (va_runVN (As := []) (rest := []) ⟨hx, hb, hml, hown, htB⟩ (m_S_empty l g z _ sp bs (n)) ⟨va_cnB 0 htB g_S_empty rfl rfl rfl (ha.2.1 _ nb_15) (htB _ kw_2) (by decide +kernel) ⟨Nat.le_of_ble_eq_true rfl, Nat.le_of_ble_eq_true rfl⟩, htB _ kw_253, htB _ ks_0_6⟩ (pre_V hS hz ha (va_recv ha.1 hP (ci := 0) (q0 := 3) rfl rfl) ⟨hPc, hDc.weaken (fun _ _ _ h => hz _ h), trivial⟩) rfl rfl hl.1 rfl (lv_room (Nat.le_of_ble_eq_true rfl)) d_J_carve_4 ⟨Nat.le_of_ble_eq_true rfl, Nat.le_of_ble_eq_true rfl⟩) hS (fun q _ h => hFc q h) hFc (fun u_2 t H1 locs ht hvm hw hB hz1 hk1 hS => ?_)
  obtain ⟨hP1, hD1⟩ := hB
  rw [ht] at hP1
  obtain ⟨hP, hD⟩ := va_join (wr := [(h, .inr (1, fs)), (att, eI g 6 (ft)), (ar, eI g 6 (r)), (bs, eI g 144 (fb)), (so, .inr (0, [.ref bo, .int (nI (no))])), (bo, eI g 144 (fo))]) (w1 := [(sp, .inr (0, [.ref bs, .int (nI (0))]))]) hP hD [3] [0, 1, 2, 4, 5, 6] rfl rfl (by decide) (by decide) hk1 hFc hP1 hD1
  clear hPc hDc hFc hP1 hD1 hk1 hz1 hvm ht
  generalize H1 = H at hP hS ⊢
  have hP : va_P g.1 cls [(h, .inr (1, fs)), (att, eI g 6 (ft)), (ar, eI g 6 (r)), (bs, eI g 144 (fb)), (so, .inr (0, [.ref bo, .int (nI (no))])), (bo, eI g 144 (fo)), (sp, .inr (0, [.ref bs, .int (nI (0))]))] H := hP
  have hD : va_D A [(h, .inr (1, fs)), (att, eI g 6 (ft)), (ar, eI g 6 (r)), (bs, eI g 144 (fb)), (so, .inr (0, [.ref bo, .int (nI (no))])), (bo, eI g 144 (fo)), (sp, .inr (0, [.ref bs, .int (nI (0))]))] := hD
  refine lv_iconst (v := (nI (0))) hx hb d_J_carve_7 (by decide) ?_
  refine lv_istore_n (lv' := [(2, .int (nI (0))), (0, .ref h), (1, .ref so)]) hx hb d_J_carve_8 rfl hl (by decide) rfl (fun ls hl => ?_)
  have hP : va_P g.1 cls [(h, .inr (1, fs)), (att, eI g 6 (ft)), (ar, eI g 6 ((cv fo ft r fb 0).1)), (bs, eI g 144 ((cv fo ft r fb 0).2.2)), (so, .inr (0, [.ref bo, .int (nI (no))])), (bo, eI g 144 (fo)), (sp, .inr (0, [.ref bs, .int (nI ((cv fo ft r fb 0).2.1))]))] H := hP
  refine W.loop (N := no) (X := fun i ls locs H => lv_has ls 3 [(0, .ref h), (1, .ref so), (2, .int (nI (i)))] ∧ i ≤ no ∧ va_P g.1 cls [(h, .inr (1, fs)), (att, eI g 6 (ft)), (ar, eI g 6 ((cv fo ft r fb i).1)), (bs, eI g 144 ((cv fo ft r fb i).2.2)), (so, .inr (0, [.ref bo, .int (nI (no))])), (bo, eI g 144 (fo)), (sp, .inr (0, [.ref bs, .int (nI ((cv fo ft r fb i).2.1))]))] H ∧ va_D A [(h, .inr (1, fs)), (att, eI g 6 (ft)), (ar, eI g 6 ((cv fo ft r fb i).1)), (bs, eI g 144 ((cv fo ft r fb i).2.2)), (so, .inr (0, [.ref bo, .int (nI (no))])), (bo, eI g 144 (fo)), (sp, .inr (0, [.ref bs, .int (nI ((cv fo ft r fb i).2.1))]))] ∧ va_S A s.heap H locs) 0 ⟨lv_sub hl [1, 2, 0] rfl, Nat.zero_le _, hP, hD.re [h, att, ar, bs, so, bo, sp] rfl rfl, hS⟩ (fun n_3 ih_4 i ls locs H hn_i hi_i hX => ?_) (fun _ _ _ _ hX => hX.2.1)
  obtain ⟨hl, -, hP, hD, hS⟩ := hX
  refine lv_iload_n hx hb d_J_carve_9 rfl (lv_at hl 2 rfl) ?_
  refine lv_aload_n hx hb d_J_carve_10 rfl (lv_at hl 1 rfl) ?_
  refine va_getN (D := g.1) (ci := 0) (v := .int (nI (no))) (C := R_S) (T := F_S) (N := 2) hx hb htB in_S hown ha.1 hP 4 rfl rfl 1 (by decide) (va_Nw.use rfl (ha.2.1 _ nb_2)) (fun _ h9 => h9) rfl d_J_carve_11 ?_
  refine jv_icmp_ge (tgt := 68) hx hb (by omega) (by omega) d_J_carve_14 (by decide) (fun c_5 => ?_) (fun c_5 => ?_)
  · obtain rfl : i = no := by omega
    have hcl := cv_le fo ft r fb i
    refine lv_aload_n hx hb d_J_carve_68 rfl (lv_at hl 0 rfl) ?_
    refine va_get (D := g.1) (ci := 1) (v := .ref sp) (C := R_J) (T := F_J) (N := 14) hx hb htB in_J hown ha.1 hP 0 rfl rfl 9 (by decide) (htB _ kw_49) (fun _ h9 => h9) hf9 d_J_carve_69 ?_
    refine va_getN (D := g.1) (ci := 0) (v := .int (nI ((cv fo ft r fb i).2.1))) (C := R_S) (T := F_S) (N := 2) hx hb htB in_S hown ha.1 hP 6 rfl rfl 1 (by decide) (va_Nw.use rfl (ha.2.1 _ nb_2)) (fun _ h9 => h9) rfl d_J_carve_72 ?_
    refine lv_bipush (v := (nI (24))) hx hb d_J_carve_75 (by decide) ?_
    refine jv_icmp_le (tgt := 82) hx hb (by omega) (by omega) d_J_carve_77 (by decide) (fun c_6 => ?_) (fun c_6 => ?_)
    · refine lv_aload_n hx hb d_J_carve_82 rfl (lv_at hl 1 rfl) ?_
      refine lv_aload_n hx hb d_J_carve_83 rfl (lv_at hl 0 rfl) ?_
      refine va_get (D := g.1) (ci := 1) (v := .ref sp) (C := R_J) (T := F_J) (N := 14) hx hb htB in_J hown ha.1 hP 0 rfl rfl 9 (by decide) (htB _ kw_49) (fun _ h9 => h9) hf9 d_J_carve_84 ?_
      have hPc := hP.sub (ws' := [(so, .inr (0, [.ref bo, .int (nI (i))])), (bo, eI g 144 (fo)), (sp, .inr (0, [.ref bs, .int (nI ((cv fo ft r fb i).2.1))])), (bs, eI g 144 ((cv fo ft r fb i).2.2))]) [4, 5, 6, 3] rfl
      have hDc := hD.sub (ws' := [(so, .inr (0, [.ref bo, .int (nI (i))])), (bo, eI g 144 (fo)), (sp, .inr (0, [.ref bs, .int (nI ((cv fo ft r fb i).2.1))])), (bs, eI g 144 ((cv fo ft r fb i).2.2))]) [4, 5, 6, 3] (by decide) rfl
      have hFc := va_free (wc := [(so, .inr (0, [.ref bo, .int (nI (i))])), (bo, eI g 144 (fo)), (sp, .inr (0, [.ref bs, .int (nI ((cv fo ft r fb i).2.1))])), (bs, eI g 144 ((cv fo ft r fb i).2.2))]) hD hS hA [4, 5, 6, 3] rfl
      refine va_callv (va_runVN (As := [.ref sp]) (rest := []) ⟨hx, hb, hml, hown, htB⟩ (m_S_copy l g z _ so bo (i) sp bs ((cv fo ft r fb i).2.1) (fo) ((cv fo ft r fb i).2.2)) ⟨va_cnB 1 htB g_S_copy rfl rfl rfl (ha.2.1 _ nb_16) (htB _ kw_2) (by decide +kernel) ⟨Nat.le_of_ble_eq_true rfl, Nat.le_of_ble_eq_true rfl⟩, htB _ kw_265, htB _ ks_0_9⟩ (pre_V hS hz ha (va_recv ha.1 hP (ci := 0) (q0 := 4) rfl rfl) ⟨hPc, hDc.weaken (fun _ _ _ h => hz _ h), by omega⟩) rfl rfl hl.1 rfl (lv_room (Nat.le_of_ble_eq_true rfl)) d_J_carve_87 ⟨Nat.le_of_ble_eq_true rfl, Nat.le_of_ble_eq_true rfl⟩) hS (fun q _ h => hFc q h) hFc (fun u_8 t H1 locs ht hvm hw hB hz1 hk1 hS => ?_)
      obtain ⟨hP1, hD1⟩ := hB
      rw [ht] at hP1
      obtain ⟨hP, hD⟩ := va_join (wr := [(h, .inr (1, fs)), (att, eI g 6 (ft)), (ar, eI g 6 ((cv fo ft r fb i).1))]) (w1 := [(so, .inr (0, [.ref bo, .int (nI ((cv fo ft r fb i).2.1))])), (bo, eI g 144 (va_cpy ((cv fo ft r fb i).2.2) (fo) 0 0 (((cv fo ft r fb i).2.1) * 6))), (sp, .inr (0, [.ref bs, .int (nI ((cv fo ft r fb i).2.1))])), (bs, eI g 144 ((cv fo ft r fb i).2.2))]) hP hD [4, 5, 6, 3] [0, 1, 2] rfl rfl (by decide) (by decide) hk1 hFc hP1 hD1
      clear hPc hDc hFc hP1 hD1 hk1 hz1 hvm ht
      generalize H1 = H at hP hS ⊢
      have hP : va_P g.1 cls [(h, .inr (1, fs)), (att, eI g 6 (ft)), (ar, eI g 6 ((cv fo ft r fb i).1)), (so, .inr (0, [.ref bo, .int (nI ((cv fo ft r fb i).2.1))])), (bo, eI g 144 (va_cpy ((cv fo ft r fb i).2.2) (fo) 0 0 (((cv fo ft r fb i).2.1) * 6))), (sp, .inr (0, [.ref bs, .int (nI ((cv fo ft r fb i).2.1))])), (bs, eI g 144 ((cv fo ft r fb i).2.2))] H := hP
      have hD : va_D A [(h, .inr (1, fs)), (att, eI g 6 (ft)), (ar, eI g 6 ((cv fo ft r fb i).1)), (so, .inr (0, [.ref bo, .int (nI ((cv fo ft r fb i).2.1))])), (bo, eI g 144 (va_cpy ((cv fo ft r fb i).2.2) (fo) 0 0 (((cv fo ft r fb i).2.1) * 6))), (sp, .inr (0, [.ref bs, .int (nI ((cv fo ft r fb i).2.1))])), (bs, eI g 144 ((cv fo ft r fb i).2.2))] := hD
      refine lv_iconst (v := (nI (1))) hx hb d_J_carve_90 (by decide) ?_
      have hP9 := hP.sub (ws' := [(h, .inr (1, fs)), (att, eI g 6 (ft)), (ar, eI g 6 ((cv fo ft r fb i).1)), (sp, .inr (0, [.ref bs, .int (nI ((cv fo ft r fb i).2.1))])), (bs, eI g 144 ((cv fo ft r fb i).2.2)), (so, .inr (0, [.ref bo, .int (nI ((cv fo ft r fb i).2.1))])), (bo, eI g 144 (va_cpy ((cv fo ft r fb i).2.2) (fo) 0 0 (((cv fo ft r fb i).2.1) * 6)))]) [0, 1, 2, 5, 6, 3, 4] rfl
      have hD9 := hD.sub (ws' := [(h, .inr (1, fs)), (att, eI g 6 (ft)), (ar, eI g 6 ((cv fo ft r fb i).1)), (sp, .inr (0, [.ref bs, .int (nI ((cv fo ft r fb i).2.1))])), (bs, eI g 144 ((cv fo ft r fb i).2.2)), (so, .inr (0, [.ref bo, .int (nI ((cv fo ft r fb i).2.1))])), (bo, eI g 144 (va_cpy ((cv fo ft r fb i).2.2) (fo) 0 0 (((cv fo ft r fb i).2.1) * 6)))]) [0, 1, 2, 5, 6, 3, 4] (by decide) rfl
      exact (W.widen (k := 0) (n := 0) (Nat.le_of_ble_eq_true rfl) (Nat.le_of_ble_eq_true rfl) (W.zret (v := (nI (1))) hx hb hr (by decide) (fun t ht hW => ⟨⟨(nI (1)), (), rfl, (if_pos (by omega)).symm, by rw [ht, show (if (cv fo ft r fb i).2.1 ≤ 24 then (cv fo ft r fb i).2.1 else i) = (cv fo ft r fb i).2.1 from if_pos (by omega), show (if (cv fo ft r fb i).2.1 ≤ 24 then va_cpy (cv fo ft r fb i).2.2 fo 0 0 ((cv fo ft r fb i).2.1 * 6) else fo) = va_cpy (cv fo ft r fb i).2.2 fo 0 0 ((cv fo ft r fb i).2.1 * 6) from if_pos (by omega)]; exact hP9, hD9.re [h, att, ar, sp, bs, so, bo] rfl rfl⟩, hS.F ht⟩) hS.2.2 d_J_carve_91))
    · refine lv_iconst (v := (nI (0))) hx hb d_J_carve_80 (by decide) ?_
      have hP9 := hP.sub (ws' := [(h, .inr (1, fs)), (att, eI g 6 (ft)), (ar, eI g 6 ((cv fo ft r fb i).1)), (sp, .inr (0, [.ref bs, .int (nI ((cv fo ft r fb i).2.1))])), (bs, eI g 144 ((cv fo ft r fb i).2.2)), (so, .inr (0, [.ref bo, .int (nI (i))])), (bo, eI g 144 (fo))]) [0, 1, 2, 6, 3, 4, 5] rfl
      have hD9 := hD.sub (ws' := [(h, .inr (1, fs)), (att, eI g 6 (ft)), (ar, eI g 6 ((cv fo ft r fb i).1)), (sp, .inr (0, [.ref bs, .int (nI ((cv fo ft r fb i).2.1))])), (bs, eI g 144 ((cv fo ft r fb i).2.2)), (so, .inr (0, [.ref bo, .int (nI (i))])), (bo, eI g 144 (fo))]) [0, 1, 2, 6, 3, 4, 5] (by decide) rfl
      exact (W.widen (k := 0) (n := 0) (Nat.le_of_ble_eq_true rfl) (Nat.le_of_ble_eq_true rfl) (W.zret (v := (nI (0))) hx hb hr (by decide) (fun t ht hW => ⟨⟨(nI (0)), (), rfl, (if_neg (by omega)).symm, by rw [ht, show (if (cv fo ft r fb i).2.1 ≤ 24 then (cv fo ft r fb i).2.1 else i) = i from if_neg (by omega), show (if (cv fo ft r fb i).2.1 ≤ 24 then va_cpy (cv fo ft r fb i).2.2 fo 0 0 ((cv fo ft r fb i).2.1 * 6) else fo) = fo from if_neg (by omega)]; exact hP9, hD9.re [h, att, ar, sp, bs, so, bo] rfl rfl⟩, hS.F ht⟩) hS.2.2 d_J_carve_81))
  · have hcl := cv_le fo ft r fb i
    refine lv_aload_n hx hb d_J_carve_17 rfl (lv_at hl 1 rfl) ?_
    refine va_getN (D := g.1) (ci := 0) (v := .ref bo) (C := R_S) (T := F_S) (N := 2) hx hb htB in_S hown ha.1 hP 4 rfl rfl 0 (by decide) (va_Nw.use rfl (ha.2.1 _ nb_1)) (fun _ h9 => h9) rfl d_J_carve_18 ?_
    refine lv_iload_n hx hb d_J_carve_21 rfl (lv_at hl 2 rfl) ?_
    refine lv_bipush (v := (nI (6))) hx hb d_J_carve_22 (by decide) ?_
    refine jv_imul hx hb d_J_carve_24 ?_
    refine lv_aload_n hx hb d_J_carve_25 rfl (lv_at hl 0 rfl) ?_
    refine va_get (D := g.1) (ci := 1) (v := .ref att) (C := R_J) (T := F_J) (N := 14) hx hb htB in_J hown ha.1 hP 0 rfl rfl 10 (by decide) (htB _ kw_50) (fun _ h9 => h9) hf10 d_J_carve_26 ?_
    refine lv_iconst (v := (nI (0))) hx hb d_J_carve_29 (by decide) ?_
    refine va_calll (va_runS (As := [.ref bo, .int (nI (i * 6)), .ref att, .int (nI (0))]) (rest := []) ⟨hx, hb, hml, hown, htB⟩ (p_J_volumeShared l g z _ bo att 144 6 fo ft (i * 6) (0)) (va_cwS 4 htB (gS kw_162 kw_163 kw_1 g_J_volumeShared) rfl rfl rfl (by decide +kernel) ⟨by decide, by decide⟩) (pre_S hS hz ha ⟨va_pair (hP 5 _ rfl) (hP 1 _ rfl), by omega, by omega, by omega, by omega⟩) rfl rfl hl.1 rfl (lv_room (Nat.le_of_ble_eq_true rfl)) d_J_carve_30 ⟨by decide, by decide⟩) hS (fun q _ h => h.elim) (fun q h => h.elim) (fun r_9 u t H1 locs ht hvm hw hB hz1 hk1 hS => ?_)
    obtain rfl := hB.symm.trans ht
    subst hw
    refine lv_lconst (v := 0) hx hb d_J_carve_33 (by decide) ?_
    refine W.lcmp hx hb d_J_carve_34 ?_
    refine lv_if_le (tgt := 47) hx hb d_J_carve_35 (by decide) (fun c_10 => ?_) (fun c_10 => ?_)
    · refine lv_aload_n hx hb d_J_carve_47 rfl (lv_at hl 0 rfl) ?_
      refine va_get (D := g.1) (ci := 1) (v := .ref sp) (C := R_J) (T := F_J) (N := 14) hx hb htB in_J hown ha.1 hP 0 rfl rfl 9 (by decide) (htB _ kw_49) (fun _ h9 => h9) hf9 d_J_carve_48 ?_
      refine lv_aload_n hx hb d_J_carve_51 rfl (lv_at hl 1 rfl) ?_
      refine va_getN (D := g.1) (ci := 0) (v := .ref bo) (C := R_S) (T := F_S) (N := 2) hx hb htB in_S hown ha.1 hP 4 rfl rfl 0 (by decide) (va_Nw.use rfl (ha.2.1 _ nb_1)) (fun _ h9 => h9) rfl d_J_carve_52 ?_
      refine lv_iload_n hx hb d_J_carve_55 rfl (lv_at hl 2 rfl) ?_
      refine lv_bipush (v := (nI (6))) hx hb d_J_carve_56 (by decide) ?_
      refine jv_imul hx hb d_J_carve_58 ?_
      have hPc := hP.sub (ws' := [(sp, .inr (0, [.ref bs, .int (nI ((cv fo ft r fb i).2.1))])), (bs, eI g 144 ((cv fo ft r fb i).2.2)), (bo, eI g 144 (fo))]) [6, 3, 5] rfl
      have hDc := hD.sub (ws' := [(sp, .inr (0, [.ref bs, .int (nI ((cv fo ft r fb i).2.1))])), (bs, eI g 144 ((cv fo ft r fb i).2.2)), (bo, eI g 144 (fo))]) [6, 3, 5] (by decide) rfl
      have hFc := va_free (wc := [(sp, .inr (0, [.ref bs, .int (nI ((cv fo ft r fb i).2.1))])), (bs, eI g 144 ((cv fo ft r fb i).2.2)), (bo, eI g 144 (fo))]) hD hS hA [6, 3, 5] rfl
      refine va_callv (va_runVN (As := [.ref bo, .int (nI (i * 6))]) (rest := []) ⟨hx, hb, hml, hown, htB⟩ (m_S_add l g z _ sp bs ((cv fo ft r fb i).2.1) bo 144 (i * 6) ((cv fo ft r fb i).2.2) (fo)) ⟨va_cnB 2 htB g_S_add rfl rfl rfl (ha.2.1 _ nb_12) (htB _ kw_2) (by decide +kernel) ⟨Nat.le_of_ble_eq_true rfl, Nat.le_of_ble_eq_true rfl⟩, htB _ kw_231, htB _ ks_0_3⟩ (pre_V hS hz ha (va_recv ha.1 hP (ci := 0) (q0 := 6) rfl rfl) ⟨hPc, hDc.weaken (fun _ _ _ h => hz _ h), ⟨by omega, by omega, by omega⟩⟩) rfl rfl hl.1 rfl (lv_room (Nat.le_of_ble_eq_true rfl)) d_J_carve_59 ⟨Nat.le_of_ble_eq_true rfl, Nat.le_of_ble_eq_true rfl⟩) hS (fun q _ h => hFc q h) hFc (fun u_12 t H1 locs ht hvm hw hB hz1 hk1 hS => ?_)
      obtain ⟨hP1, hD1⟩ := hB
      rw [ht] at hP1
      obtain ⟨hP, hD⟩ := va_join (wr := [(h, .inr (1, fs)), (att, eI g 6 (ft)), (ar, eI g 6 ((cv fo ft r fb i).1)), (so, .inr (0, [.ref bo, .int (nI (no))]))]) (w1 := [(sp, .inr (0, [.ref bs, .int (nI (((cv fo ft r fb i).2.1) + 1))])), (bs, eI g 144 (adB ((cv fo ft r fb i).2.2) ((cv fo ft r fb i).2.1) (fo) (i * 6))), (bo, eI g 144 (fo))]) hP hD [6, 3, 5] [0, 1, 2, 4] rfl rfl (by decide) (by decide) hk1 hFc hP1 hD1
      clear hPc hDc hFc hP1 hD1 hk1 hz1 hvm ht
      generalize H1 = H at hP hS ⊢
      have hP : va_P g.1 cls [(h, .inr (1, fs)), (att, eI g 6 (ft)), (ar, eI g 6 ((cv fo ft r fb i).1)), (so, .inr (0, [.ref bo, .int (nI (no))])), (sp, .inr (0, [.ref bs, .int (nI (((cv fo ft r fb i).2.1) + 1))])), (bs, eI g 144 (adB ((cv fo ft r fb i).2.2) ((cv fo ft r fb i).2.1) (fo) (i * 6))), (bo, eI g 144 (fo))] H := hP
      have hD : va_D A [(h, .inr (1, fs)), (att, eI g 6 (ft)), (ar, eI g 6 ((cv fo ft r fb i).1)), (so, .inr (0, [.ref bo, .int (nI (no))])), (sp, .inr (0, [.ref bs, .int (nI (((cv fo ft r fb i).2.1) + 1))])), (bs, eI g 144 (adB ((cv fo ft r fb i).2.2) ((cv fo ft r fb i).2.1) (fo) (i * 6))), (bo, eI g 144 (fo))] := hD
      refine lv_iinc (v := nI (i + 1)) (lv' := [(2, .int (nI (i + 1))), (0, .ref h), (1, .ref so)]) hx hb d_J_carve_62 hl (k := 2) rfl (nI_add _ 1) (by decide) rfl (fun ls hl => ?_)
      refine lv_goto (tgt := 9) hx hb d_J_carve_65 (by decide) ?_
      have e9 := (cv_s fo ft r fb i).trans (if_neg (vol_no c_10))
      have hP : va_P g.1 cls [(h, .inr (1, fs)), (att, eI g 6 (ft)), (ar, eI g 6 ((cv fo ft r fb (i + 1)).1)), (so, .inr (0, [.ref bo, .int (nI (no))])), (sp, .inr (0, [.ref bs, .int (nI ((cv fo ft r fb (i + 1)).2.1))])), (bs, eI g 144 ((cv fo ft r fb (i + 1)).2.2)), (bo, eI g 144 (fo))] H := by rw [e9]; exact hP
      have hD : va_D A [(h, .inr (1, fs)), (att, eI g 6 (ft)), (ar, eI g 6 ((cv fo ft r fb (i + 1)).1)), (so, .inr (0, [.ref bo, .int (nI (no))])), (sp, .inr (0, [.ref bs, .int (nI ((cv fo ft r fb (i + 1)).2.1))])), (bs, eI g 144 ((cv fo ft r fb (i + 1)).2.2)), (bo, eI g 144 (fo))] := hD.re [h, att, ar, so, sp, bs, bo] rfl rfl
      exact ih_4 (i + 1) ls locs H (by omega) ⟨lv_sub (l' := [(0, .ref h), (1, .ref so), (2, .int (nI ((i + 1))))]) hl [1, 2, 0] rfl, by omega, hP.sub (ws' := [(h, .inr (1, fs)), (att, eI g 6 (ft)), (ar, eI g 6 ((cv fo ft r fb (i + 1)).1)), (bs, eI g 144 ((cv fo ft r fb (i + 1)).2.2)), (so, .inr (0, [.ref bo, .int (nI (no))])), (bo, eI g 144 (fo)), (sp, .inr (0, [.ref bs, .int (nI ((cv fo ft r fb (i + 1)).2.1))]))]) [0, 1, 2, 5, 3, 6, 4] rfl, (hD.sub (ws' := [(h, .inr (1, fs)), (att, eI g 6 (ft)), (ar, eI g 6 ((cv fo ft r fb (i + 1)).1)), (bs, eI g 144 ((cv fo ft r fb (i + 1)).2.2)), (so, .inr (0, [.ref bo, .int (nI (no))])), (bo, eI g 144 (fo)), (sp, .inr (0, [.ref bs, .int (nI ((cv fo ft r fb (i + 1)).2.1))]))]) [0, 1, 2, 5, 3, 6, 4] (by decide) rfl).re [h, att, ar, bs, so, bo, sp] rfl rfl, hS⟩
    · refine lv_aload_n hx hb d_J_carve_38 rfl (lv_at hl 0 rfl) ?_
      refine lv_aload_n hx hb d_J_carve_39 rfl (lv_at hl 1 rfl) ?_
      refine lv_iload_n hx hb d_J_carve_40 rfl (lv_at hl 2 rfl) ?_
      have hPc := hP.sub (ws' := [(h, .inr (1, fs)), (att, eI g 6 (ft)), (ar, eI g 6 ((cv fo ft r fb i).1)), (sp, .inr (0, [.ref bs, .int (nI ((cv fo ft r fb i).2.1))])), (bs, eI g 144 ((cv fo ft r fb i).2.2)), (so, .inr (0, [.ref bo, .int (nI (no))])), (bo, eI g 144 (fo))]) [0, 1, 2, 6, 3, 4, 5] rfl
      have hDc := hD.sub (ws' := [(h, .inr (1, fs)), (att, eI g 6 (ft)), (ar, eI g 6 ((cv fo ft r fb i).1)), (sp, .inr (0, [.ref bs, .int (nI ((cv fo ft r fb i).2.1))])), (bs, eI g 144 ((cv fo ft r fb i).2.2)), (so, .inr (0, [.ref bo, .int (nI (no))])), (bo, eI g 144 (fo))]) [0, 1, 2, 6, 3, 4, 5] (by decide) rfl
      have hFc := va_free (wc := [(h, .inr (1, fs)), (att, eI g 6 (ft)), (ar, eI g 6 ((cv fo ft r fb i).1)), (sp, .inr (0, [.ref bs, .int (nI ((cv fo ft r fb i).2.1))])), (bs, eI g 144 ((cv fo ft r fb i).2.2)), (so, .inr (0, [.ref bo, .int (nI (no))])), (bo, eI g 144 (fo))]) hD hS hA [0, 1, 2, 6, 3, 4, 5] rfl
      refine va_callv (va_runV (As := [.ref so, .int (nI (i))]) (rest := []) ⟨hx, hb, hml, hown, htB⟩ (m_J_addRest l g z _ h fs att ar sp bs ((cv fo ft r fb i).2.1) so bo (no) (ft) ((cv fo ft r fb i).1) ((cv fo ft r fb i).2.2) (fo) (i)) (cwV 2 htB (gV kw_255 kw_257 ks_0_7 kw_1 g_J_addRest) rfl rfl rfl (by decide +kernel) ⟨Nat.le_of_ble_eq_true rfl, Nat.le_of_ble_eq_true rfl⟩) (pre_V hS hz ha (va_recv ha.1 hP (ci := 1) (q0 := 0) rfl rfl) ⟨hPc, hDc.weaken (fun _ _ _ h => hz _ h), ⟨hf9, hf10, hf11, by omega, by omega⟩⟩) rfl rfl hl.1 rfl (lv_room (Nat.le_of_ble_eq_true rfl)) d_J_carve_41 ⟨Nat.le_of_ble_eq_true rfl, Nat.le_of_ble_eq_true rfl⟩) hS (fun q _ h => hFc q h) hFc (fun u_14 t H1 locs ht hvm hw hB hz1 hk1 hS => ?_)
      obtain ⟨hP1, hD1⟩ := hB
      rw [ht] at hP1
      obtain ⟨hP, hD⟩ := va_join (wr := []) (w1 := [(h, .inr (1, fs)), (att, eI g 6 (ft)), (ar, eI g 6 (rsR ft (va_cpy fo ((cv fo ft r fb i).1) ((i) * 6) 0 6))), (sp, .inr (0, [.ref bs, .int (nI (rsN ft (va_cpy fo ((cv fo ft r fb i).1) ((i) * 6) 0 6) ((cv fo ft r fb i).2.1)))])), (bs, eI g 144 (rsB ft (va_cpy fo ((cv fo ft r fb i).1) ((i) * 6) 0 6) ((cv fo ft r fb i).2.2) ((cv fo ft r fb i).2.1))), (so, .inr (0, [.ref bo, .int (nI (no))])), (bo, eI g 144 (fo))]) hP hD [0, 1, 2, 6, 3, 4, 5] [] rfl rfl (by decide) (by decide) hk1 hFc hP1 hD1
      clear hPc hDc hFc hP1 hD1 hk1 hz1 hvm ht
      generalize H1 = H at hP hS ⊢
      have hP : va_P g.1 cls [(h, .inr (1, fs)), (att, eI g 6 (ft)), (ar, eI g 6 (rsR ft (va_cpy fo ((cv fo ft r fb i).1) ((i) * 6) 0 6))), (sp, .inr (0, [.ref bs, .int (nI (rsN ft (va_cpy fo ((cv fo ft r fb i).1) ((i) * 6) 0 6) ((cv fo ft r fb i).2.1)))])), (bs, eI g 144 (rsB ft (va_cpy fo ((cv fo ft r fb i).1) ((i) * 6) 0 6) ((cv fo ft r fb i).2.2) ((cv fo ft r fb i).2.1))), (so, .inr (0, [.ref bo, .int (nI (no))])), (bo, eI g 144 (fo))] H := hP
      have hD : va_D A [(h, .inr (1, fs)), (att, eI g 6 (ft)), (ar, eI g 6 (rsR ft (va_cpy fo ((cv fo ft r fb i).1) ((i) * 6) 0 6))), (sp, .inr (0, [.ref bs, .int (nI (rsN ft (va_cpy fo ((cv fo ft r fb i).1) ((i) * 6) 0 6) ((cv fo ft r fb i).2.1)))])), (bs, eI g 144 (rsB ft (va_cpy fo ((cv fo ft r fb i).1) ((i) * 6) 0 6) ((cv fo ft r fb i).2.2) ((cv fo ft r fb i).2.1))), (so, .inr (0, [.ref bo, .int (nI (no))])), (bo, eI g 144 (fo))] := hD
      refine lv_goto (tgt := 62) hx hb d_J_carve_44 (by decide) ?_
      refine lv_iinc (v := nI (i + 1)) (lv' := [(2, .int (nI (i + 1))), (0, .ref h), (1, .ref so)]) hx hb d_J_carve_62 hl (k := 2) rfl (nI_add _ 1) (by decide) rfl (fun ls hl => ?_)
      refine lv_goto (tgt := 9) hx hb d_J_carve_65 (by decide) ?_
      have e9 := (cv_s fo ft r fb i).trans (if_pos (vol_pos c_10))
      have hP : va_P g.1 cls [(h, .inr (1, fs)), (att, eI g 6 (ft)), (ar, eI g 6 ((cv fo ft r fb (i + 1)).1)), (sp, .inr (0, [.ref bs, .int (nI ((cv fo ft r fb (i + 1)).2.1))])), (bs, eI g 144 ((cv fo ft r fb (i + 1)).2.2)), (so, .inr (0, [.ref bo, .int (nI (no))])), (bo, eI g 144 (fo))] H := by rw [e9]; exact hP
      have hD : va_D A [(h, .inr (1, fs)), (att, eI g 6 (ft)), (ar, eI g 6 ((cv fo ft r fb (i + 1)).1)), (sp, .inr (0, [.ref bs, .int (nI ((cv fo ft r fb (i + 1)).2.1))])), (bs, eI g 144 ((cv fo ft r fb (i + 1)).2.2)), (so, .inr (0, [.ref bo, .int (nI (no))])), (bo, eI g 144 (fo))] := hD.re [h, att, ar, sp, bs, so, bo] rfl rfl
      exact ih_4 (i + 1) ls locs H (by omega) ⟨lv_sub (l' := [(0, .ref h), (1, .ref so), (2, .int (nI ((i + 1))))]) hl [1, 2, 0] rfl, by omega, hP.sub (ws' := [(h, .inr (1, fs)), (att, eI g 6 (ft)), (ar, eI g 6 ((cv fo ft r fb (i + 1)).1)), (bs, eI g 144 ((cv fo ft r fb (i + 1)).2.2)), (so, .inr (0, [.ref bo, .int (nI (no))])), (bo, eI g 144 (fo)), (sp, .inr (0, [.ref bs, .int (nI ((cv fo ft r fb (i + 1)).2.1))]))]) [0, 1, 2, 4, 5, 6, 3] rfl, (hD.sub (ws' := [(h, .inr (1, fs)), (att, eI g 6 (ft)), (ar, eI g 6 ((cv fo ft r fb (i + 1)).1)), (bs, eI g 144 ((cv fo ft r fb (i + 1)).2.2)), (so, .inr (0, [.ref bo, .int (nI (no))])), (bo, eI g 144 (fo)), (sp, .inr (0, [.ref bs, .int (nI ((cv fo ft r fb (i + 1)).2.1))]))]) [0, 1, 2, 4, 5, 6, 3] (by decide) rfl).re [h, att, ar, bs, so, bo, sp] rfl rfl, hS⟩
