set_option maxHeartbeats 4000000 in
set_option maxRecDepth 100000 in
theorem m_M_loses (l : Launch) (g : gT) (z : Nat) (H0 : Heap) (h : Nat) (fs : List Value) (ad adm amd ab ac : Nat) (fd dm md bx cm : Nat → Int32) (cl : Int32) (sd k nd : Nat) (fr tt : Int32) : Met l y_M_loses w_M_loses ({ frames := 3, cells := 0, slots := 0, locals := 76 }) (va_Pc [.ref h, .int (nI (sd)), .int (nI (k)), .int (fr), .int (tt)] (pB g z H0 (va_P g.1 cls [(h, .inr (3, fs)), (ad, eI g 288 (fd)), (adm, eI g 2 (dm)), (amd, eI g 1008 (md)), (ab, eI g 6 (bx)), (ac, eI g 6 (cm))] H0 ∧ va_D (zA z) [(h, .inr (3, fs)), (ad, eI g 288 (fd)), (adm, eI g 2 (dm)), (amd, eI g 1008 (md)), (ab, eI g 6 (bx)), (ac, eI g 6 (cm))] ∧ (fs[5]? = some (.ref ad) ∧ fs[6]? = some (.ref adm) ∧ fs[7]? = some (.ref amd) ∧ fs[8]? = some (.ref ab) ∧ fs[9]? = some (.ref ac) ∧ fs[10]? = some (.int cl) ∧ sd < 2 ∧ k < 3 ∧ nd ≤ 24 ∧ dm sd = nI nd)))) (va_Qi (fun (rr : Int32) (u : Nat × Nat × (Nat → Int32)) => u = pA fd sd (lsB cm bx k fr tt (if sd = 0 then cl else nI 0)) md nd ∧ rr = (if u.1 ≤ 24 then nI 1 else nI 0) ∧ u.1 ≤ 6 * nd) (fun (u : Nat × Nat × (Nat → Int32)) t => va_P g.1 cls [(h, .inr (3, fs)), (ad, eI g 288 (if u.1 ≤ 24 then va_cpy u.2.2 fd 0 (144 * sd) (6 * u.1) else fd)), (adm, eI g 2 (if u.1 ≤ 24 then upd dm sd (nI u.1) else dm)), (amd, eI g 1008 (u.2.2)), (ab, eI g 6 (lsB cm bx k fr tt (if sd = 0 then cl else nI 0))), (ac, eI g 6 (cm))] t.heap ∧ va_D (va_A [(h, .inr (3, fs)), (ad, eI g 288 (fd)), (adm, eI g 2 (dm)), (amd, eI g 1008 (md)), (ab, eI g 6 (bx)), (ac, eI g 6 (cm))] H0.size) [(h, .inr (3, fs)), (ad, eI g 288 (if u.1 ≤ 24 then va_cpy u.2.2 fd 0 (144 * sd) (6 * u.1) else fd)), (adm, eI g 2 (if u.1 ≤ 24 then upd dm sd (nI u.1) else dm)), (amd, eI g 1008 (u.2.2)), (ab, eI g 6 (lsB cm bx k fr tt (if sd = 0 then cl else nI 0))), (ac, eI g 6 (cm))]) (va_A [(h, .inr (3, fs)), (ad, eI g 288 (fd)), (adm, eI g 2 (dm)), (amd, eI g 1008 (md)), (ab, eI g 6 (bx)), (ac, eI g 6 (cm))] H0.size)) 0 0 (va_A [(h, .inr (3, fs)), (ad, eI g 288 (fd)), (adm, eI g 2 (dm)), (amd, eI g 1008 (md)), (ab, eI g 6 (bx)), (ac, eI g 6 (cm))] H0.size) := by
  refine Met.ofW (cc := c_M_loses) (maxL := 7) (ret := (some .boolean)) (by decide) rfl ?_
  intro p e s m args below meth c s₁ B hml hv
  obtain ⟨rfl, hH0, ha, hP, hD0, hf5, hf6, hf7, hf8, hf9, hf10, hsd, hk, hnd, hdm⟩ := hv
  have hx := B.exec
  have hb := B.bytes
  have hr := B.returns
  have htB : ∀ w ∈ tB, w.before _ s = true := fun w h => atoms_spec (ws := w_M_loses) B.pre w (List.mem_cons_of_mem _ h)
  have hown : s.vm.findClass "JointSolidsModel" = some m.cls := findClass_of_methodNamed B.named
  have hlocks := B.notSynchronized
  subst hH0
  have hD := hD0.self (sz := s.heap.size)
  have hz := aA_z hD0 ha.2.2.2.2.2
  generalize hAe : va_A [(h, .inr (3, fs)), (ad, eI g 288 (fd)), (adm, eI g 2 (dm)), (amd, eI g 1008 (md)), (ab, eI g 6 (bx)), (ac, eI g 6 (cm))] s.heap.size = A at hD hz ⊢
  have hA : ∀ q : Nat, s.heap.size ≤ q → A q := fun q h => by rw [← hAe]; exact Or.inr h
  have hS : va_S A s.heap s.heap [] := va_S.rf
  refine W.ofH hP hS (fun H locs hP hS => ?_)
  have hl := lv_entry ([.ref h, .int (nI (sd)), .int (nI (k)), .int (fr), .int (tt)]) (n := 7) (Nat.le_of_ble_eq_true rfl)
  rw [lg_entry_eq]
  generalize (lg_sl ([.ref h, .int (nI (sd)), .int (nI (k)), .int (fr), .int (tt)]) ++ List.replicate (7 - (lg_sl ([.ref h, .int (nI (sd)), .int (nI (k)), .int (fr), .int (tt)])).length) Slot.unset).toArray = ls at hl ⊢
  have hl : lv_has ls 7 [(0, .ref h), (1, .int (nI (sd))), (2, .int (nI (k))), (3, .int (fr)), (4, .int (tt))] := hl
  rcases (show sd = 0 ∨ sd = 1 by omega) with rfl | rfl
  · refine lv_iload_n hx hb d_M_loses_0 rfl (lv_at hl 1 rfl) ?_
    refine lv_if_ne (tgt := 11) hx hb d_M_loses_1 (by decide) (fun h => absurd h (by decide)) (fun _ => ?_)
    refine lv_aload_n hx hb d_M_loses_4 rfl (lv_at hl 0 rfl) ?_
    refine va_get (D := g.1) (ci := 3) (v := .int (cl)) (C := R_M) (T := F_M) (N := 19) hx hb htB in_M hown ha.1 hP 0 rfl rfl 10 (by decide) (htB _ kw_452) (fun _ h9 => h9) hf10 d_M_loses_5 ?_
    refine lv_goto (tgt := 12) hx hb d_M_loses_8 (by decide) ?_
    refine lv_istore (lv' := [(5, .int (cl)), (0, .ref h), (1, .int (nI (0))), (2, .int (nI (k))), (3, .int (fr)), (4, .int (tt))]) hx hb d_M_loses_12 hl (by decide) rfl (fun ls hl => ?_)
    refine lv_iconst (v := (nI (0))) hx hb d_M_loses_14 (by decide) ?_
    refine lv_istore (lv' := [(6, .int (nI (0))), (5, .int (cl)), (0, .ref h), (1, .int (nI (0))), (2, .int (nI (k))), (3, .int (fr)), (4, .int (tt))]) hx hb d_M_loses_15 hl (by decide) rfl (fun ls hl => ?_)
    rw [← cpy_zero cm bx 0 0] at hP
    have hP : va_P g.1 cls [(h, .inr (3, fs)), (ad, eI g 288 (fd)), (adm, eI g 2 (dm)), (amd, eI g 1008 (md)), (ab, eI g 6 (va_cpy cm bx 0 0 0)), (ac, eI g 6 (cm))] H := hP
    refine W.loop (N := 6) (X := fun i ls locs H => lv_has ls 7 [(0, .ref h), (1, .int (nI (0))), (2, .int (nI (k))), (3, .int (fr)), (4, .int (tt)), (5, .int (cl)), (6, .int (nI (i)))] ∧ i ≤ 6 ∧ va_P g.1 cls [(h, .inr (3, fs)), (ad, eI g 288 (fd)), (adm, eI g 2 (dm)), (amd, eI g 1008 (md)), (ab, eI g 6 (va_cpy cm bx 0 0 i)), (ac, eI g 6 (cm))] H ∧ va_D A [(h, .inr (3, fs)), (ad, eI g 288 (fd)), (adm, eI g 2 (dm)), (amd, eI g 1008 (md)), (ab, eI g 6 (va_cpy cm bx 0 0 i)), (ac, eI g 6 (cm))] ∧ va_S A s.heap H locs) 0 ⟨lv_sub hl [2, 3, 4, 5, 6, 1, 0] rfl, Nat.zero_le _, hP, hD.re [h, ad, adm, amd, ab, ac] rfl rfl, hS⟩ (fun n_2 ih_3 i ls locs H hn_i hi_i hX => ?_) (fun _ _ _ _ hX => hX.2.1)
    obtain ⟨hl, -, hP, hD, hS⟩ := hX
    refine lv_iload hx hb d_M_loses_17 (lv_at hl 6 rfl) ?_
    refine lv_bipush (v := (nI (6))) hx hb d_M_loses_19 (by decide) ?_
    refine jv_icmp_ge (tgt := 44) hx hb (by omega) (by omega) d_M_loses_21 (by decide) (fun c_4 => ?_) (fun c_4 => ?_)
    · obtain rfl : i = 6 := by omega
      refine lv_aload_n hx hb d_M_loses_44 rfl (lv_at hl 0 rfl) ?_
      refine va_get (D := g.1) (ci := 3) (v := .ref ab) (C := R_M) (T := F_M) (N := 19) hx hb htB in_M hown ha.1 hP 0 rfl rfl 8 (by decide) (htB _ kw_450) (fun _ h9 => h9) hf8 d_M_loses_45 ?_
      refine lv_iload_n hx hb d_M_loses_48 rfl (lv_at hl 2 rfl) ?_
      refine lv_aload_n hx hb d_M_loses_49 rfl (lv_at hl 0 rfl) ?_
      refine va_get (D := g.1) (ci := 3) (v := .ref ac) (C := R_M) (T := F_M) (N := 19) hx hb htB in_M hown ha.1 hP 0 rfl rfl 9 (by decide) (htB _ kw_451) (fun _ h9 => h9) hf9 d_M_loses_50 ?_
      refine lv_iload_n hx hb d_M_loses_53 rfl (lv_at hl 2 rfl) ?_
      refine ja_ald (k := k) hx hb ha.1 hP 5 0 rfl rfl (by omega) (by omega) d_M_loses_54 ?_
      refine lv_iload_n hx hb d_M_loses_55 rfl (lv_at hl 3 rfl) ?_
      refine lv_iload hx hb d_M_loses_56 (lv_at hl 5 rfl) ?_
      refine lv_isub hx hb d_M_loses_58 ?_
      refine va_calli (va_runS (As := [.int (cm (k)), .int ((fr) - (cl))]) (rest := [.int (nI (k)), .ref ab]) ⟨hx, hb, hml, hown, htB⟩ (p_M_more l g z _ (cm (k)) ((fr) - (cl))) (va_cwS 2 htB (gS kw_540 kw_541 kw_3 g_M_more) rfl rfl rfl (by decide +kernel) ⟨by decide, by decide⟩) (pre_S hS hz ha trivial) rfl rfl hl.1 rfl (lv_room (Nat.le_of_ble_eq_true rfl)) d_M_loses_59 ⟨by decide, by decide⟩) hS (fun q _ h => h.elim) (fun q h => h.elim) (fun r_5 u t H1 locs ht hvm hw hB hz1 hk1 hS => ?_)
      obtain rfl := hB.symm.trans ht
      subst hw
      refine ja_ast (k := k) hx hb ha.1 hP hD hS 4 0 rfl rfl (by omega) (by omega) d_M_loses_62 (fun H locs hP hD hS => ?_)
      have hP : va_P g.1 cls [(h, .inr (3, fs)), (ad, eI g 288 (fd)), (adm, eI g 2 (dm)), (amd, eI g 1008 (md)), (ab, eI g 6 (upd (va_cpy cm bx 0 0 6) (k) (mxI (cm (k)) ((fr) - (cl))))), (ac, eI g 6 (cm))] H := hP
      have hD : va_D A [(h, .inr (3, fs)), (ad, eI g 288 (fd)), (adm, eI g 2 (dm)), (amd, eI g 1008 (md)), (ab, eI g 6 (upd (va_cpy cm bx 0 0 6) (k) (mxI (cm (k)) ((fr) - (cl))))), (ac, eI g 6 (cm))] := hD
      refine lv_aload_n hx hb d_M_loses_63 rfl (lv_at hl 0 rfl) ?_
      refine va_get (D := g.1) (ci := 3) (v := .ref ab) (C := R_M) (T := F_M) (N := 19) hx hb htB in_M hown ha.1 hP 0 rfl rfl 8 (by decide) (htB _ kw_450) (fun _ h9 => h9) hf8 d_M_loses_64 ?_
      refine lv_iconst (v := (nI (3))) hx hb d_M_loses_67 (by decide) ?_
      refine lv_iload_n hx hb d_M_loses_68 rfl (lv_at hl 2 rfl) ?_
      refine jv_iadd hx hb d_M_loses_69 ?_
      refine lv_aload_n hx hb d_M_loses_70 rfl (lv_at hl 0 rfl) ?_
      refine va_get (D := g.1) (ci := 3) (v := .ref ac) (C := R_M) (T := F_M) (N := 19) hx hb htB in_M hown ha.1 hP 0 rfl rfl 9 (by decide) (htB _ kw_451) (fun _ h9 => h9) hf9 d_M_loses_71 ?_
      refine lv_iconst (v := (nI (3))) hx hb d_M_loses_74 (by decide) ?_
      refine lv_iload_n hx hb d_M_loses_75 rfl (lv_at hl 2 rfl) ?_
      refine jv_iadd hx hb d_M_loses_76 ?_
      refine ja_ald (k := 3 + k) hx hb ha.1 hP 5 0 rfl rfl (by omega) (by omega) d_M_loses_77 ?_
      refine lv_iload hx hb d_M_loses_78 (lv_at hl 4 rfl) ?_
      refine lv_iload hx hb d_M_loses_80 (lv_at hl 5 rfl) ?_
      refine lv_iadd hx hb d_M_loses_82 ?_
      refine va_calli (va_runS (As := [.int (cm (3 + k)), .int ((tt) + (cl))]) (rest := [.int (nI (3 + k)), .ref ab]) ⟨hx, hb, hml, hown, htB⟩ (p_M_less l g z _ (cm (3 + k)) ((tt) + (cl))) (va_cwS 2 htB (gS kw_543 kw_544 kw_3 g_M_less) rfl rfl rfl (by decide +kernel) ⟨by decide, by decide⟩) (pre_S hS hz ha trivial) rfl rfl hl.1 rfl (lv_room (Nat.le_of_ble_eq_true rfl)) d_M_loses_83 ⟨by decide, by decide⟩) hS (fun q _ h => h.elim) (fun q h => h.elim) (fun r_6 u t H1 locs ht hvm hw hB hz1 hk1 hS => ?_)
      obtain rfl := hB.symm.trans ht
      subst hw
      refine ja_ast (k := 3 + k) hx hb ha.1 hP hD hS 4 0 rfl rfl (by omega) (by omega) d_M_loses_86 (fun H locs hP hD hS => ?_)
      have hP : va_P g.1 cls [(h, .inr (3, fs)), (ad, eI g 288 (fd)), (adm, eI g 2 (dm)), (amd, eI g 1008 (md)), (ab, eI g 6 (upd (upd (va_cpy cm bx 0 0 6) (k) (mxI (cm (k)) ((fr) - (cl)))) (3 + k) (mnI (cm (3 + k)) ((tt) + (cl))))), (ac, eI g 6 (cm))] H := hP
      have hD : va_D A [(h, .inr (3, fs)), (ad, eI g 288 (fd)), (adm, eI g 2 (dm)), (amd, eI g 1008 (md)), (ab, eI g 6 (upd (upd (va_cpy cm bx 0 0 6) (k) (mxI (cm (k)) ((fr) - (cl)))) (3 + k) (mnI (cm (3 + k)) ((tt) + (cl))))), (ac, eI g 6 (cm))] := hD
      refine lv_aload_n hx hb d_M_loses_87 rfl (lv_at hl 0 rfl) ?_
      refine lv_iload_n hx hb d_M_loses_88 rfl (lv_at hl 1 rfl) ?_
      have hPc := hP.sub (ws' := [(h, .inr (3, fs)), (ad, eI g 288 (fd)), (adm, eI g 2 (dm)), (amd, eI g 1008 (md)), (ab, eI g 6 (upd (upd (va_cpy cm bx 0 0 6) (k) (mxI (cm (k)) ((fr) - (cl)))) (3 + k) (mnI (cm (3 + k)) ((tt) + (cl)))))]) [0, 1, 2, 3, 4] rfl
      have hDc := hD.sub (ws' := [(h, .inr (3, fs)), (ad, eI g 288 (fd)), (adm, eI g 2 (dm)), (amd, eI g 1008 (md)), (ab, eI g 6 (upd (upd (va_cpy cm bx 0 0 6) (k) (mxI (cm (k)) ((fr) - (cl)))) (3 + k) (mnI (cm (3 + k)) ((tt) + (cl)))))]) [0, 1, 2, 3, 4] (by decide) rfl
      have hFc := va_free (wc := [(h, .inr (3, fs)), (ad, eI g 288 (fd)), (adm, eI g 2 (dm)), (amd, eI g 1008 (md)), (ab, eI g 6 (upd (upd (va_cpy cm bx 0 0 6) (k) (mxI (cm (k)) ((fr) - (cl)))) (3 + k) (mnI (cm (3 + k)) ((tt) + (cl)))))]) hD hS hA [0, 1, 2, 3, 4] rfl
      refine va_calli (va_runV (As := [.int (nI (0))]) (rest := []) ⟨hx, hb, hml, hown, htB⟩ (m_M_pareAll l g z _ h (fs) ad adm amd ab (fd) (dm) (md) (upd (upd (va_cpy cm bx 0 0 6) (k) (mxI (cm (k)) ((fr) - (cl)))) (3 + k) (mnI (cm (3 + k)) ((tt) + (cl)))) (0) (nd)) (cwV 1 htB (gV kw_528 kw_530 ks_1_3 kw_3 g_M_pareAll) rfl rfl rfl (by decide +kernel) ⟨Nat.le_of_ble_eq_true rfl, Nat.le_of_ble_eq_true rfl⟩) (pre_V hS hz ha (va_recv ha.1 hP (ci := 3) (q0 := 0) rfl rfl) ⟨hPc, hDc.weaken (fun _ _ _ h => hz _ h), ⟨hf5, hf6, hf7, hf8, by omega, by omega, hdm⟩⟩) rfl rfl hl.1 rfl (lv_room (Nat.le_of_ble_eq_true rfl)) d_M_loses_89 ⟨Nat.le_of_ble_eq_true rfl, Nat.le_of_ble_eq_true rfl⟩) hS (fun q _ h => hFc q h) hFc (fun r_7 u_8 t H1 locs ht hvm hw hB hz1 hk1 hS => ?_)
      obtain ⟨hP1, hD1⟩ := hB
      rw [ht] at hP1
      obtain ⟨hP, hD⟩ := va_join (wr := [(ac, eI g 6 (cm))]) (w1 := [(h, .inr (3, fs)), (ad, eI g 288 (if u_8.1 ≤ 24 then va_cpy u_8.2.2 (fd) 0 (144 * 0) (6 * u_8.1) else (fd))), (adm, eI g 2 (if u_8.1 ≤ 24 then upd (dm) (0) (nI u_8.1) else (dm))), (amd, eI g 1008 (u_8.2.2)), (ab, eI g 6 (upd (upd (va_cpy cm bx 0 0 6) (k) (mxI (cm (k)) ((fr) - (cl)))) (3 + k) (mnI (cm (3 + k)) ((tt) + (cl)))))]) hP hD [0, 1, 2, 3, 4] [5] rfl rfl (by decide) (by decide) hk1 hFc hP1 hD1
      clear hPc hDc hFc hP1 hD1 hk1 hz1 hvm ht
      generalize H1 = H at hP hS ⊢
      have hP : va_P g.1 cls [(ac, eI g 6 (cm)), (h, .inr (3, fs)), (ad, eI g 288 (if u_8.1 ≤ 24 then va_cpy u_8.2.2 (fd) 0 (144 * 0) (6 * u_8.1) else (fd))), (adm, eI g 2 (if u_8.1 ≤ 24 then upd (dm) (0) (nI u_8.1) else (dm))), (amd, eI g 1008 (u_8.2.2)), (ab, eI g 6 (upd (upd (va_cpy cm bx 0 0 6) (k) (mxI (cm (k)) ((fr) - (cl)))) (3 + k) (mnI (cm (3 + k)) ((tt) + (cl)))))] H := hP
      have hD : va_D A [(ac, eI g 6 (cm)), (h, .inr (3, fs)), (ad, eI g 288 (if u_8.1 ≤ 24 then va_cpy u_8.2.2 (fd) 0 (144 * 0) (6 * u_8.1) else (fd))), (adm, eI g 2 (if u_8.1 ≤ 24 then upd (dm) (0) (nI u_8.1) else (dm))), (amd, eI g 1008 (u_8.2.2)), (ab, eI g 6 (upd (upd (va_cpy cm bx 0 0 6) (k) (mxI (cm (k)) ((fr) - (cl)))) (3 + k) (mnI (cm (3 + k)) ((tt) + (cl)))))] := hD
      obtain ⟨hu1, hu2, hu3, hu4⟩ := hw
      subst hu2
      by_cases c_9 : u_8.1 ≤ 24
      · rw [if_pos c_9]
        refine lv_if_lt (tgt := 99) hx hb d_M_loses_92 (by decide) (fun c_10 => absurd c_10 (nI_pos (by omega))) (fun c_10 => ?_)
        refine lv_iconst (v := (nI (1))) hx hb d_M_loses_95 (by decide) ?_
        refine lv_goto (tgt := 100) hx hb d_M_loses_96 (by decide) ?_
        have hP9 := hP.sub (ws' := [(h, .inr (3, fs)), (ad, eI g 288 (if u_8.1 ≤ 24 then va_cpy u_8.2.2 (fd) 0 (144 * 0) (6 * u_8.1) else (fd))), (adm, eI g 2 (if u_8.1 ≤ 24 then upd (dm) (0) (nI u_8.1) else (dm))), (amd, eI g 1008 (u_8.2.2)), (ab, eI g 6 (upd (upd (va_cpy cm bx 0 0 6) (k) (mxI (cm (k)) ((fr) - (cl)))) (3 + k) (mnI (cm (3 + k)) ((tt) + (cl))))), (ac, eI g 6 (cm))]) [1, 2, 3, 4, 5, 0] rfl
        have hD9 := hD.sub (ws' := [(h, .inr (3, fs)), (ad, eI g 288 (if u_8.1 ≤ 24 then va_cpy u_8.2.2 (fd) 0 (144 * 0) (6 * u_8.1) else (fd))), (adm, eI g 2 (if u_8.1 ≤ 24 then upd (dm) (0) (nI u_8.1) else (dm))), (amd, eI g 1008 (u_8.2.2)), (ab, eI g 6 (upd (upd (va_cpy cm bx 0 0 6) (k) (mxI (cm (k)) ((fr) - (cl)))) (3 + k) (mnI (cm (3 + k)) ((tt) + (cl))))), (ac, eI g 6 (cm))]) [1, 2, 3, 4, 5, 0] (by decide) rfl
        exact (W.widen (k := 0) (n := 0) (Nat.le_of_ble_eq_true rfl) (Nat.le_of_ble_eq_true rfl) (W.zret (v := (nI (1))) hx hb hr (by decide) (fun t ht hW => ⟨⟨(nI (1)), u_8, rfl, ⟨hu1, (if_pos c_9).symm, hu4⟩, by rw [ht]; exact hP9, hD9.re [h, ad, adm, amd, ab, ac] rfl rfl⟩, hS.F ht⟩) hS.2.2 d_M_loses_100))
      · rw [if_neg c_9]
        refine lv_if_lt (tgt := 99) hx hb d_M_loses_92 (by decide) (fun c_11 => ?_) (fun c_11 => absurd c_11 (by decide))
        refine lv_iconst (v := (nI (0))) hx hb d_M_loses_99 (by decide) ?_
        have hP9 := hP.sub (ws' := [(h, .inr (3, fs)), (ad, eI g 288 (if u_8.1 ≤ 24 then va_cpy u_8.2.2 (fd) 0 (144 * 0) (6 * u_8.1) else (fd))), (adm, eI g 2 (if u_8.1 ≤ 24 then upd (dm) (0) (nI u_8.1) else (dm))), (amd, eI g 1008 (u_8.2.2)), (ab, eI g 6 (upd (upd (va_cpy cm bx 0 0 6) (k) (mxI (cm (k)) ((fr) - (cl)))) (3 + k) (mnI (cm (3 + k)) ((tt) + (cl))))), (ac, eI g 6 (cm))]) [1, 2, 3, 4, 5, 0] rfl
        have hD9 := hD.sub (ws' := [(h, .inr (3, fs)), (ad, eI g 288 (if u_8.1 ≤ 24 then va_cpy u_8.2.2 (fd) 0 (144 * 0) (6 * u_8.1) else (fd))), (adm, eI g 2 (if u_8.1 ≤ 24 then upd (dm) (0) (nI u_8.1) else (dm))), (amd, eI g 1008 (u_8.2.2)), (ab, eI g 6 (upd (upd (va_cpy cm bx 0 0 6) (k) (mxI (cm (k)) ((fr) - (cl)))) (3 + k) (mnI (cm (3 + k)) ((tt) + (cl))))), (ac, eI g 6 (cm))]) [1, 2, 3, 4, 5, 0] (by decide) rfl
        exact (W.widen (k := 0) (n := 0) (Nat.le_of_ble_eq_true rfl) (Nat.le_of_ble_eq_true rfl) (W.zret (v := (nI (0))) hx hb hr (by decide) (fun t ht hW => ⟨⟨(nI (0)), u_8, rfl, ⟨hu1, (if_neg c_9).symm, hu4⟩, by rw [ht]; exact hP9, hD9.re [h, ad, adm, amd, ab, ac] rfl rfl⟩, hS.F ht⟩) hS.2.2 d_M_loses_100))
    · refine lv_aload_n hx hb d_M_loses_24 rfl (lv_at hl 0 rfl) ?_
      refine va_get (D := g.1) (ci := 3) (v := .ref ab) (C := R_M) (T := F_M) (N := 19) hx hb htB in_M hown ha.1 hP 0 rfl rfl 8 (by decide) (htB _ kw_450) (fun _ h9 => h9) hf8 d_M_loses_25 ?_
      refine lv_iload hx hb d_M_loses_28 (lv_at hl 6 rfl) ?_
      refine lv_aload_n hx hb d_M_loses_30 rfl (lv_at hl 0 rfl) ?_
      refine va_get (D := g.1) (ci := 3) (v := .ref ac) (C := R_M) (T := F_M) (N := 19) hx hb htB in_M hown ha.1 hP 0 rfl rfl 9 (by decide) (htB _ kw_451) (fun _ h9 => h9) hf9 d_M_loses_31 ?_
      refine lv_iload hx hb d_M_loses_34 (lv_at hl 6 rfl) ?_
      refine ja_ald (k := i) hx hb ha.1 hP 5 0 rfl rfl (by omega) (by omega) d_M_loses_36 ?_
      refine ja_ast (k := i) hx hb ha.1 hP hD hS 4 0 rfl rfl (by omega) (by omega) d_M_loses_37 (fun H locs hP hD hS => ?_)
      have hP : va_P g.1 cls [(h, .inr (3, fs)), (ad, eI g 288 (fd)), (adm, eI g 2 (dm)), (amd, eI g 1008 (md)), (ab, eI g 6 (upd (va_cpy cm bx 0 0 i) (i) (cm (i)))), (ac, eI g 6 (cm))] H := hP
      have hD : va_D A [(h, .inr (3, fs)), (ad, eI g 288 (fd)), (adm, eI g 2 (dm)), (amd, eI g 1008 (md)), (ab, eI g 6 (upd (va_cpy cm bx 0 0 i) (i) (cm (i)))), (ac, eI g 6 (cm))] := hD
      refine lv_iinc (v := nI (i + 1)) (lv' := [(6, .int (nI (i + 1))), (0, .ref h), (1, .int (nI (0))), (2, .int (nI (k))), (3, .int (fr)), (4, .int (tt)), (5, .int (cl))]) hx hb d_M_loses_38 hl (k := 6) rfl (nI_add _ 1) (by decide) rfl (fun ls hl => ?_)
      refine lv_goto (tgt := 17) hx hb d_M_loses_41 (by decide) ?_
      rw [cpy_step00] at hP
      have hD : va_D A [(h, .inr (3, fs)), (ad, eI g 288 (fd)), (adm, eI g 2 (dm)), (amd, eI g 1008 (md)), (ab, eI g 6 (va_cpy cm bx 0 0 (i + 1))), (ac, eI g 6 (cm))] := hD.re [h, ad, adm, amd, ab, ac] rfl rfl
      exact ih_3 (i + 1) ls locs H (by omega) ⟨lv_sub (l' := [(0, .ref h), (1, .int (nI (0))), (2, .int (nI (k))), (3, .int (fr)), (4, .int (tt)), (5, .int (cl)), (6, .int (nI ((i + 1))))]) hl [1, 2, 3, 4, 5, 6, 0] rfl, by omega, hP.sub (ws' := [(h, .inr (3, fs)), (ad, eI g 288 (fd)), (adm, eI g 2 (dm)), (amd, eI g 1008 (md)), (ab, eI g 6 (va_cpy cm bx 0 0 (i + 1))), (ac, eI g 6 (cm))]) [0, 1, 2, 3, 4, 5] rfl, (hD.sub (ws' := [(h, .inr (3, fs)), (ad, eI g 288 (fd)), (adm, eI g 2 (dm)), (amd, eI g 1008 (md)), (ab, eI g 6 (va_cpy cm bx 0 0 (i + 1))), (ac, eI g 6 (cm))]) [0, 1, 2, 3, 4, 5] (by decide) rfl).re [h, ad, adm, amd, ab, ac] rfl rfl, hS⟩
  · refine lv_iload_n hx hb d_M_loses_0 rfl (lv_at hl 1 rfl) ?_
    refine lv_if_ne (tgt := 11) hx hb d_M_loses_1 (by decide) (fun _ => ?_) (fun h => absurd h (by decide))
    refine lv_iconst (v := (nI (0))) hx hb d_M_loses_11 (by decide) ?_
    refine lv_istore (lv' := [(5, .int (nI (0))), (0, .ref h), (1, .int (nI (1))), (2, .int (nI (k))), (3, .int (fr)), (4, .int (tt))]) hx hb d_M_loses_12 hl (by decide) rfl (fun ls hl => ?_)
    refine lv_iconst (v := (nI (0))) hx hb d_M_loses_14 (by decide) ?_
    refine lv_istore (lv' := [(6, .int (nI (0))), (5, .int (nI (0))), (0, .ref h), (1, .int (nI (1))), (2, .int (nI (k))), (3, .int (fr)), (4, .int (tt))]) hx hb d_M_loses_15 hl (by decide) rfl (fun ls hl => ?_)
    rw [← cpy_zero cm bx 0 0] at hP
    have hP : va_P g.1 cls [(h, .inr (3, fs)), (ad, eI g 288 (fd)), (adm, eI g 2 (dm)), (amd, eI g 1008 (md)), (ab, eI g 6 (va_cpy cm bx 0 0 0)), (ac, eI g 6 (cm))] H := hP
    refine W.loop (N := 6) (X := fun i ls locs H => lv_has ls 7 [(0, .ref h), (1, .int (nI (1))), (2, .int (nI (k))), (3, .int (fr)), (4, .int (tt)), (5, .int (nI (0))), (6, .int (nI (i)))] ∧ i ≤ 6 ∧ va_P g.1 cls [(h, .inr (3, fs)), (ad, eI g 288 (fd)), (adm, eI g 2 (dm)), (amd, eI g 1008 (md)), (ab, eI g 6 (va_cpy cm bx 0 0 i)), (ac, eI g 6 (cm))] H ∧ va_D A [(h, .inr (3, fs)), (ad, eI g 288 (fd)), (adm, eI g 2 (dm)), (amd, eI g 1008 (md)), (ab, eI g 6 (va_cpy cm bx 0 0 i)), (ac, eI g 6 (cm))] ∧ va_S A s.heap H locs) 0 ⟨lv_sub hl [2, 3, 4, 5, 6, 1, 0] rfl, Nat.zero_le _, hP, hD.re [h, ad, adm, amd, ab, ac] rfl rfl, hS⟩ (fun n_13 ih_14 i ls locs H hn_i hi_i hX => ?_) (fun _ _ _ _ hX => hX.2.1)
    obtain ⟨hl, -, hP, hD, hS⟩ := hX
    refine lv_iload hx hb d_M_loses_17 (lv_at hl 6 rfl) ?_
    refine lv_bipush (v := (nI (6))) hx hb d_M_loses_19 (by decide) ?_
    refine jv_icmp_ge (tgt := 44) hx hb (by omega) (by omega) d_M_loses_21 (by decide) (fun c_15 => ?_) (fun c_15 => ?_)
    · obtain rfl : i = 6 := by omega
      refine lv_aload_n hx hb d_M_loses_44 rfl (lv_at hl 0 rfl) ?_
      refine va_get (D := g.1) (ci := 3) (v := .ref ab) (C := R_M) (T := F_M) (N := 19) hx hb htB in_M hown ha.1 hP 0 rfl rfl 8 (by decide) (htB _ kw_450) (fun _ h9 => h9) hf8 d_M_loses_45 ?_
      refine lv_iload_n hx hb d_M_loses_48 rfl (lv_at hl 2 rfl) ?_
      refine lv_aload_n hx hb d_M_loses_49 rfl (lv_at hl 0 rfl) ?_
      refine va_get (D := g.1) (ci := 3) (v := .ref ac) (C := R_M) (T := F_M) (N := 19) hx hb htB in_M hown ha.1 hP 0 rfl rfl 9 (by decide) (htB _ kw_451) (fun _ h9 => h9) hf9 d_M_loses_50 ?_
      refine lv_iload_n hx hb d_M_loses_53 rfl (lv_at hl 2 rfl) ?_
      refine ja_ald (k := k) hx hb ha.1 hP 5 0 rfl rfl (by omega) (by omega) d_M_loses_54 ?_
      refine lv_iload_n hx hb d_M_loses_55 rfl (lv_at hl 3 rfl) ?_
      refine lv_iload hx hb d_M_loses_56 (lv_at hl 5 rfl) ?_
      refine lv_isub hx hb d_M_loses_58 ?_
      refine va_calli (va_runS (As := [.int (cm (k)), .int ((fr) - (nI (0)))]) (rest := [.int (nI (k)), .ref ab]) ⟨hx, hb, hml, hown, htB⟩ (p_M_more l g z _ (cm (k)) ((fr) - (nI (0)))) (va_cwS 2 htB (gS kw_540 kw_541 kw_3 g_M_more) rfl rfl rfl (by decide +kernel) ⟨by decide, by decide⟩) (pre_S hS hz ha trivial) rfl rfl hl.1 rfl (lv_room (Nat.le_of_ble_eq_true rfl)) d_M_loses_59 ⟨by decide, by decide⟩) hS (fun q _ h => h.elim) (fun q h => h.elim) (fun r_16 u t H1 locs ht hvm hw hB hz1 hk1 hS => ?_)
      obtain rfl := hB.symm.trans ht
      subst hw
      refine ja_ast (k := k) hx hb ha.1 hP hD hS 4 0 rfl rfl (by omega) (by omega) d_M_loses_62 (fun H locs hP hD hS => ?_)
      have hP : va_P g.1 cls [(h, .inr (3, fs)), (ad, eI g 288 (fd)), (adm, eI g 2 (dm)), (amd, eI g 1008 (md)), (ab, eI g 6 (upd (va_cpy cm bx 0 0 6) (k) (mxI (cm (k)) ((fr) - (nI (0)))))), (ac, eI g 6 (cm))] H := hP
      have hD : va_D A [(h, .inr (3, fs)), (ad, eI g 288 (fd)), (adm, eI g 2 (dm)), (amd, eI g 1008 (md)), (ab, eI g 6 (upd (va_cpy cm bx 0 0 6) (k) (mxI (cm (k)) ((fr) - (nI (0)))))), (ac, eI g 6 (cm))] := hD
      refine lv_aload_n hx hb d_M_loses_63 rfl (lv_at hl 0 rfl) ?_
      refine va_get (D := g.1) (ci := 3) (v := .ref ab) (C := R_M) (T := F_M) (N := 19) hx hb htB in_M hown ha.1 hP 0 rfl rfl 8 (by decide) (htB _ kw_450) (fun _ h9 => h9) hf8 d_M_loses_64 ?_
      refine lv_iconst (v := (nI (3))) hx hb d_M_loses_67 (by decide) ?_
      refine lv_iload_n hx hb d_M_loses_68 rfl (lv_at hl 2 rfl) ?_
      refine jv_iadd hx hb d_M_loses_69 ?_
      refine lv_aload_n hx hb d_M_loses_70 rfl (lv_at hl 0 rfl) ?_
      refine va_get (D := g.1) (ci := 3) (v := .ref ac) (C := R_M) (T := F_M) (N := 19) hx hb htB in_M hown ha.1 hP 0 rfl rfl 9 (by decide) (htB _ kw_451) (fun _ h9 => h9) hf9 d_M_loses_71 ?_
      refine lv_iconst (v := (nI (3))) hx hb d_M_loses_74 (by decide) ?_
      refine lv_iload_n hx hb d_M_loses_75 rfl (lv_at hl 2 rfl) ?_
      refine jv_iadd hx hb d_M_loses_76 ?_
      refine ja_ald (k := 3 + k) hx hb ha.1 hP 5 0 rfl rfl (by omega) (by omega) d_M_loses_77 ?_
      refine lv_iload hx hb d_M_loses_78 (lv_at hl 4 rfl) ?_
      refine lv_iload hx hb d_M_loses_80 (lv_at hl 5 rfl) ?_
      refine lv_iadd hx hb d_M_loses_82 ?_
      refine va_calli (va_runS (As := [.int (cm (3 + k)), .int ((tt) + (nI (0)))]) (rest := [.int (nI (3 + k)), .ref ab]) ⟨hx, hb, hml, hown, htB⟩ (p_M_less l g z _ (cm (3 + k)) ((tt) + (nI (0)))) (va_cwS 2 htB (gS kw_543 kw_544 kw_3 g_M_less) rfl rfl rfl (by decide +kernel) ⟨by decide, by decide⟩) (pre_S hS hz ha trivial) rfl rfl hl.1 rfl (lv_room (Nat.le_of_ble_eq_true rfl)) d_M_loses_83 ⟨by decide, by decide⟩) hS (fun q _ h => h.elim) (fun q h => h.elim) (fun r_17 u t H1 locs ht hvm hw hB hz1 hk1 hS => ?_)
      obtain rfl := hB.symm.trans ht
      subst hw
      refine ja_ast (k := 3 + k) hx hb ha.1 hP hD hS 4 0 rfl rfl (by omega) (by omega) d_M_loses_86 (fun H locs hP hD hS => ?_)
      have hP : va_P g.1 cls [(h, .inr (3, fs)), (ad, eI g 288 (fd)), (adm, eI g 2 (dm)), (amd, eI g 1008 (md)), (ab, eI g 6 (upd (upd (va_cpy cm bx 0 0 6) (k) (mxI (cm (k)) ((fr) - (nI (0))))) (3 + k) (mnI (cm (3 + k)) ((tt) + (nI (0)))))), (ac, eI g 6 (cm))] H := hP
      have hD : va_D A [(h, .inr (3, fs)), (ad, eI g 288 (fd)), (adm, eI g 2 (dm)), (amd, eI g 1008 (md)), (ab, eI g 6 (upd (upd (va_cpy cm bx 0 0 6) (k) (mxI (cm (k)) ((fr) - (nI (0))))) (3 + k) (mnI (cm (3 + k)) ((tt) + (nI (0)))))), (ac, eI g 6 (cm))] := hD
      refine lv_aload_n hx hb d_M_loses_87 rfl (lv_at hl 0 rfl) ?_
      refine lv_iload_n hx hb d_M_loses_88 rfl (lv_at hl 1 rfl) ?_
      have hPc := hP.sub (ws' := [(h, .inr (3, fs)), (ad, eI g 288 (fd)), (adm, eI g 2 (dm)), (amd, eI g 1008 (md)), (ab, eI g 6 (upd (upd (va_cpy cm bx 0 0 6) (k) (mxI (cm (k)) ((fr) - (nI (0))))) (3 + k) (mnI (cm (3 + k)) ((tt) + (nI (0))))))]) [0, 1, 2, 3, 4] rfl
      have hDc := hD.sub (ws' := [(h, .inr (3, fs)), (ad, eI g 288 (fd)), (adm, eI g 2 (dm)), (amd, eI g 1008 (md)), (ab, eI g 6 (upd (upd (va_cpy cm bx 0 0 6) (k) (mxI (cm (k)) ((fr) - (nI (0))))) (3 + k) (mnI (cm (3 + k)) ((tt) + (nI (0))))))]) [0, 1, 2, 3, 4] (by decide) rfl
      have hFc := va_free (wc := [(h, .inr (3, fs)), (ad, eI g 288 (fd)), (adm, eI g 2 (dm)), (amd, eI g 1008 (md)), (ab, eI g 6 (upd (upd (va_cpy cm bx 0 0 6) (k) (mxI (cm (k)) ((fr) - (nI (0))))) (3 + k) (mnI (cm (3 + k)) ((tt) + (nI (0))))))]) hD hS hA [0, 1, 2, 3, 4] rfl
      refine va_calli (va_runV (As := [.int (nI (1))]) (rest := []) ⟨hx, hb, hml, hown, htB⟩ (m_M_pareAll l g z _ h (fs) ad adm amd ab (fd) (dm) (md) (upd (upd (va_cpy cm bx 0 0 6) (k) (mxI (cm (k)) ((fr) - (nI (0))))) (3 + k) (mnI (cm (3 + k)) ((tt) + (nI (0))))) (1) (nd)) (cwV 1 htB (gV kw_528 kw_530 ks_1_3 kw_3 g_M_pareAll) rfl rfl rfl (by decide +kernel) ⟨Nat.le_of_ble_eq_true rfl, Nat.le_of_ble_eq_true rfl⟩) (pre_V hS hz ha (va_recv ha.1 hP (ci := 3) (q0 := 0) rfl rfl) ⟨hPc, hDc.weaken (fun _ _ _ h => hz _ h), ⟨hf5, hf6, hf7, hf8, by omega, by omega, hdm⟩⟩) rfl rfl hl.1 rfl (lv_room (Nat.le_of_ble_eq_true rfl)) d_M_loses_89 ⟨Nat.le_of_ble_eq_true rfl, Nat.le_of_ble_eq_true rfl⟩) hS (fun q _ h => hFc q h) hFc (fun r_18 u_19 t H1 locs ht hvm hw hB hz1 hk1 hS => ?_)
      obtain ⟨hP1, hD1⟩ := hB
      rw [ht] at hP1
      obtain ⟨hP, hD⟩ := va_join (wr := [(ac, eI g 6 (cm))]) (w1 := [(h, .inr (3, fs)), (ad, eI g 288 (if u_19.1 ≤ 24 then va_cpy u_19.2.2 (fd) 0 (144 * 1) (6 * u_19.1) else (fd))), (adm, eI g 2 (if u_19.1 ≤ 24 then upd (dm) (1) (nI u_19.1) else (dm))), (amd, eI g 1008 (u_19.2.2)), (ab, eI g 6 (upd (upd (va_cpy cm bx 0 0 6) (k) (mxI (cm (k)) ((fr) - (nI (0))))) (3 + k) (mnI (cm (3 + k)) ((tt) + (nI (0))))))]) hP hD [0, 1, 2, 3, 4] [5] rfl rfl (by decide) (by decide) hk1 hFc hP1 hD1
      clear hPc hDc hFc hP1 hD1 hk1 hz1 hvm ht
      generalize H1 = H at hP hS ⊢
      have hP : va_P g.1 cls [(ac, eI g 6 (cm)), (h, .inr (3, fs)), (ad, eI g 288 (if u_19.1 ≤ 24 then va_cpy u_19.2.2 (fd) 0 (144 * 1) (6 * u_19.1) else (fd))), (adm, eI g 2 (if u_19.1 ≤ 24 then upd (dm) (1) (nI u_19.1) else (dm))), (amd, eI g 1008 (u_19.2.2)), (ab, eI g 6 (upd (upd (va_cpy cm bx 0 0 6) (k) (mxI (cm (k)) ((fr) - (nI (0))))) (3 + k) (mnI (cm (3 + k)) ((tt) + (nI (0))))))] H := hP
      have hD : va_D A [(ac, eI g 6 (cm)), (h, .inr (3, fs)), (ad, eI g 288 (if u_19.1 ≤ 24 then va_cpy u_19.2.2 (fd) 0 (144 * 1) (6 * u_19.1) else (fd))), (adm, eI g 2 (if u_19.1 ≤ 24 then upd (dm) (1) (nI u_19.1) else (dm))), (amd, eI g 1008 (u_19.2.2)), (ab, eI g 6 (upd (upd (va_cpy cm bx 0 0 6) (k) (mxI (cm (k)) ((fr) - (nI (0))))) (3 + k) (mnI (cm (3 + k)) ((tt) + (nI (0))))))] := hD
      obtain ⟨hu1, hu2, hu3, hu4⟩ := hw
      subst hu2
      by_cases c_20 : u_19.1 ≤ 24
      · rw [if_pos c_20]
        refine lv_if_lt (tgt := 99) hx hb d_M_loses_92 (by decide) (fun c_21 => absurd c_21 (nI_pos (by omega))) (fun c_21 => ?_)
        refine lv_iconst (v := (nI (1))) hx hb d_M_loses_95 (by decide) ?_
        refine lv_goto (tgt := 100) hx hb d_M_loses_96 (by decide) ?_
        have hP9 := hP.sub (ws' := [(h, .inr (3, fs)), (ad, eI g 288 (if u_19.1 ≤ 24 then va_cpy u_19.2.2 (fd) 0 (144 * 1) (6 * u_19.1) else (fd))), (adm, eI g 2 (if u_19.1 ≤ 24 then upd (dm) (1) (nI u_19.1) else (dm))), (amd, eI g 1008 (u_19.2.2)), (ab, eI g 6 (upd (upd (va_cpy cm bx 0 0 6) (k) (mxI (cm (k)) ((fr) - (nI (0))))) (3 + k) (mnI (cm (3 + k)) ((tt) + (nI (0)))))), (ac, eI g 6 (cm))]) [1, 2, 3, 4, 5, 0] rfl
        have hD9 := hD.sub (ws' := [(h, .inr (3, fs)), (ad, eI g 288 (if u_19.1 ≤ 24 then va_cpy u_19.2.2 (fd) 0 (144 * 1) (6 * u_19.1) else (fd))), (adm, eI g 2 (if u_19.1 ≤ 24 then upd (dm) (1) (nI u_19.1) else (dm))), (amd, eI g 1008 (u_19.2.2)), (ab, eI g 6 (upd (upd (va_cpy cm bx 0 0 6) (k) (mxI (cm (k)) ((fr) - (nI (0))))) (3 + k) (mnI (cm (3 + k)) ((tt) + (nI (0)))))), (ac, eI g 6 (cm))]) [1, 2, 3, 4, 5, 0] (by decide) rfl
        exact (W.widen (k := 0) (n := 0) (Nat.le_of_ble_eq_true rfl) (Nat.le_of_ble_eq_true rfl) (W.zret (v := (nI (1))) hx hb hr (by decide) (fun t ht hW => ⟨⟨(nI (1)), u_19, rfl, ⟨hu1, (if_pos c_20).symm, hu4⟩, by rw [ht]; exact hP9, hD9.re [h, ad, adm, amd, ab, ac] rfl rfl⟩, hS.F ht⟩) hS.2.2 d_M_loses_100))
      · rw [if_neg c_20]
        refine lv_if_lt (tgt := 99) hx hb d_M_loses_92 (by decide) (fun c_22 => ?_) (fun c_22 => absurd c_22 (by decide))
        refine lv_iconst (v := (nI (0))) hx hb d_M_loses_99 (by decide) ?_
        have hP9 := hP.sub (ws' := [(h, .inr (3, fs)), (ad, eI g 288 (if u_19.1 ≤ 24 then va_cpy u_19.2.2 (fd) 0 (144 * 1) (6 * u_19.1) else (fd))), (adm, eI g 2 (if u_19.1 ≤ 24 then upd (dm) (1) (nI u_19.1) else (dm))), (amd, eI g 1008 (u_19.2.2)), (ab, eI g 6 (upd (upd (va_cpy cm bx 0 0 6) (k) (mxI (cm (k)) ((fr) - (nI (0))))) (3 + k) (mnI (cm (3 + k)) ((tt) + (nI (0)))))), (ac, eI g 6 (cm))]) [1, 2, 3, 4, 5, 0] rfl
        have hD9 := hD.sub (ws' := [(h, .inr (3, fs)), (ad, eI g 288 (if u_19.1 ≤ 24 then va_cpy u_19.2.2 (fd) 0 (144 * 1) (6 * u_19.1) else (fd))), (adm, eI g 2 (if u_19.1 ≤ 24 then upd (dm) (1) (nI u_19.1) else (dm))), (amd, eI g 1008 (u_19.2.2)), (ab, eI g 6 (upd (upd (va_cpy cm bx 0 0 6) (k) (mxI (cm (k)) ((fr) - (nI (0))))) (3 + k) (mnI (cm (3 + k)) ((tt) + (nI (0)))))), (ac, eI g 6 (cm))]) [1, 2, 3, 4, 5, 0] (by decide) rfl
        exact (W.widen (k := 0) (n := 0) (Nat.le_of_ble_eq_true rfl) (Nat.le_of_ble_eq_true rfl) (W.zret (v := (nI (0))) hx hb hr (by decide) (fun t ht hW => ⟨⟨(nI (0)), u_19, rfl, ⟨hu1, (if_neg c_20).symm, hu4⟩, by rw [ht]; exact hP9, hD9.re [h, ad, adm, amd, ab, ac] rfl rfl⟩, hS.F ht⟩) hS.2.2 d_M_loses_100))
    · refine lv_aload_n hx hb d_M_loses_24 rfl (lv_at hl 0 rfl) ?_
      refine va_get (D := g.1) (ci := 3) (v := .ref ab) (C := R_M) (T := F_M) (N := 19) hx hb htB in_M hown ha.1 hP 0 rfl rfl 8 (by decide) (htB _ kw_450) (fun _ h9 => h9) hf8 d_M_loses_25 ?_
      refine lv_iload hx hb d_M_loses_28 (lv_at hl 6 rfl) ?_
      refine lv_aload_n hx hb d_M_loses_30 rfl (lv_at hl 0 rfl) ?_
      refine va_get (D := g.1) (ci := 3) (v := .ref ac) (C := R_M) (T := F_M) (N := 19) hx hb htB in_M hown ha.1 hP 0 rfl rfl 9 (by decide) (htB _ kw_451) (fun _ h9 => h9) hf9 d_M_loses_31 ?_
      refine lv_iload hx hb d_M_loses_34 (lv_at hl 6 rfl) ?_
      refine ja_ald (k := i) hx hb ha.1 hP 5 0 rfl rfl (by omega) (by omega) d_M_loses_36 ?_
      refine ja_ast (k := i) hx hb ha.1 hP hD hS 4 0 rfl rfl (by omega) (by omega) d_M_loses_37 (fun H locs hP hD hS => ?_)
      have hP : va_P g.1 cls [(h, .inr (3, fs)), (ad, eI g 288 (fd)), (adm, eI g 2 (dm)), (amd, eI g 1008 (md)), (ab, eI g 6 (upd (va_cpy cm bx 0 0 i) (i) (cm (i)))), (ac, eI g 6 (cm))] H := hP
      have hD : va_D A [(h, .inr (3, fs)), (ad, eI g 288 (fd)), (adm, eI g 2 (dm)), (amd, eI g 1008 (md)), (ab, eI g 6 (upd (va_cpy cm bx 0 0 i) (i) (cm (i)))), (ac, eI g 6 (cm))] := hD
      refine lv_iinc (v := nI (i + 1)) (lv' := [(6, .int (nI (i + 1))), (0, .ref h), (1, .int (nI (1))), (2, .int (nI (k))), (3, .int (fr)), (4, .int (tt)), (5, .int (nI (0)))]) hx hb d_M_loses_38 hl (k := 6) rfl (nI_add _ 1) (by decide) rfl (fun ls hl => ?_)
      refine lv_goto (tgt := 17) hx hb d_M_loses_41 (by decide) ?_
      rw [cpy_step00] at hP
      have hD : va_D A [(h, .inr (3, fs)), (ad, eI g 288 (fd)), (adm, eI g 2 (dm)), (amd, eI g 1008 (md)), (ab, eI g 6 (va_cpy cm bx 0 0 (i + 1))), (ac, eI g 6 (cm))] := hD.re [h, ad, adm, amd, ab, ac] rfl rfl
      exact ih_14 (i + 1) ls locs H (by omega) ⟨lv_sub (l' := [(0, .ref h), (1, .int (nI (1))), (2, .int (nI (k))), (3, .int (fr)), (4, .int (tt)), (5, .int (nI (0))), (6, .int (nI ((i + 1))))]) hl [1, 2, 3, 4, 5, 6, 0] rfl, by omega, hP.sub (ws' := [(h, .inr (3, fs)), (ad, eI g 288 (fd)), (adm, eI g 2 (dm)), (amd, eI g 1008 (md)), (ab, eI g 6 (va_cpy cm bx 0 0 (i + 1))), (ac, eI g 6 (cm))]) [0, 1, 2, 3, 4, 5] rfl, (hD.sub (ws' := [(h, .inr (3, fs)), (ad, eI g 288 (fd)), (adm, eI g 2 (dm)), (amd, eI g 1008 (md)), (ab, eI g 6 (va_cpy cm bx 0 0 (i + 1))), (ac, eI g 6 (cm))]) [0, 1, 2, 3, 4, 5] (by decide) rfl).re [h, ad, adm, amd, ab, ac] rfl rfl, hS⟩
