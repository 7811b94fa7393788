set_option maxHeartbeats 4000000 in
set_option maxRecDepth 100000 in
theorem m_M_shape (l : Launch) (g : gT) (z : Nat) (H0 : Heap) (h : Nat) (fs : List Value) (ad adm amd ab ac : Nat) (fd dm md bx cm : Nat → Int32) (cl : Int32) (kd k w S : Nat) (A0 B0 : List Bx) : Met l y_M_shape w_M_shape ({ frames := 4, cells := 0, slots := 0, locals := 102 }) (va_Pc [.ref h, .int (nI (kd)), .int (nI (k)), .int (nI (w))] (pB g z H0 (va_P g.1 cls [(h, .inr (3, fs)), (ad, eI g 288 (fd)), (adm, eI g 2 (dm)), (amd, eI g 1008 (md)), (ab, eI g 6 (bx)), (ac, eI g 6 (cm))] H0 ∧ va_D (zA z) [(h, .inr (3, fs)), (ad, eI g 288 (fd)), (adm, eI g 2 (dm)), (amd, eI g 1008 (md)), (ab, eI g 6 (bx)), (ac, eI g 6 (cm))] ∧ (fs[5]? = some (.ref ad) ∧ fs[6]? = some (.ref adm) ∧ fs[7]? = some (.ref amd) ∧ fs[8]? = some (.ref ab) ∧ fs[9]? = some (.ref ac) ∧ fs[10]? = some (.int cl) ∧ kd < 5 ∧ cmOk cm k S ∧ 1 ≤ w ∧ w ≤ 1000 ∧ dR fd dm A0 B0)))) (va_Qi (fun (rr : Int32) (u : (Nat → Int32) × (Nat → Int32) × (Nat → Int32) × (Nat → Int32)) => (∃ LA LB, seq2 (spl cm k cl (kd != 0 && kd != 3) (mkN kd S w) (spN kd S w)) (A0, B0) = some (LA, LB) ∧ rr = nI 1 ∧ dR u.1 u.2.1 LA LB) ∨ (seq2 (spl cm k cl (kd != 0 && kd != 3) (mkN kd S w) (spN kd S w)) (A0, B0) = none ∧ rr = nI 0)) (fun (u : (Nat → Int32) × (Nat → Int32) × (Nat → Int32) × (Nat → Int32)) t => va_P g.1 cls [(h, .inr (3, fs)), (ad, eI g 288 (u.1)), (adm, eI g 2 (u.2.1)), (amd, eI g 1008 (u.2.2.1)), (ab, eI g 6 (u.2.2.2)), (ac, eI g 6 (cm))] t.heap ∧ va_D (va_A [(h, .inr (3, fs)), (ad, eI g 288 (fd)), (adm, eI g 2 (dm)), (amd, eI g 1008 (md)), (ab, eI g 6 (bx)), (ac, eI g 6 (cm))] H0.size) [(h, .inr (3, fs)), (ad, eI g 288 (u.1)), (adm, eI g 2 (u.2.1)), (amd, eI g 1008 (u.2.2.1)), (ab, eI g 6 (u.2.2.2)), (ac, eI g 6 (cm))]) (va_A [(h, .inr (3, fs)), (ad, eI g 288 (fd)), (adm, eI g 2 (dm)), (amd, eI g 1008 (md)), (ab, eI g 6 (bx)), (ac, eI g 6 (cm))] H0.size)) 0 0 (va_A [(h, .inr (3, fs)), (ad, eI g 288 (fd)), (adm, eI g 2 (dm)), (amd, eI g 1008 (md)), (ab, eI g 6 (bx)), (ac, eI g 6 (cm))] H0.size) := by
  refine Met.ofW (cc := c_M_shape) (maxL := 9) (ret := (some .boolean)) (by decide) rfl ?_
  intro p e s m args below meth c s₁ B hml hv
  obtain ⟨rfl, hH0, ha, hP, hD0, hf5, hf6, hf7, hf8, hf9, hf10, hkd, hcm, hw1, hw2, hR0⟩ := hv
  have hx := B.exec
  have hb := B.bytes
  have hr := B.returns
  have htB : ∀ w ∈ tB, w.before _ s = true := fun w h => atoms_spec (ws := w_M_shape) B.pre w (List.mem_cons_of_mem _ h)
  have hown : s.vm.findClass "JointSolidsModel" = some m.cls := findClass_of_methodNamed B.named
  have hlocks := B.notSynchronized
  subst hH0
  have hD := hD0.self (sz := s.heap.size)
  have hz := aA_z hD0 ha.2.2.2.2.2
  generalize hAe : va_A [(h, .inr (3, fs)), (ad, eI g 288 (fd)), (adm, eI g 2 (dm)), (amd, eI g 1008 (md)), (ab, eI g 6 (bx)), (ac, eI g 6 (cm))] s.heap.size = A at hD hz ⊢
  have hA : ∀ q : Nat, s.heap.size ≤ q → A q := fun q h => by rw [← hAe]; exact Or.inr h
  have hS : va_S A s.heap s.heap [] := va_S.rf
  refine W.ofH hP hS (fun H locs hP hS => ?_)
  have hl := lv_entry ([.ref h, .int (nI (kd)), .int (nI (k)), .int (nI (w))]) (n := 9) (Nat.le_of_ble_eq_true rfl)
  rw [lg_entry_eq]
  generalize (lg_sl ([.ref h, .int (nI (kd)), .int (nI (k)), .int (nI (w))]) ++ List.replicate (9 - (lg_sl ([.ref h, .int (nI (kd)), .int (nI (k)), .int (nI (w))])).length) Slot.unset).toArray = ls at hl ⊢
  have hl : lv_has ls 9 [(0, .ref h), (1, .int (nI (kd))), (2, .int (nI (k))), (3, .int (nI (w)))] := hl
  have hk3 : k < 3 := hcm.2.1
  have hS3 := hcm.2.2.1
  have hS1 := hcm.2.2.2.1
  have hS2 := hcm.2.2.2.2
  have hSz : cm (3 + k) - cm k = nI S := by rw [Nat.add_comm 3 k]; exact hS3
  rcases (show kd = 0 ∨ kd = 1 ∨ kd = 2 ∨ kd = 3 ∨ kd = 4 by omega) with rfl | rfl | rfl | rfl | rfl
  · refine lv_aload_n hx hb d_M_shape_0 rfl (lv_at hl 0 rfl) ?_
    refine va_get (D := g.1) (ci := 3) (v := .ref ac) (C := R_M) (T := F_M) (N := 19) hx hb htB in_M hown ha.1 hP 0 rfl rfl 9 (by decide) (htB _ kw_451) (fun _ h9 => h9) hf9 d_M_shape_1 ?_
    refine lv_iload_n hx hb d_M_shape_4 rfl (lv_at hl 2 rfl) ?_
    refine ja_ald (k := k) hx hb ha.1 hP 5 0 rfl rfl (by omega) (by omega) d_M_shape_5 ?_
    refine lv_istore (lv' := [(4, .int (cm (k))), (0, .ref h), (1, .int (nI (0))), (2, .int (nI (k))), (3, .int (nI (w)))]) hx hb d_M_shape_6 hl (by decide) rfl (fun ls hl => ?_)
    refine lv_aload_n hx hb d_M_shape_8 rfl (lv_at hl 1 rfl) ?_
    refine va_get (D := g.1) (ci := 3) (v := .ref ac) (C := R_M) (T := F_M) (N := 19) hx hb htB in_M hown ha.1 hP 0 rfl rfl 9 (by decide) (htB _ kw_451) (fun _ h9 => h9) hf9 d_M_shape_9 ?_
    refine lv_iconst (v := (nI (3))) hx hb d_M_shape_12 (by decide) ?_
    refine lv_iload_n hx hb d_M_shape_13 rfl (lv_at hl 3 rfl) ?_
    refine jv_iadd hx hb d_M_shape_14 ?_
    refine ja_ald (k := 3 + k) hx hb ha.1 hP 5 0 rfl rfl (by omega) (by omega) d_M_shape_15 ?_
    refine lv_istore (lv' := [(5, .int (cm (3 + k))), (4, .int (cm (k))), (0, .ref h), (1, .int (nI (0))), (2, .int (nI (k))), (3, .int (nI (w)))]) hx hb d_M_shape_16 hl (by decide) rfl (fun ls hl => ?_)
    refine lv_iload hx hb d_M_shape_18 (lv_at hl 0 rfl) ?_
    refine lv_iload hx hb d_M_shape_20 (lv_at hl 1 rfl) ?_
    refine lv_isub hx hb d_M_shape_22 ?_
    rw [hSz]
    refine lv_istore (lv' := [(6, .int (nI (S))), (5, .int (cm (3 + k))), (4, .int (cm (k))), (0, .ref h), (1, .int (nI (0))), (2, .int (nI (k))), (3, .int (nI (w)))]) hx hb d_M_shape_23 hl (by decide) rfl (fun ls hl => ?_)
    refine lv_iload_n hx hb d_M_shape_25 rfl (lv_at hl 4 rfl) ?_
    refine lv_if_ne (tgt := 71) hx hb d_M_shape_26 (by decide) (fun h => absurd h (by decide)) (fun _ => ?_)
    refine lv_aload_n hx hb d_M_shape_29 rfl (lv_at hl 3 rfl) ?_
    refine lv_iconst (v := (nI (1))) hx hb d_M_shape_30 (by decide) ?_
    refine lv_iload_n hx hb d_M_shape_31 rfl (lv_at hl 5 rfl) ?_
    refine lv_iload hx hb d_M_shape_32 (lv_at hl 2 rfl) ?_
    refine lv_iload hx hb d_M_shape_34 (lv_at hl 2 rfl) ?_
    refine lv_iload hx hb d_M_shape_36 (lv_at hl 0 rfl) ?_
    refine lv_iconst (v := (nI (2))) hx hb d_M_shape_38 (by decide) ?_
    refine jv_idiv hx hb (by omega) (by omega) (by omega) d_M_shape_39 ?_
    refine lv_iadd hx hb d_M_shape_40 ?_
    have hPc := hP.sub (ws' := [(h, .inr (3, fs)), (ad, eI g 288 (fd)), (adm, eI g 2 (dm)), (amd, eI g 1008 (md)), (ab, eI g 6 (bx)), (ac, eI g 6 (cm))]) [0, 1, 2, 3, 4, 5] rfl
    have hDc := hD.sub (ws' := [(h, .inr (3, fs)), (ad, eI g 288 (fd)), (adm, eI g 2 (dm)), (amd, eI g 1008 (md)), (ab, eI g 6 (bx)), (ac, eI g 6 (cm))]) [0, 1, 2, 3, 4, 5] (by decide) rfl
    have hFc := va_free (wc := [(h, .inr (3, fs)), (ad, eI g 288 (fd)), (adm, eI g 2 (dm)), (amd, eI g 1008 (md)), (ab, eI g 6 (bx)), (ac, eI g 6 (cm))]) hD hS hA [0, 1, 2, 3, 4, 5] rfl
    refine va_calli (va_runV (As := [.int (nI (1)), .int (nI (k)), .int (cm (k)), .int ((cm (k)) + (nI ((S) / 2)))]) (rest := []) ⟨hx, hb, hml, hown, htB⟩ (m_M_loses l g z _ h (fs) ad adm amd ab ac (fd) (dm) (md) (bx) (cm) cl (1) (k) ((B0).length) (cm (k)) ((cm (k)) + (nI ((S) / 2)))) (cwV 4 htB (gV kw_569 kw_571 ks_1_9 kw_3 g_M_loses) rfl rfl rfl (by decide +kernel) ⟨Nat.le_of_ble_eq_true rfl, Nat.le_of_ble_eq_true rfl⟩) (pre_V hS hz ha (va_recv ha.1 hP (ci := 3) (q0 := 0) rfl rfl) ⟨hPc, hDc.weaken (fun _ _ _ h => hz _ h), ⟨hf5, hf6, hf7, hf8, hf9, hf10, by omega, hk3, hR0.2.2.2.1, hR0.2.1⟩⟩) rfl rfl hl.1 rfl (lv_room (Nat.le_of_ble_eq_true rfl)) d_M_shape_41 ⟨Nat.le_of_ble_eq_true rfl, Nat.le_of_ble_eq_true rfl⟩) hS (fun q _ h => hFc q h) hFc (fun r_2 u_3 t H1 locs ht hvm hw hB hz1 hk1 hS => ?_)
    obtain ⟨hP1, hD1⟩ := hB
    rw [ht] at hP1
    obtain ⟨hP, hD⟩ := va_join (wr := []) (w1 := [(h, .inr (3, fs)), (ad, eI g 288 (if u_3.1 ≤ 24 then va_cpy u_3.2.2 (fd) 0 (144 * 1) (6 * u_3.1) else (fd))), (adm, eI g 2 (if u_3.1 ≤ 24 then upd (dm) 1 (nI u_3.1) else (dm))), (amd, eI g 1008 (u_3.2.2)), (ab, eI g 6 (lsB cm (bx) k (cm (k)) ((cm (k)) + (nI ((S) / 2))) (if 1 = 0 then cl else nI 0))), (ac, eI g 6 (cm))]) hP hD [0, 1, 2, 3, 4, 5] [] rfl rfl (by decide) (by decide) hk1 hFc hP1 hD1
    clear hPc hDc hFc hP1 hD1 hk1 hz1 hvm ht
    generalize H1 = H at hP hS ⊢
    have hP : va_P g.1 cls [(h, .inr (3, fs)), (ad, eI g 288 (if u_3.1 ≤ 24 then va_cpy u_3.2.2 (fd) 0 (144 * 1) (6 * u_3.1) else (fd))), (adm, eI g 2 (if u_3.1 ≤ 24 then upd (dm) 1 (nI u_3.1) else (dm))), (amd, eI g 1008 (u_3.2.2)), (ab, eI g 6 (lsB cm (bx) k (cm (k)) ((cm (k)) + (nI ((S) / 2))) (if 1 = 0 then cl else nI 0))), (ac, eI g 6 (cm))] H := hP
    have hD : va_D A [(h, .inr (3, fs)), (ad, eI g 288 (if u_3.1 ≤ 24 then va_cpy u_3.2.2 (fd) 0 (144 * 1) (6 * u_3.1) else (fd))), (adm, eI g 2 (if u_3.1 ≤ 24 then upd (dm) 1 (nI u_3.1) else (dm))), (amd, eI g 1008 (u_3.2.2)), (ab, eI g 6 (lsB cm (bx) k (cm (k)) ((cm (k)) + (nI ((S) / 2))) (if 1 = 0 then cl else nI 0))), (ac, eI g 6 (cm))] := hD
    obtain ⟨hu1, hu2, hu3⟩ := hw
    subst hu2
    have hT : gb (lsB cm (bx) k (cm (k)) ((cm (k)) + (nI ((S) / 2))) (if 1 = 0 then cl else nI 0)) 0 = lb cm k (if 1 = 0 then cl else nI 0) (0) (S / 2) := lsB_lb hk3 (lo_0 _) (rfl)
    obtain ⟨e1, e2⟩ := lo_R1 hR0 hu1
    rw [hT] at e1 e2
    clear hu1 hu3 hT
    obtain ⟨bx4, hbx4⟩ : ∃ x : Nat → Int32, x = lsB cm (bx) k (cm (k)) ((cm (k)) + (nI ((S) / 2))) (if 1 = 0 then cl else nI 0) := ⟨_, rfl⟩
    rw [← hbx4] at hP hD
    clear hbx4
    by_cases c_5 : u_3.1 ≤ 24
    · rw [if_pos c_5, if_pos c_5] at hP hD
      rw [if_pos c_5]
      have hR4 := e2 c_5
      have hq4 : (cutL (lb cm k (nI 0) (0) (S / 2)) (B0)).length ≤ 24 := e1 ▸ c_5
      clear e1 e2
      obtain ⟨fd4, dm4, hfd4⟩ : ∃ x y : Nat → Int32, (x, y) = (va_cpy u_3.2.2 (fd) 0 (144 * 1) (6 * u_3.1), upd (dm) 1 (nI u_3.1)) := ⟨_, _, rfl⟩
      rw [show va_cpy u_3.2.2 (fd) 0 (144 * 1) (6 * u_3.1) = fd4 from (congrArg (fun x => x.1) hfd4).symm, show upd (dm) 1 (nI u_3.1) = dm4 from (congrArg (fun x => x.2) hfd4).symm] at hP hD hR4
      clear hfd4
      obtain ⟨LN4, hLN4⟩ : ∃ x : List Bx, (x, ()) = (cutL (lb cm k (nI 0) (0) (S / 2)) (B0), ()) := ⟨_, rfl⟩
      have hLE4 : LN4 = cutL (lb cm k (nI 0) (0) (S / 2)) (B0) := congrArg (fun x => x.1) hLN4
      have hR4 : dR fd4 dm4 (A0) LN4 := by rw [hLE4]; exact hR4
      have hN4 := hR4.2.2.2.1
      have hP : va_P g.1 cls [(h, .inr (3, fs)), (ad, eI g 288 (fd4)), (adm, eI g 2 (dm4)), (amd, eI g 1008 (u_3.2.2)), (ab, eI g 6 (bx4)), (ac, eI g 6 (cm))] H := hP
      have hD : va_D A [(h, .inr (3, fs)), (ad, eI g 288 (fd4)), (adm, eI g 2 (dm4)), (amd, eI g 1008 (u_3.2.2)), (ab, eI g 6 (bx4)), (ac, eI g 6 (cm))] := hD
      refine lv_if_eq (tgt := 69) hx hb d_M_shape_44 (by decide) (fun h => absurd h (by decide)) (fun _ => ?_)
      refine lv_aload_n hx hb d_M_shape_47 rfl (lv_at hl 3 rfl) ?_
      refine lv_iconst (v := (nI (0))) hx hb d_M_shape_48 (by decide) ?_
      refine lv_iload_n hx hb d_M_shape_49 rfl (lv_at hl 5 rfl) ?_
      refine lv_iload hx hb d_M_shape_50 (lv_at hl 2 rfl) ?_
      refine lv_iload hx hb d_M_shape_52 (lv_at hl 0 rfl) ?_
      refine lv_iconst (v := (nI (2))) hx hb d_M_shape_54 (by decide) ?_
      refine jv_idiv hx hb (by omega) (by omega) (by omega) d_M_shape_55 ?_
      refine lv_iadd hx hb d_M_shape_56 ?_
      refine lv_iload hx hb d_M_shape_57 (lv_at hl 1 rfl) ?_
      have hPc := hP.sub (ws' := [(h, .inr (3, fs)), (ad, eI g 288 (fd4)), (adm, eI g 2 (dm4)), (amd, eI g 1008 (u_3.2.2)), (ab, eI g 6 (bx4)), (ac, eI g 6 (cm))]) [0, 1, 2, 3, 4, 5] rfl
      have hDc := hD.sub (ws' := [(h, .inr (3, fs)), (ad, eI g 288 (fd4)), (adm, eI g 2 (dm4)), (amd, eI g 1008 (u_3.2.2)), (ab, eI g 6 (bx4)), (ac, eI g 6 (cm))]) [0, 1, 2, 3, 4, 5] (by decide) rfl
      have hFc := va_free (wc := [(h, .inr (3, fs)), (ad, eI g 288 (fd4)), (adm, eI g 2 (dm4)), (amd, eI g 1008 (u_3.2.2)), (ab, eI g 6 (bx4)), (ac, eI g 6 (cm))]) hD hS hA [0, 1, 2, 3, 4, 5] rfl
      refine va_calli (va_runV (As := [.int (nI (0)), .int (nI (k)), .int ((cm (k)) + (nI ((S) / 2))), .int (cm (3 + k))]) (rest := []) ⟨hx, hb, hml, hown, htB⟩ (m_M_loses l g z _ h (fs) ad adm amd ab ac (fd4) (dm4) (u_3.2.2) (bx4) (cm) cl (0) (k) ((A0).length) ((cm (k)) + (nI ((S) / 2))) (cm (3 + k))) (cwV 4 htB (gV kw_569 kw_571 ks_1_9 kw_3 g_M_loses) rfl rfl rfl (by decide +kernel) ⟨Nat.le_of_ble_eq_true rfl, Nat.le_of_ble_eq_true rfl⟩) (pre_V hS hz ha (va_recv ha.1 hP (ci := 3) (q0 := 0) rfl rfl) ⟨hPc, hDc.weaken (fun _ _ _ h => hz _ h), ⟨hf5, hf6, hf7, hf8, hf9, hf10, by omega, hk3, hR4.2.2.1, hR4.1⟩⟩) rfl rfl hl.1 rfl (lv_room (Nat.le_of_ble_eq_true rfl)) d_M_shape_59 ⟨Nat.le_of_ble_eq_true rfl, Nat.le_of_ble_eq_true rfl⟩) hS (fun q _ h => hFc q h) hFc (fun r_7 u_8 t H1 locs ht hvm hw hB hz1 hk1 hS => ?_)
      obtain ⟨hP1, hD1⟩ := hB
      rw [ht] at hP1
      obtain ⟨hP, hD⟩ := va_join (wr := []) (w1 := [(h, .inr (3, fs)), (ad, eI g 288 (if u_8.1 ≤ 24 then va_cpy u_8.2.2 (fd4) 0 (144 * 0) (6 * u_8.1) else (fd4))), (adm, eI g 2 (if u_8.1 ≤ 24 then upd (dm4) 0 (nI u_8.1) else (dm4))), (amd, eI g 1008 (u_8.2.2)), (ab, eI g 6 (lsB cm (bx4) k ((cm (k)) + (nI ((S) / 2))) (cm (3 + k)) (if 0 = 0 then cl else nI 0))), (ac, eI g 6 (cm))]) hP hD [0, 1, 2, 3, 4, 5] [] rfl rfl (by decide) (by decide) hk1 hFc hP1 hD1
      clear hPc hDc hFc hP1 hD1 hk1 hz1 hvm ht
      generalize H1 = H at hP hS ⊢
      have hP : va_P g.1 cls [(h, .inr (3, fs)), (ad, eI g 288 (if u_8.1 ≤ 24 then va_cpy u_8.2.2 (fd4) 0 (144 * 0) (6 * u_8.1) else (fd4))), (adm, eI g 2 (if u_8.1 ≤ 24 then upd (dm4) 0 (nI u_8.1) else (dm4))), (amd, eI g 1008 (u_8.2.2)), (ab, eI g 6 (lsB cm (bx4) k ((cm (k)) + (nI ((S) / 2))) (cm (3 + k)) (if 0 = 0 then cl else nI 0))), (ac, eI g 6 (cm))] H := hP
      have hD : va_D A [(h, .inr (3, fs)), (ad, eI g 288 (if u_8.1 ≤ 24 then va_cpy u_8.2.2 (fd4) 0 (144 * 0) (6 * u_8.1) else (fd4))), (adm, eI g 2 (if u_8.1 ≤ 24 then upd (dm4) 0 (nI u_8.1) else (dm4))), (amd, eI g 1008 (u_8.2.2)), (ab, eI g 6 (lsB cm (bx4) k ((cm (k)) + (nI ((S) / 2))) (cm (3 + k)) (if 0 = 0 then cl else nI 0))), (ac, eI g 6 (cm))] := hD
      obtain ⟨hu1, hu2, hu3⟩ := hw
      subst hu2
      have hT : gb (lsB cm (bx4) k ((cm (k)) + (nI ((S) / 2))) (cm (3 + k)) (if 0 = 0 then cl else nI 0)) 0 = lb cm k (if 0 = 0 then cl else nI 0) (S / 2) (S) := lsB_lb hk3 (rfl) (hi_of hS3)
      obtain ⟨e1, e2⟩ := lo_R0 hR4 hu1
      rw [hT] at e1 e2
      clear hu1 hu3 hT
      obtain ⟨bx9, hbx9⟩ : ∃ x : Nat → Int32, x = lsB cm (bx4) k ((cm (k)) + (nI ((S) / 2))) (cm (3 + k)) (if 0 = 0 then cl else nI 0) := ⟨_, rfl⟩
      rw [← hbx9] at hP hD
      clear hbx9
      by_cases c_10 : u_8.1 ≤ 24
      · rw [if_pos c_10, if_pos c_10] at hP hD
        rw [if_pos c_10]
        have hR9 := e2 c_10
        have hq9 : (cutL (lb cm k cl (S / 2) (S)) (A0)).length ≤ 24 := e1 ▸ c_10
        clear e1 e2
        obtain ⟨fd9, dm9, hfd9⟩ : ∃ x y : Nat → Int32, (x, y) = (va_cpy u_8.2.2 (fd4) 0 (144 * 0) (6 * u_8.1), upd (dm4) 0 (nI u_8.1)) := ⟨_, _, rfl⟩
        rw [show va_cpy u_8.2.2 (fd4) 0 (144 * 0) (6 * u_8.1) = fd9 from (congrArg (fun x => x.1) hfd9).symm, show upd (dm4) 0 (nI u_8.1) = dm9 from (congrArg (fun x => x.2) hfd9).symm] at hP hD hR9
        clear hfd9
        obtain ⟨LN9, hLN9⟩ : ∃ x : List Bx, (x, ()) = (cutL (lb cm k cl (S / 2) (S)) (A0), ()) := ⟨_, rfl⟩
        have hLE9 : LN9 = cutL (lb cm k cl (S / 2) (S)) (A0) := congrArg (fun x => x.1) hLN9
        have hR9 : dR fd9 dm9 LN9 (LN4) := by rw [hLE9]; exact hR9
        have hN9 := hR9.2.2.1
        have hP : va_P g.1 cls [(h, .inr (3, fs)), (ad, eI g 288 (fd9)), (adm, eI g 2 (dm9)), (amd, eI g 1008 (u_8.2.2)), (ab, eI g 6 (bx9)), (ac, eI g 6 (cm))] H := hP
        have hD : va_D A [(h, .inr (3, fs)), (ad, eI g 288 (fd9)), (adm, eI g 2 (dm9)), (amd, eI g 1008 (u_8.2.2)), (ab, eI g 6 (bx9)), (ac, eI g 6 (cm))] := hD
        refine lv_if_eq (tgt := 69) hx hb d_M_shape_62 (by decide) (fun h => absurd h (by decide)) (fun _ => ?_)
        refine lv_iconst (v := (nI (1))) hx hb d_M_shape_65 (by decide) ?_
        refine lv_goto (tgt := 70) hx hb d_M_shape_66 (by decide) ?_
        have hP9 := hP.sub (ws' := [(h, .inr (3, fs)), (ad, eI g 288 (fd9)), (adm, eI g 2 (dm9)), (amd, eI g 1008 (u_8.2.2)), (ab, eI g 6 (bx9)), (ac, eI g 6 (cm))]) [0, 1, 2, 3, 4, 5] rfl
        have hD9 := hD.sub (ws' := [(h, .inr (3, fs)), (ad, eI g 288 (fd9)), (adm, eI g 2 (dm9)), (amd, eI g 1008 (u_8.2.2)), (ab, eI g 6 (bx9)), (ac, eI g 6 (cm))]) [0, 1, 2, 3, 4, 5] (by decide) rfl
        exact (W.widen (k := 0) (n := 0) (Nat.le_of_ble_eq_true rfl) (Nat.le_of_ble_eq_true rfl) (W.zret (v := (nI (1))) hx hb hr (by decide) (fun t ht hW => ⟨⟨(nI (1)), (fd9, dm9, u_8.2.2, bx9), rfl, Or.inl ⟨LN9, LN4, by rw [hLE9, hLE4]; exact ((stp_t ((stp_f (cm := cm) (k := k) (cl := cl) (s0 := false) (ms := mkN 0 S w) (i := 0) (q := (A0, B0)) rfl rfl).trans (if_pos hq4)) rfl).trans (if_pos hq9)), rfl, hR9⟩, by rw [ht]; exact hP9, hD9.re [h, ad, adm, amd, ab, ac] rfl rfl⟩, hS.F ht⟩) hS.2.2 d_M_shape_70))
      · rw [if_neg c_10, if_neg c_10] at hP hD
        rw [if_neg c_10]
        have hq9 : ¬ (cutL (lb cm k cl (S / 2) (S)) (A0)).length ≤ 24 := e1 ▸ c_10
        have hP : va_P g.1 cls [(h, .inr (3, fs)), (ad, eI g 288 (fd4)), (adm, eI g 2 (dm4)), (amd, eI g 1008 (u_8.2.2)), (ab, eI g 6 (bx9)), (ac, eI g 6 (cm))] H := hP
        have hD : va_D A [(h, .inr (3, fs)), (ad, eI g 288 (fd4)), (adm, eI g 2 (dm4)), (amd, eI g 1008 (u_8.2.2)), (ab, eI g 6 (bx9)), (ac, eI g 6 (cm))] := hD
        refine lv_if_eq (tgt := 69) hx hb d_M_shape_62 (by decide) (fun _ => ?_) (fun h => absurd h (by decide))
        refine lv_iconst (v := (nI (0))) hx hb d_M_shape_69 (by decide) ?_
        have hP9 := hP.sub (ws' := [(h, .inr (3, fs)), (ad, eI g 288 (fd4)), (adm, eI g 2 (dm4)), (amd, eI g 1008 (u_8.2.2)), (ab, eI g 6 (bx9)), (ac, eI g 6 (cm))]) [0, 1, 2, 3, 4, 5] rfl
        have hD9 := hD.sub (ws' := [(h, .inr (3, fs)), (ad, eI g 288 (fd4)), (adm, eI g 2 (dm4)), (amd, eI g 1008 (u_8.2.2)), (ab, eI g 6 (bx9)), (ac, eI g 6 (cm))]) [0, 1, 2, 3, 4, 5] (by decide) rfl
        exact (W.widen (k := 0) (n := 0) (Nat.le_of_ble_eq_true rfl) (Nat.le_of_ble_eq_true rfl) (W.zret (v := (nI (0))) hx hb hr (by decide) (fun t ht hW => ⟨⟨(nI (0)), (fd4, dm4, u_8.2.2, bx9), rfl, Or.inr ⟨(stp_t ((stp_f (cm := cm) (k := k) (cl := cl) (s0 := false) (ms := mkN 0 S w) (i := 0) (q := (A0, B0)) rfl rfl).trans (if_pos hq4)) rfl).trans (if_neg (by rw [hLE4] at *; exact hq9)), rfl⟩, by rw [ht]; exact hP9, hD9.re [h, ad, adm, amd, ab, ac] rfl rfl⟩, hS.F ht⟩) hS.2.2 d_M_shape_70))
    · rw [if_neg c_5, if_neg c_5] at hP hD
      rw [if_neg c_5]
      have hq4 : ¬ (cutL (lb cm k (nI 0) (0) (S / 2)) (B0)).length ≤ 24 := e1 ▸ c_5
      have hP : va_P g.1 cls [(h, .inr (3, fs)), (ad, eI g 288 (fd)), (adm, eI g 2 (dm)), (amd, eI g 1008 (u_3.2.2)), (ab, eI g 6 (bx4)), (ac, eI g 6 (cm))] H := hP
      have hD : va_D A [(h, .inr (3, fs)), (ad, eI g 288 (fd)), (adm, eI g 2 (dm)), (amd, eI g 1008 (u_3.2.2)), (ab, eI g 6 (bx4)), (ac, eI g 6 (cm))] := hD
      refine lv_if_eq (tgt := 69) hx hb d_M_shape_44 (by decide) (fun _ => ?_) (fun h => absurd h (by decide))
      refine lv_iconst (v := (nI (0))) hx hb d_M_shape_69 (by decide) ?_
      have hP9 := hP.sub (ws' := [(h, .inr (3, fs)), (ad, eI g 288 (fd)), (adm, eI g 2 (dm)), (amd, eI g 1008 (u_3.2.2)), (ab, eI g 6 (bx4)), (ac, eI g 6 (cm))]) [0, 1, 2, 3, 4, 5] rfl
      have hD9 := hD.sub (ws' := [(h, .inr (3, fs)), (ad, eI g 288 (fd)), (adm, eI g 2 (dm)), (amd, eI g 1008 (u_3.2.2)), (ab, eI g 6 (bx4)), (ac, eI g 6 (cm))]) [0, 1, 2, 3, 4, 5] (by decide) rfl
      exact (W.widen (k := 0) (n := 0) (Nat.le_of_ble_eq_true rfl) (Nat.le_of_ble_eq_true rfl) (W.zret (v := (nI (0))) hx hb hr (by decide) (fun t ht hW => ⟨⟨(nI (0)), (fd, dm, u_3.2.2, bx4), rfl, Or.inr ⟨spl_none ((stp_f (cm := cm) (k := k) (cl := cl) (s0 := false) (ms := mkN 0 S w) (i := 0) (q := (A0, B0)) rfl rfl).trans (if_neg hq4)) 2 (by decide), rfl⟩, by rw [ht]; exact hP9, hD9.re [h, ad, adm, amd, ab, ac] rfl rfl⟩, hS.F ht⟩) hS.2.2 d_M_shape_70))
  · refine lv_aload_n hx hb d_M_shape_0 rfl (lv_at hl 0 rfl) ?_
    refine va_get (D := g.1) (ci := 3) (v := .ref ac) (C := R_M) (T := F_M) (N := 19) hx hb htB in_M hown ha.1 hP 0 rfl rfl 9 (by decide) (htB _ kw_451) (fun _ h9 => h9) hf9 d_M_shape_1 ?_
    refine lv_iload_n hx hb d_M_shape_4 rfl (lv_at hl 2 rfl) ?_
    refine ja_ald (k := k) hx hb ha.1 hP 5 0 rfl rfl (by omega) (by omega) d_M_shape_5 ?_
    refine lv_istore (lv' := [(4, .int (cm (k))), (0, .ref h), (1, .int (nI (1))), (2, .int (nI (k))), (3, .int (nI (w)))]) hx hb d_M_shape_6 hl (by decide) rfl (fun ls hl => ?_)
    refine lv_aload_n hx hb d_M_shape_8 rfl (lv_at hl 1 rfl) ?_
    refine va_get (D := g.1) (ci := 3) (v := .ref ac) (C := R_M) (T := F_M) (N := 19) hx hb htB in_M hown ha.1 hP 0 rfl rfl 9 (by decide) (htB _ kw_451) (fun _ h9 => h9) hf9 d_M_shape_9 ?_
    refine lv_iconst (v := (nI (3))) hx hb d_M_shape_12 (by decide) ?_
    refine lv_iload_n hx hb d_M_shape_13 rfl (lv_at hl 3 rfl) ?_
    refine jv_iadd hx hb d_M_shape_14 ?_
    refine ja_ald (k := 3 + k) hx hb ha.1 hP 5 0 rfl rfl (by omega) (by omega) d_M_shape_15 ?_
    refine lv_istore (lv' := [(5, .int (cm (3 + k))), (4, .int (cm (k))), (0, .ref h), (1, .int (nI (1))), (2, .int (nI (k))), (3, .int (nI (w)))]) hx hb d_M_shape_16 hl (by decide) rfl (fun ls hl => ?_)
    refine lv_iload hx hb d_M_shape_18 (lv_at hl 0 rfl) ?_
    refine lv_iload hx hb d_M_shape_20 (lv_at hl 1 rfl) ?_
    refine lv_isub hx hb d_M_shape_22 ?_
    rw [hSz]
    refine lv_istore (lv' := [(6, .int (nI (S))), (5, .int (cm (3 + k))), (4, .int (cm (k))), (0, .ref h), (1, .int (nI (1))), (2, .int (nI (k))), (3, .int (nI (w)))]) hx hb d_M_shape_23 hl (by decide) rfl (fun ls hl => ?_)
    refine lv_iload_n hx hb d_M_shape_25 rfl (lv_at hl 4 rfl) ?_
    refine lv_if_ne (tgt := 71) hx hb d_M_shape_26 (by decide) (fun _ => ?_) (fun h => absurd h (by decide))
    refine lv_iload_n hx hb d_M_shape_71 rfl (lv_at hl 4 rfl) ?_
    refine lv_iconst (v := (nI (1))) hx hb d_M_shape_72 (by decide) ?_
    refine jv_icmp_ne (tgt := 87) hx hb (by omega) (by omega) d_M_shape_73 (by decide) (fun h => absurd h (by decide)) (fun _ => ?_)
    refine lv_aload_n hx hb d_M_shape_76 rfl (lv_at hl 3 rfl) ?_
    refine lv_iconst (v := (nI (0))) hx hb d_M_shape_77 (by decide) ?_
    refine lv_iload_n hx hb d_M_shape_78 rfl (lv_at hl 5 rfl) ?_
    refine lv_iload hx hb d_M_shape_79 (lv_at hl 2 rfl) ?_
    refine lv_iload hx hb d_M_shape_81 (lv_at hl 1 rfl) ?_
    have hPc := hP.sub (ws' := [(h, .inr (3, fs)), (ad, eI g 288 (fd)), (adm, eI g 2 (dm)), (amd, eI g 1008 (md)), (ab, eI g 6 (bx)), (ac, eI g 6 (cm))]) [0, 1, 2, 3, 4, 5] rfl
    have hDc := hD.sub (ws' := [(h, .inr (3, fs)), (ad, eI g 288 (fd)), (adm, eI g 2 (dm)), (amd, eI g 1008 (md)), (ab, eI g 6 (bx)), (ac, eI g 6 (cm))]) [0, 1, 2, 3, 4, 5] (by decide) rfl
    have hFc := va_free (wc := [(h, .inr (3, fs)), (ad, eI g 288 (fd)), (adm, eI g 2 (dm)), (amd, eI g 1008 (md)), (ab, eI g 6 (bx)), (ac, eI g 6 (cm))]) hD hS hA [0, 1, 2, 3, 4, 5] rfl
    refine va_calli (va_runV (As := [.int (nI (0)), .int (nI (k)), .int (cm (k)), .int (cm (3 + k))]) (rest := []) ⟨hx, hb, hml, hown, htB⟩ (m_M_loses l g z _ h (fs) ad adm amd ab ac (fd) (dm) (md) (bx) (cm) cl (0) (k) ((A0).length) (cm (k)) (cm (3 + k))) (cwV 4 htB (gV kw_569 kw_571 ks_1_9 kw_3 g_M_loses) rfl rfl rfl (by decide +kernel) ⟨Nat.le_of_ble_eq_true rfl, Nat.le_of_ble_eq_true rfl⟩) (pre_V hS hz ha (va_recv ha.1 hP (ci := 3) (q0 := 0) rfl rfl) ⟨hPc, hDc.weaken (fun _ _ _ h => hz _ h), ⟨hf5, hf6, hf7, hf8, hf9, hf10, by omega, hk3, hR0.2.2.1, hR0.1⟩⟩) rfl rfl hl.1 rfl (lv_room (Nat.le_of_ble_eq_true rfl)) d_M_shape_83 ⟨Nat.le_of_ble_eq_true rfl, Nat.le_of_ble_eq_true rfl⟩) hS (fun q _ h => hFc q h) hFc (fun r_15 u_16 t H1 locs ht hvm hw hB hz1 hk1 hS => ?_)
    obtain ⟨hP1, hD1⟩ := hB
    rw [ht] at hP1
    obtain ⟨hP, hD⟩ := va_join (wr := []) (w1 := [(h, .inr (3, fs)), (ad, eI g 288 (if u_16.1 ≤ 24 then va_cpy u_16.2.2 (fd) 0 (144 * 0) (6 * u_16.1) else (fd))), (adm, eI g 2 (if u_16.1 ≤ 24 then upd (dm) 0 (nI u_16.1) else (dm))), (amd, eI g 1008 (u_16.2.2)), (ab, eI g 6 (lsB cm (bx) k (cm (k)) (cm (3 + k)) (if 0 = 0 then cl else nI 0))), (ac, eI g 6 (cm))]) hP hD [0, 1, 2, 3, 4, 5] [] rfl rfl (by decide) (by decide) hk1 hFc hP1 hD1
    clear hPc hDc hFc hP1 hD1 hk1 hz1 hvm ht
    generalize H1 = H at hP hS ⊢
    have hP : va_P g.1 cls [(h, .inr (3, fs)), (ad, eI g 288 (if u_16.1 ≤ 24 then va_cpy u_16.2.2 (fd) 0 (144 * 0) (6 * u_16.1) else (fd))), (adm, eI g 2 (if u_16.1 ≤ 24 then upd (dm) 0 (nI u_16.1) else (dm))), (amd, eI g 1008 (u_16.2.2)), (ab, eI g 6 (lsB cm (bx) k (cm (k)) (cm (3 + k)) (if 0 = 0 then cl else nI 0))), (ac, eI g 6 (cm))] H := hP
    have hD : va_D A [(h, .inr (3, fs)), (ad, eI g 288 (if u_16.1 ≤ 24 then va_cpy u_16.2.2 (fd) 0 (144 * 0) (6 * u_16.1) else (fd))), (adm, eI g 2 (if u_16.1 ≤ 24 then upd (dm) 0 (nI u_16.1) else (dm))), (amd, eI g 1008 (u_16.2.2)), (ab, eI g 6 (lsB cm (bx) k (cm (k)) (cm (3 + k)) (if 0 = 0 then cl else nI 0))), (ac, eI g 6 (cm))] := hD
    obtain ⟨hu1, hu2, hu3⟩ := hw
    subst hu2
    have hT : gb (lsB cm (bx) k (cm (k)) (cm (3 + k)) (if 0 = 0 then cl else nI 0)) 0 = lb cm k (if 0 = 0 then cl else nI 0) (0) (S) := lsB_lb hk3 (lo_0 _) (hi_of hS3)
    obtain ⟨e1, e2⟩ := lo_R0 hR0 hu1
    rw [hT] at e1 e2
    clear hu1 hu3 hT
    obtain ⟨bx17, hbx17⟩ : ∃ x : Nat → Int32, x = lsB cm (bx) k (cm (k)) (cm (3 + k)) (if 0 = 0 then cl else nI 0) := ⟨_, rfl⟩
    rw [← hbx17] at hP hD
    clear hbx17
    by_cases c_18 : u_16.1 ≤ 24
    · rw [if_pos c_18, if_pos c_18] at hP hD
      rw [if_pos c_18]
      have hR17 := e2 c_18
      have hq17 : (cutL (lb cm k cl (0) (S)) (A0)).length ≤ 24 := e1 ▸ c_18
      clear e1 e2
      obtain ⟨fd17, dm17, hfd17⟩ : ∃ x y : Nat → Int32, (x, y) = (va_cpy u_16.2.2 (fd) 0 (144 * 0) (6 * u_16.1), upd (dm) 0 (nI u_16.1)) := ⟨_, _, rfl⟩
      rw [show va_cpy u_16.2.2 (fd) 0 (144 * 0) (6 * u_16.1) = fd17 from (congrArg (fun x => x.1) hfd17).symm, show upd (dm) 0 (nI u_16.1) = dm17 from (congrArg (fun x => x.2) hfd17).symm] at hP hD hR17
      clear hfd17
      obtain ⟨LN17, hLN17⟩ : ∃ x : List Bx, (x, ()) = (cutL (lb cm k cl (0) (S)) (A0), ()) := ⟨_, rfl⟩
      have hLE17 : LN17 = cutL (lb cm k cl (0) (S)) (A0) := congrArg (fun x => x.1) hLN17
      have hR17 : dR fd17 dm17 LN17 (B0) := by rw [hLE17]; exact hR17
      have hN17 := hR17.2.2.1
      have hP : va_P g.1 cls [(h, .inr (3, fs)), (ad, eI g 288 (fd17)), (adm, eI g 2 (dm17)), (amd, eI g 1008 (u_16.2.2)), (ab, eI g 6 (bx17)), (ac, eI g 6 (cm))] H := hP
      have hD : va_D A [(h, .inr (3, fs)), (ad, eI g 288 (fd17)), (adm, eI g 2 (dm17)), (amd, eI g 1008 (u_16.2.2)), (ab, eI g 6 (bx17)), (ac, eI g 6 (cm))] := hD
      have hP9 := hP.sub (ws' := [(h, .inr (3, fs)), (ad, eI g 288 (fd17)), (adm, eI g 2 (dm17)), (amd, eI g 1008 (u_16.2.2)), (ab, eI g 6 (bx17)), (ac, eI g 6 (cm))]) [0, 1, 2, 3, 4, 5] rfl
      have hD9 := hD.sub (ws' := [(h, .inr (3, fs)), (ad, eI g 288 (fd17)), (adm, eI g 2 (dm17)), (amd, eI g 1008 (u_16.2.2)), (ab, eI g 6 (bx17)), (ac, eI g 6 (cm))]) [0, 1, 2, 3, 4, 5] (by decide) rfl
      exact (W.widen (k := 0) (n := 0) (Nat.le_of_ble_eq_true rfl) (Nat.le_of_ble_eq_true rfl) (W.zret (v := (nI (1))) hx hb hr (by decide) (fun t ht hW => ⟨⟨(nI (1)), (fd17, dm17, u_16.2.2, bx17), rfl, Or.inl ⟨LN17, B0, by rw [hLE17]; exact (stp_t (cm := cm) (k := k) (cl := cl) (s0 := true) (ms := mkN 1 S w) (i := 0) (q := (A0, B0)) rfl rfl).trans (if_pos hq17), rfl, hR17⟩, by rw [ht]; exact hP9, hD9.re [h, ad, adm, amd, ab, ac] rfl rfl⟩, hS.F ht⟩) hS.2.2 d_M_shape_86))
    · rw [if_neg c_18, if_neg c_18] at hP hD
      rw [if_neg c_18]
      have hq17 : ¬ (cutL (lb cm k cl (0) (S)) (A0)).length ≤ 24 := e1 ▸ c_18
      have hP : va_P g.1 cls [(h, .inr (3, fs)), (ad, eI g 288 (fd)), (adm, eI g 2 (dm)), (amd, eI g 1008 (u_16.2.2)), (ab, eI g 6 (bx17)), (ac, eI g 6 (cm))] H := hP
      have hD : va_D A [(h, .inr (3, fs)), (ad, eI g 288 (fd)), (adm, eI g 2 (dm)), (amd, eI g 1008 (u_16.2.2)), (ab, eI g 6 (bx17)), (ac, eI g 6 (cm))] := hD
      have hP9 := hP.sub (ws' := [(h, .inr (3, fs)), (ad, eI g 288 (fd)), (adm, eI g 2 (dm)), (amd, eI g 1008 (u_16.2.2)), (ab, eI g 6 (bx17)), (ac, eI g 6 (cm))]) [0, 1, 2, 3, 4, 5] rfl
      have hD9 := hD.sub (ws' := [(h, .inr (3, fs)), (ad, eI g 288 (fd)), (adm, eI g 2 (dm)), (amd, eI g 1008 (u_16.2.2)), (ab, eI g 6 (bx17)), (ac, eI g 6 (cm))]) [0, 1, 2, 3, 4, 5] (by decide) rfl
      exact (W.widen (k := 0) (n := 0) (Nat.le_of_ble_eq_true rfl) (Nat.le_of_ble_eq_true rfl) (W.zret (v := (nI (0))) hx hb hr (by decide) (fun t ht hW => ⟨⟨(nI (0)), (fd, dm, u_16.2.2, bx17), rfl, Or.inr ⟨(stp_t (cm := cm) (k := k) (cl := cl) (s0 := true) (ms := mkN 1 S w) (i := 0) (q := (A0, B0)) rfl rfl).trans (if_neg hq17), rfl⟩, by rw [ht]; exact hP9, hD9.re [h, ad, adm, amd, ab, ac] rfl rfl⟩, hS.F ht⟩) hS.2.2 d_M_shape_86))
  · refine lv_aload_n hx hb d_M_shape_0 rfl (lv_at hl 0 rfl) ?_
    refine va_get (D := g.1) (ci := 3) (v := .ref ac) (C := R_M) (T := F_M) (N := 19) hx hb htB in_M hown ha.1 hP 0 rfl rfl 9 (by decide) (htB _ kw_451) (fun _ h9 => h9) hf9 d_M_shape_1 ?_
    refine lv_iload_n hx hb d_M_shape_4 rfl (lv_at hl 2 rfl) ?_
    refine ja_ald (k := k) hx hb ha.1 hP 5 0 rfl rfl (by omega) (by omega) d_M_shape_5 ?_
    refine lv_istore (lv' := [(4, .int (cm (k))), (0, .ref h), (1, .int (nI (2))), (2, .int (nI (k))), (3, .int (nI (w)))]) hx hb d_M_shape_6 hl (by decide) rfl (fun ls hl => ?_)
    refine lv_aload_n hx hb d_M_shape_8 rfl (lv_at hl 1 rfl) ?_
    refine va_get (D := g.1) (ci := 3) (v := .ref ac) (C := R_M) (T := F_M) (N := 19) hx hb htB in_M hown ha.1 hP 0 rfl rfl 9 (by decide) (htB _ kw_451) (fun _ h9 => h9) hf9 d_M_shape_9 ?_
    refine lv_iconst (v := (nI (3))) hx hb d_M_shape_12 (by decide) ?_
    refine lv_iload_n hx hb d_M_shape_13 rfl (lv_at hl 3 rfl) ?_
    refine jv_iadd hx hb d_M_shape_14 ?_
    refine ja_ald (k := 3 + k) hx hb ha.1 hP 5 0 rfl rfl (by omega) (by omega) d_M_shape_15 ?_
    refine lv_istore (lv' := [(5, .int (cm (3 + k))), (4, .int (cm (k))), (0, .ref h), (1, .int (nI (2))), (2, .int (nI (k))), (3, .int (nI (w)))]) hx hb d_M_shape_16 hl (by decide) rfl (fun ls hl => ?_)
    refine lv_iload hx hb d_M_shape_18 (lv_at hl 0 rfl) ?_
    refine lv_iload hx hb d_M_shape_20 (lv_at hl 1 rfl) ?_
    refine lv_isub hx hb d_M_shape_22 ?_
    rw [hSz]
    refine lv_istore (lv' := [(6, .int (nI (S))), (5, .int (cm (3 + k))), (4, .int (cm (k))), (0, .ref h), (1, .int (nI (2))), (2, .int (nI (k))), (3, .int (nI (w)))]) hx hb d_M_shape_23 hl (by decide) rfl (fun ls hl => ?_)
    refine lv_iload_n hx hb d_M_shape_25 rfl (lv_at hl 4 rfl) ?_
    refine lv_if_ne (tgt := 71) hx hb d_M_shape_26 (by decide) (fun _ => ?_) (fun h => absurd h (by decide))
    refine lv_iload_n hx hb d_M_shape_71 rfl (lv_at hl 4 rfl) ?_
    refine lv_iconst (v := (nI (1))) hx hb d_M_shape_72 (by decide) ?_
    refine jv_icmp_ne (tgt := 87) hx hb (by omega) (by omega) d_M_shape_73 (by decide) (fun _ => ?_) (fun h => absurd h (by decide))
    refine lv_iload_n hx hb d_M_shape_87 rfl (lv_at hl 4 rfl) ?_
    refine lv_iconst (v := (nI (2))) hx hb d_M_shape_88 (by decide) ?_
    refine jv_icmp_ne (tgt := 153) hx hb (by omega) (by omega) d_M_shape_89 (by decide) (fun h => absurd h (by decide)) (fun _ => ?_)
    refine lv_iconst (v := (nI (1))) hx hb d_M_shape_92 (by decide) ?_
    refine lv_istore (lv' := [(7, .int (nI (1))), (6, .int (nI (S))), (5, .int (cm (3 + k))), (4, .int (cm (k))), (0, .ref h), (1, .int (nI (2))), (2, .int (nI (k))), (3, .int (nI (w)))]) hx hb d_M_shape_93 hl (by decide) rfl (fun ls hl => ?_)
    refine lv_iconst (v := (nI (0))) hx hb d_M_shape_95 (by decide) ?_
    refine lv_istore (lv' := [(8, .int (nI (0))), (7, .int (nI (1))), (6, .int (nI (S))), (5, .int (cm (3 + k))), (4, .int (cm (k))), (0, .ref h), (1, .int (nI (2))), (2, .int (nI (k))), (3, .int (nI (w)))]) hx hb d_M_shape_96 hl (by decide) rfl (fun ls hl => ?_)
    refine W.loop (N := (S + w - 1) / w) (X := fun j ls locs H => j ≤ (S + w - 1) / w ∧ ∃ (fd : Nat → Int32) (dm : Nat → Int32) (md : Nat → Int32) (bx : Nat → Int32) (LA : List Bx) (LB : List Bx), (seq2 (spl cm k cl true (mkN 2 S w) j) (A0, B0) = some (LA, LB) ∧ dR fd dm LA LB) ∧ lv_has ls 9 [(0, .ref h), (1, .int (nI (2))), (2, .int (nI (k))), (3, .int (nI (w))), (4, .int (cm (k))), (5, .int (cm (3 + k))), (6, .int (nI (S))), (7, .int (nI (1))), (8, .int (nI (j)))] ∧ va_P g.1 cls [(h, .inr (3, fs)), (ad, eI g 288 (fd)), (adm, eI g 2 (dm)), (amd, eI g 1008 (md)), (ab, eI g 6 (bx)), (ac, eI g 6 (cm))] H ∧ va_D A [(h, .inr (3, fs)), (ad, eI g 288 (fd)), (adm, eI g 2 (dm)), (amd, eI g 1008 (md)), (ab, eI g 6 (bx)), (ac, eI g 6 (cm))] ∧ va_S A s.heap H locs) 0 ⟨Nat.zero_le _, fd, dm, md, bx, A0, B0, ⟨rfl, hR0⟩, lv_sub hl [5, 6, 7, 8, 4, 3, 2, 1, 0] rfl, hP, hD.re [h, ad, adm, amd, ab, ac] rfl rfl, hS⟩ (fun n_20 ih_21 j ls locs H hn_j hi_j hX => ?_) (fun _ _ _ _ hX => hX.1)
    obtain ⟨-, fd, dm, md, bx, LA, LB, heq, hl, hP, hD, hS⟩ := hX
    have hjw : j * w ≤ S + w - 1 := (Nat.le_div_iff_mul_le (by omega)).mp hi_j
    have hjj : j ≤ j * w := Nat.le_mul_of_pos_right j hw1
    refine lv_iload hx hb d_M_shape_98 (lv_at hl 8 rfl) ?_
    refine lv_iload_n hx hb d_M_shape_100 rfl (lv_at hl 3 rfl) ?_
    refine jv_imul hx hb d_M_shape_101 ?_
    refine lv_iload hx hb d_M_shape_102 (lv_at hl 6 rfl) ?_
    refine jv_icmp_ge (tgt := 150) hx hb (by omega) (by omega) d_M_shape_104 (by decide) (fun c_22 => ?_) (fun c_22 => ?_)
    · refine lv_iload hx hb d_M_shape_150 (lv_at hl 7 rfl) ?_
      have hP9 := hP.sub (ws' := [(h, .inr (3, fs)), (ad, eI g 288 (fd)), (adm, eI g 2 (dm)), (amd, eI g 1008 (md)), (ab, eI g 6 (bx)), (ac, eI g 6 (cm))]) [0, 1, 2, 3, 4, 5] rfl
      have hD9 := hD.sub (ws' := [(h, .inr (3, fs)), (ad, eI g 288 (fd)), (adm, eI g 2 (dm)), (amd, eI g 1008 (md)), (ab, eI g 6 (bx)), (ac, eI g 6 (cm))]) [0, 1, 2, 3, 4, 5] (by decide) rfl
      exact (W.widen (k := 0) (n := 0) (Nat.le_of_ble_eq_true rfl) (Nat.le_of_ble_eq_true rfl) (W.zret (v := (nI (1))) hx hb hr (by decide) (fun t ht hW => ⟨⟨(nI (1)), (fd, dm, md, bx), rfl, Or.inl ⟨LA, LB, by rw [show j = spN 2 S w from by show j = (S + w - 1) / w; have h9 : ¬ j < (S + w - 1) / w := fun q => absurd ((sl_iff hw1).mp q) (by omega); omega] at heq; exact heq.1, rfl, heq.2⟩, by rw [ht]; exact hP9, hD9.re [h, ad, adm, amd, ab, ac] rfl rfl⟩, hS.F ht⟩) hS.2.2 d_M_shape_152))
    · have hRj := heq.2
      have hNA := hRj.2.2.1
      have hNB := hRj.2.2.2.1
      refine lv_iload hx hb d_M_shape_107 (lv_at hl 7 rfl) ?_
      refine lv_if_eq (tgt := 150) hx hb d_M_shape_109 (by decide) (fun h => absurd h (by decide)) (fun _ => ?_)
      refine lv_aload_n hx hb d_M_shape_112 rfl (lv_at hl 0 rfl) ?_
      refine lv_iload hx hb d_M_shape_113 (lv_at hl 8 rfl) ?_
      refine lv_iconst (v := (nI (2))) hx hb d_M_shape_115 (by decide) ?_
      refine jv_irem hx hb (by omega) (by omega) (by omega) d_M_shape_116 ?_
      rcases Nat.mod_two_eq_zero_or_one j with hj2 | hj2
      · rw [hj2]
        refine lv_iload_n hx hb d_M_shape_117 rfl (lv_at hl 2 rfl) ?_
        refine lv_iload hx hb d_M_shape_118 (lv_at hl 4 rfl) ?_
        refine lv_iload hx hb d_M_shape_120 (lv_at hl 8 rfl) ?_
        refine lv_iload_n hx hb d_M_shape_122 rfl (lv_at hl 3 rfl) ?_
        refine jv_imul hx hb d_M_shape_123 ?_
        refine lv_iadd hx hb d_M_shape_124 ?_
        refine lv_iload hx hb d_M_shape_125 (lv_at hl 5 rfl) ?_
        refine lv_iload hx hb d_M_shape_127 (lv_at hl 4 rfl) ?_
        refine lv_iload hx hb d_M_shape_129 (lv_at hl 8 rfl) ?_
        refine lv_iload_n hx hb d_M_shape_131 rfl (lv_at hl 3 rfl) ?_
        refine jv_imul hx hb d_M_shape_132 ?_
        refine lv_iadd hx hb d_M_shape_133 ?_
        refine lv_iload_n hx hb d_M_shape_134 rfl (lv_at hl 3 rfl) ?_
        refine lv_iadd hx hb d_M_shape_135 ?_
        refine va_calli (va_runS (As := [.int (cm (3 + k)), .int (((cm (k)) + (nI (j * w))) + (nI (w)))]) (rest := [.int ((cm (k)) + (nI (j * w))), .int (nI (k)), .int (nI (0)), .ref h]) ⟨hx, hb, hml, hown, htB⟩ (p_M_less l g z _ (cm (3 + k)) (((cm (k)) + (nI (j * w))) + (nI (w)))) (va_cwS 2 htB (gS kw_543 kw_544 kw_3 g_M_less) rfl rfl rfl (by decide +kernel) ⟨by decide, by decide⟩) (pre_S hS hz ha trivial) rfl rfl hl.1 rfl (lv_room (Nat.le_of_ble_eq_true rfl)) d_M_shape_136 ⟨by decide, by decide⟩) hS (fun q _ h => h.elim) (fun q h => h.elim) (fun r_24 u t H1 locs ht hvm hw hB hz1 hk1 hS => ?_)
        obtain rfl := hB.symm.trans ht
        subst hw
        have hPc := hP.sub (ws' := [(h, .inr (3, fs)), (ad, eI g 288 (fd)), (adm, eI g 2 (dm)), (amd, eI g 1008 (md)), (ab, eI g 6 (bx)), (ac, eI g 6 (cm))]) [0, 1, 2, 3, 4, 5] rfl
        have hDc := hD.sub (ws' := [(h, .inr (3, fs)), (ad, eI g 288 (fd)), (adm, eI g 2 (dm)), (amd, eI g 1008 (md)), (ab, eI g 6 (bx)), (ac, eI g 6 (cm))]) [0, 1, 2, 3, 4, 5] (by decide) rfl
        have hFc := va_free (wc := [(h, .inr (3, fs)), (ad, eI g 288 (fd)), (adm, eI g 2 (dm)), (amd, eI g 1008 (md)), (ab, eI g 6 (bx)), (ac, eI g 6 (cm))]) hD hS hA [0, 1, 2, 3, 4, 5] rfl
        refine va_calli (va_runV (As := [.int (nI (0)), .int (nI (k)), .int ((cm (k)) + (nI (j * w))), .int (mnI (cm (3 + k)) (((cm (k)) + (nI (j * w))) + (nI (w))))]) (rest := []) ⟨hx, hb, hml, hown, htB⟩ (m_M_loses l g z _ h (fs) ad adm amd ab ac (fd) (dm) (md) (bx) (cm) cl (0) (k) ((LA).length) ((cm (k)) + (nI (j * w))) (mnI (cm (3 + k)) (((cm (k)) + (nI (j * w))) + (nI (w))))) (cwV 4 htB (gV kw_569 kw_571 ks_1_9 kw_3 g_M_loses) rfl rfl rfl (by decide +kernel) ⟨Nat.le_of_ble_eq_true rfl, Nat.le_of_ble_eq_true rfl⟩) (pre_V hS hz ha (va_recv ha.1 hP (ci := 3) (q0 := 0) rfl rfl) ⟨hPc, hDc.weaken (fun _ _ _ h => hz _ h), ⟨hf5, hf6, hf7, hf8, hf9, hf10, by omega, hk3, hRj.2.2.1, hRj.1⟩⟩) rfl rfl hl.1 rfl (lv_room (Nat.le_of_ble_eq_true rfl)) d_M_shape_139 ⟨Nat.le_of_ble_eq_true rfl, Nat.le_of_ble_eq_true rfl⟩) hS (fun q _ h => hFc q h) hFc (fun r_25 u_26 t H1 locs ht hvm hw hB hz1 hk1 hS => ?_)
        obtain ⟨hP1, hD1⟩ := hB
        rw [ht] at hP1
        obtain ⟨hP, hD⟩ := va_join (wr := []) (w1 := [(h, .inr (3, fs)), (ad, eI g 288 (if u_26.1 ≤ 24 then va_cpy u_26.2.2 (fd) 0 (144 * 0) (6 * u_26.1) else (fd))), (adm, eI g 2 (if u_26.1 ≤ 24 then upd (dm) 0 (nI u_26.1) else (dm))), (amd, eI g 1008 (u_26.2.2)), (ab, eI g 6 (lsB cm (bx) k ((cm (k)) + (nI (j * w))) (mnI (cm (3 + k)) (((cm (k)) + (nI (j * w))) + (nI (w)))) (if 0 = 0 then cl else nI 0))), (ac, eI g 6 (cm))]) hP hD [0, 1, 2, 3, 4, 5] [] rfl rfl (by decide) (by decide) hk1 hFc hP1 hD1
        clear hPc hDc hFc hP1 hD1 hk1 hz1 hvm ht
        generalize H1 = H at hP hS ⊢
        have hP : va_P g.1 cls [(h, .inr (3, fs)), (ad, eI g 288 (if u_26.1 ≤ 24 then va_cpy u_26.2.2 (fd) 0 (144 * 0) (6 * u_26.1) else (fd))), (adm, eI g 2 (if u_26.1 ≤ 24 then upd (dm) 0 (nI u_26.1) else (dm))), (amd, eI g 1008 (u_26.2.2)), (ab, eI g 6 (lsB cm (bx) k ((cm (k)) + (nI (j * w))) (mnI (cm (3 + k)) (((cm (k)) + (nI (j * w))) + (nI (w)))) (if 0 = 0 then cl else nI 0))), (ac, eI g 6 (cm))] H := hP
        have hD : va_D A [(h, .inr (3, fs)), (ad, eI g 288 (if u_26.1 ≤ 24 then va_cpy u_26.2.2 (fd) 0 (144 * 0) (6 * u_26.1) else (fd))), (adm, eI g 2 (if u_26.1 ≤ 24 then upd (dm) 0 (nI u_26.1) else (dm))), (amd, eI g 1008 (u_26.2.2)), (ab, eI g 6 (lsB cm (bx) k ((cm (k)) + (nI (j * w))) (mnI (cm (3 + k)) (((cm (k)) + (nI (j * w))) + (nI (w)))) (if 0 = 0 then cl else nI 0))), (ac, eI g 6 (cm))] := hD
        obtain ⟨hu1, hu2, hu3⟩ := hw
        subst hu2
        have hT : gb (lsB cm (bx) k ((cm (k)) + (nI (j * w))) (mnI (cm (3 + k)) (((cm (k)) + (nI (j * w))) + (nI (w)))) (if 0 = 0 then cl else nI 0)) 0 = lb cm k (if 0 = 0 then cl else nI 0) (j * w) (min S ((j + 1) * w)) := lsB_lb hk3 (rfl) (fing_end hcm hw2 (by omega))
        obtain ⟨e1, e2⟩ := lo_R0 hRj hu1
        rw [hT] at e1 e2
        clear hu1 hu3 hT
        obtain ⟨bx27, hbx27⟩ : ∃ x : Nat → Int32, x = lsB cm (bx) k ((cm (k)) + (nI (j * w))) (mnI (cm (3 + k)) (((cm (k)) + (nI (j * w))) + (nI (w)))) (if 0 = 0 then cl else nI 0) := ⟨_, rfl⟩
        rw [← hbx27] at hP hD
        clear hbx27
        by_cases c_28 : u_26.1 ≤ 24
        · rw [if_pos c_28, if_pos c_28] at hP hD
          rw [if_pos c_28]
          have hR27 := e2 c_28
          have hq27 : (cutL (lb cm k cl (j * w) (min S ((j + 1) * w))) (LA)).length ≤ 24 := e1 ▸ c_28
          clear e1 e2
          obtain ⟨fd27, dm27, hfd27⟩ : ∃ x y : Nat → Int32, (x, y) = (va_cpy u_26.2.2 (fd) 0 (144 * 0) (6 * u_26.1), upd (dm) 0 (nI u_26.1)) := ⟨_, _, rfl⟩
          rw [show va_cpy u_26.2.2 (fd) 0 (144 * 0) (6 * u_26.1) = fd27 from (congrArg (fun x => x.1) hfd27).symm, show upd (dm) 0 (nI u_26.1) = dm27 from (congrArg (fun x => x.2) hfd27).symm] at hP hD hR27
          clear hfd27
          obtain ⟨LN27, hLN27⟩ : ∃ x : List Bx, (x, ()) = (cutL (lb cm k cl (j * w) (min S ((j + 1) * w))) (LA), ()) := ⟨_, rfl⟩
          have hLE27 : LN27 = cutL (lb cm k cl (j * w) (min S ((j + 1) * w))) (LA) := congrArg (fun x => x.1) hLN27
          have hR27 : dR fd27 dm27 LN27 (LB) := by rw [hLE27]; exact hR27
          have hN27 := hR27.2.2.1
          have hP : va_P g.1 cls [(h, .inr (3, fs)), (ad, eI g 288 (fd27)), (adm, eI g 2 (dm27)), (amd, eI g 1008 (u_26.2.2)), (ab, eI g 6 (bx27)), (ac, eI g 6 (cm))] H := hP
          have hD : va_D A [(h, .inr (3, fs)), (ad, eI g 288 (fd27)), (adm, eI g 2 (dm27)), (amd, eI g 1008 (u_26.2.2)), (ab, eI g 6 (bx27)), (ac, eI g 6 (cm))] := hD
          refine lv_istore (lv' := [(7, .int (nI (1))), (0, .ref h), (1, .int (nI (2))), (2, .int (nI (k))), (3, .int (nI (w))), (4, .int (cm (k))), (5, .int (cm (3 + k))), (6, .int (nI (S))), (8, .int (nI (j)))]) hx hb d_M_shape_142 hl (by decide) rfl (fun ls hl => ?_)
          refine lv_iinc (v := nI (j + 1)) (lv' := [(8, .int (nI (j + 1))), (7, .int (nI (1))), (0, .ref h), (1, .int (nI (2))), (2, .int (nI (k))), (3, .int (nI (w))), (4, .int (cm (k))), (5, .int (cm (3 + k))), (6, .int (nI (S)))]) hx hb d_M_shape_144 hl (k := 8) rfl (nI_add _ 1) (by decide) rfl (fun ls hl => ?_)
          refine lv_goto (tgt := 98) hx hb d_M_shape_147 (by decide) ?_
          have hm := fing_mk hw1 (show j * w < S by omega)
          have hsq : seq2 (spl cm k cl true (mkN 2 S w) (j + 1)) (A0, B0) = some (LN27, LB) := by rw [stp_t heq.1 (show tb true j = true from by unfold tb; rw [hj2]; rfl), hm.1, hm.2, if_pos hq27, hLE27]
          have hj9 := (sl_iff (S := S) (j := j) hw1).mpr (by omega)
          exact ih_21 (j + 1) ls locs H (by omega) ⟨by omega, fd27, dm27, u_26.2.2, bx27, LN27, LB, ⟨hsq, hR27⟩, lv_sub (l' := [(0, .ref h), (1, .int (nI (2))), (2, .int (nI (k))), (3, .int (nI (w))), (4, .int (cm (k))), (5, .int (cm (3 + k))), (6, .int (nI (S))), (7, .int (nI (1))), (8, .int (nI (j + 1)))]) hl [2, 3, 4, 5, 6, 7, 8, 1, 0] rfl, hP.sub (ws' := [(h, .inr (3, fs)), (ad, eI g 288 (fd27)), (adm, eI g 2 (dm27)), (amd, eI g 1008 (u_26.2.2)), (ab, eI g 6 (bx27)), (ac, eI g 6 (cm))]) [0, 1, 2, 3, 4, 5] rfl, (hD.sub (ws' := [(h, .inr (3, fs)), (ad, eI g 288 (fd27)), (adm, eI g 2 (dm27)), (amd, eI g 1008 (u_26.2.2)), (ab, eI g 6 (bx27)), (ac, eI g 6 (cm))]) [0, 1, 2, 3, 4, 5] (by decide) rfl).re [h, ad, adm, amd, ab, ac] rfl rfl, hS⟩
        · rw [if_neg c_28, if_neg c_28] at hP hD
          rw [if_neg c_28]
          have hq27 : ¬ (cutL (lb cm k cl (j * w) (min S ((j + 1) * w))) (LA)).length ≤ 24 := e1 ▸ c_28
          have hP : va_P g.1 cls [(h, .inr (3, fs)), (ad, eI g 288 (fd)), (adm, eI g 2 (dm)), (amd, eI g 1008 (u_26.2.2)), (ab, eI g 6 (bx27)), (ac, eI g 6 (cm))] H := hP
          have hD : va_D A [(h, .inr (3, fs)), (ad, eI g 288 (fd)), (adm, eI g 2 (dm)), (amd, eI g 1008 (u_26.2.2)), (ab, eI g 6 (bx27)), (ac, eI g 6 (cm))] := hD
          refine lv_istore (lv' := [(7, .int (nI (0))), (0, .ref h), (1, .int (nI (2))), (2, .int (nI (k))), (3, .int (nI (w))), (4, .int (cm (k))), (5, .int (cm (3 + k))), (6, .int (nI (S))), (8, .int (nI (j)))]) hx hb d_M_shape_142 hl (by decide) rfl (fun ls hl => ?_)
          refine lv_iinc (v := nI (j + 1)) (lv' := [(8, .int (nI (j + 1))), (7, .int (nI (0))), (0, .ref h), (1, .int (nI (2))), (2, .int (nI (k))), (3, .int (nI (w))), (4, .int (cm (k))), (5, .int (cm (3 + k))), (6, .int (nI (S)))]) hx hb d_M_shape_144 hl (k := 8) rfl (nI_add _ 1) (by decide) rfl (fun ls hl => ?_)
          refine lv_goto (tgt := 98) hx hb d_M_shape_147 (by decide) ?_
          have hjw2 : (j + 1) * w ≤ 10000 := by rw [Nat.succ_mul]; omega
          refine lv_iload hx hb d_M_shape_98 (lv_at hl 0 rfl) ?_
          refine lv_iload_n hx hb d_M_shape_100 rfl (lv_at hl 5 rfl) ?_
          refine jv_imul hx hb d_M_shape_101 ?_
          refine lv_iload hx hb d_M_shape_102 (lv_at hl 8 rfl) ?_
          refine jv_icmp_ge (tgt := 150) hx hb (by omega) (by omega) d_M_shape_104 (by decide) (fun c_29 => ?_) (fun c_29 => ?_)
          · refine lv_iload hx hb d_M_shape_150 (lv_at hl 1 rfl) ?_
            have hP9 := hP.sub (ws' := [(h, .inr (3, fs)), (ad, eI g 288 (fd)), (adm, eI g 2 (dm)), (amd, eI g 1008 (u_26.2.2)), (ab, eI g 6 (bx27)), (ac, eI g 6 (cm))]) [0, 1, 2, 3, 4, 5] rfl
            have hD9 := hD.sub (ws' := [(h, .inr (3, fs)), (ad, eI g 288 (fd)), (adm, eI g 2 (dm)), (amd, eI g 1008 (u_26.2.2)), (ab, eI g 6 (bx27)), (ac, eI g 6 (cm))]) [0, 1, 2, 3, 4, 5] (by decide) rfl
            exact (W.widen (k := 0) (n := 0) (Nat.le_of_ble_eq_true rfl) (Nat.le_of_ble_eq_true rfl) (W.zret (v := (nI (0))) hx hb hr (by decide) (fun t ht hW => ⟨⟨(nI (0)), (fd, dm, u_26.2.2, bx27), rfl, Or.inr ⟨spl_none (i := j + 1) (by show seq2 (spl cm k cl true (mkN 2 S w) (j + 1)) (A0, B0) = none; rw [stp_t heq.1 (show tb true j = true from by unfold tb; rw [hj2]; rfl), (fing_mk hw1 (show j * w < S by omega)).1, (fing_mk hw1 (show j * w < S by omega)).2]; exact if_neg hq27) _ (by show j + 1 ≤ (S + w - 1) / w; have := (sl_iff (S := S) (j := j) hw1).mpr (by omega); omega), rfl⟩, by rw [ht]; exact hP9, hD9.re [h, ad, adm, amd, ab, ac] rfl rfl⟩, hS.F ht⟩) hS.2.2 d_M_shape_152))
          · have hRj := heq.2
            have hNA := hRj.2.2.1
            have hNB := hRj.2.2.2.1
            refine lv_iload hx hb d_M_shape_107 (lv_at hl 1 rfl) ?_
            refine lv_if_eq (tgt := 150) hx hb d_M_shape_109 (by decide) (fun _ => ?_) (fun h => absurd h (by decide))
            refine lv_iload hx hb d_M_shape_150 (lv_at hl 1 rfl) ?_
            have hP9 := hP.sub (ws' := [(h, .inr (3, fs)), (ad, eI g 288 (fd)), (adm, eI g 2 (dm)), (amd, eI g 1008 (u_26.2.2)), (ab, eI g 6 (bx27)), (ac, eI g 6 (cm))]) [0, 1, 2, 3, 4, 5] rfl
            have hD9 := hD.sub (ws' := [(h, .inr (3, fs)), (ad, eI g 288 (fd)), (adm, eI g 2 (dm)), (amd, eI g 1008 (u_26.2.2)), (ab, eI g 6 (bx27)), (ac, eI g 6 (cm))]) [0, 1, 2, 3, 4, 5] (by decide) rfl
            exact (W.widen (k := 0) (n := 0) (Nat.le_of_ble_eq_true rfl) (Nat.le_of_ble_eq_true rfl) (W.zret (v := (nI (0))) hx hb hr (by decide) (fun t ht hW => ⟨⟨(nI (0)), (fd, dm, u_26.2.2, bx27), rfl, Or.inr ⟨spl_none (i := j + 1) (by show seq2 (spl cm k cl true (mkN 2 S w) (j + 1)) (A0, B0) = none; rw [stp_t heq.1 (show tb true j = true from by unfold tb; rw [hj2]; rfl), (fing_mk hw1 (show j * w < S by omega)).1, (fing_mk hw1 (show j * w < S by omega)).2]; exact if_neg hq27) _ (by show j + 1 ≤ (S + w - 1) / w; have := (sl_iff (S := S) (j := j) hw1).mpr (by omega); omega), rfl⟩, by rw [ht]; exact hP9, hD9.re [h, ad, adm, amd, ab, ac] rfl rfl⟩, hS.F ht⟩) hS.2.2 d_M_shape_152))
      · rw [hj2]
        refine lv_iload_n hx hb d_M_shape_117 rfl (lv_at hl 2 rfl) ?_
        refine lv_iload hx hb d_M_shape_118 (lv_at hl 4 rfl) ?_
        refine lv_iload hx hb d_M_shape_120 (lv_at hl 8 rfl) ?_
        refine lv_iload_n hx hb d_M_shape_122 rfl (lv_at hl 3 rfl) ?_
        refine jv_imul hx hb d_M_shape_123 ?_
        refine lv_iadd hx hb d_M_shape_124 ?_
        refine lv_iload hx hb d_M_shape_125 (lv_at hl 5 rfl) ?_
        refine lv_iload hx hb d_M_shape_127 (lv_at hl 4 rfl) ?_
        refine lv_iload hx hb d_M_shape_129 (lv_at hl 8 rfl) ?_
        refine lv_iload_n hx hb d_M_shape_131 rfl (lv_at hl 3 rfl) ?_
        refine jv_imul hx hb d_M_shape_132 ?_
        refine lv_iadd hx hb d_M_shape_133 ?_
        refine lv_iload_n hx hb d_M_shape_134 rfl (lv_at hl 3 rfl) ?_
        refine lv_iadd hx hb d_M_shape_135 ?_
        refine va_calli (va_runS (As := [.int (cm (3 + k)), .int (((cm (k)) + (nI (j * w))) + (nI (w)))]) (rest := [.int ((cm (k)) + (nI (j * w))), .int (nI (k)), .int (nI (1)), .ref h]) ⟨hx, hb, hml, hown, htB⟩ (p_M_less l g z _ (cm (3 + k)) (((cm (k)) + (nI (j * w))) + (nI (w)))) (va_cwS 2 htB (gS kw_543 kw_544 kw_3 g_M_less) rfl rfl rfl (by decide +kernel) ⟨by decide, by decide⟩) (pre_S hS hz ha trivial) rfl rfl hl.1 rfl (lv_room (Nat.le_of_ble_eq_true rfl)) d_M_shape_136 ⟨by decide, by decide⟩) hS (fun q _ h => h.elim) (fun q h => h.elim) (fun r_31 u t H1 locs ht hvm hw hB hz1 hk1 hS => ?_)
        obtain rfl := hB.symm.trans ht
        subst hw
        have hPc := hP.sub (ws' := [(h, .inr (3, fs)), (ad, eI g 288 (fd)), (adm, eI g 2 (dm)), (amd, eI g 1008 (md)), (ab, eI g 6 (bx)), (ac, eI g 6 (cm))]) [0, 1, 2, 3, 4, 5] rfl
        have hDc := hD.sub (ws' := [(h, .inr (3, fs)), (ad, eI g 288 (fd)), (adm, eI g 2 (dm)), (amd, eI g 1008 (md)), (ab, eI g 6 (bx)), (ac, eI g 6 (cm))]) [0, 1, 2, 3, 4, 5] (by decide) rfl
        have hFc := va_free (wc := [(h, .inr (3, fs)), (ad, eI g 288 (fd)), (adm, eI g 2 (dm)), (amd, eI g 1008 (md)), (ab, eI g 6 (bx)), (ac, eI g 6 (cm))]) hD hS hA [0, 1, 2, 3, 4, 5] rfl
        refine va_calli (va_runV (As := [.int (nI (1)), .int (nI (k)), .int ((cm (k)) + (nI (j * w))), .int (mnI (cm (3 + k)) (((cm (k)) + (nI (j * w))) + (nI (w))))]) (rest := []) ⟨hx, hb, hml, hown, htB⟩ (m_M_loses l g z _ h (fs) ad adm amd ab ac (fd) (dm) (md) (bx) (cm) cl (1) (k) ((LB).length) ((cm (k)) + (nI (j * w))) (mnI (cm (3 + k)) (((cm (k)) + (nI (j * w))) + (nI (w))))) (cwV 4 htB (gV kw_569 kw_571 ks_1_9 kw_3 g_M_loses) rfl rfl rfl (by decide +kernel) ⟨Nat.le_of_ble_eq_true rfl, Nat.le_of_ble_eq_true rfl⟩) (pre_V hS hz ha (va_recv ha.1 hP (ci := 3) (q0 := 0) rfl rfl) ⟨hPc, hDc.weaken (fun _ _ _ h => hz _ h), ⟨hf5, hf6, hf7, hf8, hf9, hf10, by omega, hk3, hRj.2.2.2.1, hRj.2.1⟩⟩) rfl rfl hl.1 rfl (lv_room (Nat.le_of_ble_eq_true rfl)) d_M_shape_139 ⟨Nat.le_of_ble_eq_true rfl, Nat.le_of_ble_eq_true rfl⟩) hS (fun q _ h => hFc q h) hFc (fun r_32 u_33 t H1 locs ht hvm hw hB hz1 hk1 hS => ?_)
        obtain ⟨hP1, hD1⟩ := hB
        rw [ht] at hP1
        obtain ⟨hP, hD⟩ := va_join (wr := []) (w1 := [(h, .inr (3, fs)), (ad, eI g 288 (if u_33.1 ≤ 24 then va_cpy u_33.2.2 (fd) 0 (144 * 1) (6 * u_33.1) else (fd))), (adm, eI g 2 (if u_33.1 ≤ 24 then upd (dm) 1 (nI u_33.1) else (dm))), (amd, eI g 1008 (u_33.2.2)), (ab, eI g 6 (lsB cm (bx) k ((cm (k)) + (nI (j * w))) (mnI (cm (3 + k)) (((cm (k)) + (nI (j * w))) + (nI (w)))) (if 1 = 0 then cl else nI 0))), (ac, eI g 6 (cm))]) hP hD [0, 1, 2, 3, 4, 5] [] rfl rfl (by decide) (by decide) hk1 hFc hP1 hD1
        clear hPc hDc hFc hP1 hD1 hk1 hz1 hvm ht
        generalize H1 = H at hP hS ⊢
        have hP : va_P g.1 cls [(h, .inr (3, fs)), (ad, eI g 288 (if u_33.1 ≤ 24 then va_cpy u_33.2.2 (fd) 0 (144 * 1) (6 * u_33.1) else (fd))), (adm, eI g 2 (if u_33.1 ≤ 24 then upd (dm) 1 (nI u_33.1) else (dm))), (amd, eI g 1008 (u_33.2.2)), (ab, eI g 6 (lsB cm (bx) k ((cm (k)) + (nI (j * w))) (mnI (cm (3 + k)) (((cm (k)) + (nI (j * w))) + (nI (w)))) (if 1 = 0 then cl else nI 0))), (ac, eI g 6 (cm))] H := hP
        have hD : va_D A [(h, .inr (3, fs)), (ad, eI g 288 (if u_33.1 ≤ 24 then va_cpy u_33.2.2 (fd) 0 (144 * 1) (6 * u_33.1) else (fd))), (adm, eI g 2 (if u_33.1 ≤ 24 then upd (dm) 1 (nI u_33.1) else (dm))), (amd, eI g 1008 (u_33.2.2)), (ab, eI g 6 (lsB cm (bx) k ((cm (k)) + (nI (j * w))) (mnI (cm (3 + k)) (((cm (k)) + (nI (j * w))) + (nI (w)))) (if 1 = 0 then cl else nI 0))), (ac, eI g 6 (cm))] := hD
        obtain ⟨hu1, hu2, hu3⟩ := hw
        subst hu2
        have hT : gb (lsB cm (bx) k ((cm (k)) + (nI (j * w))) (mnI (cm (3 + k)) (((cm (k)) + (nI (j * w))) + (nI (w)))) (if 1 = 0 then cl else nI 0)) 0 = lb cm k (if 1 = 0 then cl else nI 0) (j * w) (min S ((j + 1) * w)) := lsB_lb hk3 (rfl) (fing_end hcm hw2 (by omega))
        obtain ⟨e1, e2⟩ := lo_R1 hRj hu1
        rw [hT] at e1 e2
        clear hu1 hu3 hT
        obtain ⟨bx34, hbx34⟩ : ∃ x : Nat → Int32, x = lsB cm (bx) k ((cm (k)) + (nI (j * w))) (mnI (cm (3 + k)) (((cm (k)) + (nI (j * w))) + (nI (w)))) (if 1 = 0 then cl else nI 0) := ⟨_, rfl⟩
        rw [← hbx34] at hP hD
        clear hbx34
        by_cases c_35 : u_33.1 ≤ 24
        · rw [if_pos c_35, if_pos c_35] at hP hD
          rw [if_pos c_35]
          have hR34 := e2 c_35
          have hq34 : (cutL (lb cm k (nI 0) (j * w) (min S ((j + 1) * w))) (LB)).length ≤ 24 := e1 ▸ c_35
          clear e1 e2
          obtain ⟨fd34, dm34, hfd34⟩ : ∃ x y : Nat → Int32, (x, y) = (va_cpy u_33.2.2 (fd) 0 (144 * 1) (6 * u_33.1), upd (dm) 1 (nI u_33.1)) := ⟨_, _, rfl⟩
          rw [show va_cpy u_33.2.2 (fd) 0 (144 * 1) (6 * u_33.1) = fd34 from (congrArg (fun x => x.1) hfd34).symm, show upd (dm) 1 (nI u_33.1) = dm34 from (congrArg (fun x => x.2) hfd34).symm] at hP hD hR34
          clear hfd34
          obtain ⟨LN34, hLN34⟩ : ∃ x : List Bx, (x, ()) = (cutL (lb cm k (nI 0) (j * w) (min S ((j + 1) * w))) (LB), ()) := ⟨_, rfl⟩
          have hLE34 : LN34 = cutL (lb cm k (nI 0) (j * w) (min S ((j + 1) * w))) (LB) := congrArg (fun x => x.1) hLN34
          have hR34 : dR fd34 dm34 (LA) LN34 := by rw [hLE34]; exact hR34
          have hN34 := hR34.2.2.2.1
          have hP : va_P g.1 cls [(h, .inr (3, fs)), (ad, eI g 288 (fd34)), (adm, eI g 2 (dm34)), (amd, eI g 1008 (u_33.2.2)), (ab, eI g 6 (bx34)), (ac, eI g 6 (cm))] H := hP
          have hD : va_D A [(h, .inr (3, fs)), (ad, eI g 288 (fd34)), (adm, eI g 2 (dm34)), (amd, eI g 1008 (u_33.2.2)), (ab, eI g 6 (bx34)), (ac, eI g 6 (cm))] := hD
          refine lv_istore (lv' := [(7, .int (nI (1))), (0, .ref h), (1, .int (nI (2))), (2, .int (nI (k))), (3, .int (nI (w))), (4, .int (cm (k))), (5, .int (cm (3 + k))), (6, .int (nI (S))), (8, .int (nI (j)))]) hx hb d_M_shape_142 hl (by decide) rfl (fun ls hl => ?_)
          refine lv_iinc (v := nI (j + 1)) (lv' := [(8, .int (nI (j + 1))), (7, .int (nI (1))), (0, .ref h), (1, .int (nI (2))), (2, .int (nI (k))), (3, .int (nI (w))), (4, .int (cm (k))), (5, .int (cm (3 + k))), (6, .int (nI (S)))]) hx hb d_M_shape_144 hl (k := 8) rfl (nI_add _ 1) (by decide) rfl (fun ls hl => ?_)
          refine lv_goto (tgt := 98) hx hb d_M_shape_147 (by decide) ?_
          have hm := fing_mk hw1 (show j * w < S by omega)
          have hsq : seq2 (spl cm k cl true (mkN 2 S w) (j + 1)) (A0, B0) = some (LA, LN34) := by rw [stp_f heq.1 (show tb true j = false from by unfold tb; rw [hj2]; rfl), hm.1, hm.2, if_pos hq34, hLE34]
          have hj9 := (sl_iff (S := S) (j := j) hw1).mpr (by omega)
          exact ih_21 (j + 1) ls locs H (by omega) ⟨by omega, fd34, dm34, u_33.2.2, bx34, LA, LN34, ⟨hsq, hR34⟩, lv_sub (l' := [(0, .ref h), (1, .int (nI (2))), (2, .int (nI (k))), (3, .int (nI (w))), (4, .int (cm (k))), (5, .int (cm (3 + k))), (6, .int (nI (S))), (7, .int (nI (1))), (8, .int (nI (j + 1)))]) hl [2, 3, 4, 5, 6, 7, 8, 1, 0] rfl, hP.sub (ws' := [(h, .inr (3, fs)), (ad, eI g 288 (fd34)), (adm, eI g 2 (dm34)), (amd, eI g 1008 (u_33.2.2)), (ab, eI g 6 (bx34)), (ac, eI g 6 (cm))]) [0, 1, 2, 3, 4, 5] rfl, (hD.sub (ws' := [(h, .inr (3, fs)), (ad, eI g 288 (fd34)), (adm, eI g 2 (dm34)), (amd, eI g 1008 (u_33.2.2)), (ab, eI g 6 (bx34)), (ac, eI g 6 (cm))]) [0, 1, 2, 3, 4, 5] (by decide) rfl).re [h, ad, adm, amd, ab, ac] rfl rfl, hS⟩
        · rw [if_neg c_35, if_neg c_35] at hP hD
          rw [if_neg c_35]
          have hq34 : ¬ (cutL (lb cm k (nI 0) (j * w) (min S ((j + 1) * w))) (LB)).length ≤ 24 := e1 ▸ c_35
          have hP : va_P g.1 cls [(h, .inr (3, fs)), (ad, eI g 288 (fd)), (adm, eI g 2 (dm)), (amd, eI g 1008 (u_33.2.2)), (ab, eI g 6 (bx34)), (ac, eI g 6 (cm))] H := hP
          have hD : va_D A [(h, .inr (3, fs)), (ad, eI g 288 (fd)), (adm, eI g 2 (dm)), (amd, eI g 1008 (u_33.2.2)), (ab, eI g 6 (bx34)), (ac, eI g 6 (cm))] := hD
          refine lv_istore (lv' := [(7, .int (nI (0))), (0, .ref h), (1, .int (nI (2))), (2, .int (nI (k))), (3, .int (nI (w))), (4, .int (cm (k))), (5, .int (cm (3 + k))), (6, .int (nI (S))), (8, .int (nI (j)))]) hx hb d_M_shape_142 hl (by decide) rfl (fun ls hl => ?_)
          refine lv_iinc (v := nI (j + 1)) (lv' := [(8, .int (nI (j + 1))), (7, .int (nI (0))), (0, .ref h), (1, .int (nI (2))), (2, .int (nI (k))), (3, .int (nI (w))), (4, .int (cm (k))), (5, .int (cm (3 + k))), (6, .int (nI (S)))]) hx hb d_M_shape_144 hl (k := 8) rfl (nI_add _ 1) (by decide) rfl (fun ls hl => ?_)
          refine lv_goto (tgt := 98) hx hb d_M_shape_147 (by decide) ?_
          have hjw2 : (j + 1) * w ≤ 10000 := by rw [Nat.succ_mul]; omega
          refine lv_iload hx hb d_M_shape_98 (lv_at hl 0 rfl) ?_
          refine lv_iload_n hx hb d_M_shape_100 rfl (lv_at hl 5 rfl) ?_
          refine jv_imul hx hb d_M_shape_101 ?_
          refine lv_iload hx hb d_M_shape_102 (lv_at hl 8 rfl) ?_
          refine jv_icmp_ge (tgt := 150) hx hb (by omega) (by omega) d_M_shape_104 (by decide) (fun c_36 => ?_) (fun c_36 => ?_)
          · refine lv_iload hx hb d_M_shape_150 (lv_at hl 1 rfl) ?_
            have hP9 := hP.sub (ws' := [(h, .inr (3, fs)), (ad, eI g 288 (fd)), (adm, eI g 2 (dm)), (amd, eI g 1008 (u_33.2.2)), (ab, eI g 6 (bx34)), (ac, eI g 6 (cm))]) [0, 1, 2, 3, 4, 5] rfl
            have hD9 := hD.sub (ws' := [(h, .inr (3, fs)), (ad, eI g 288 (fd)), (adm, eI g 2 (dm)), (amd, eI g 1008 (u_33.2.2)), (ab, eI g 6 (bx34)), (ac, eI g 6 (cm))]) [0, 1, 2, 3, 4, 5] (by decide) rfl
            exact (W.widen (k := 0) (n := 0) (Nat.le_of_ble_eq_true rfl) (Nat.le_of_ble_eq_true rfl) (W.zret (v := (nI (0))) hx hb hr (by decide) (fun t ht hW => ⟨⟨(nI (0)), (fd, dm, u_33.2.2, bx34), rfl, Or.inr ⟨spl_none (i := j + 1) (by show seq2 (spl cm k cl true (mkN 2 S w) (j + 1)) (A0, B0) = none; rw [stp_f heq.1 (show tb true j = false from by unfold tb; rw [hj2]; rfl), (fing_mk hw1 (show j * w < S by omega)).1, (fing_mk hw1 (show j * w < S by omega)).2]; exact if_neg hq34) _ (by show j + 1 ≤ (S + w - 1) / w; have := (sl_iff (S := S) (j := j) hw1).mpr (by omega); omega), rfl⟩, by rw [ht]; exact hP9, hD9.re [h, ad, adm, amd, ab, ac] rfl rfl⟩, hS.F ht⟩) hS.2.2 d_M_shape_152))
          · have hRj := heq.2
            have hNA := hRj.2.2.1
            have hNB := hRj.2.2.2.1
            refine lv_iload hx hb d_M_shape_107 (lv_at hl 1 rfl) ?_
            refine lv_if_eq (tgt := 150) hx hb d_M_shape_109 (by decide) (fun _ => ?_) (fun h => absurd h (by decide))
            refine lv_iload hx hb d_M_shape_150 (lv_at hl 1 rfl) ?_
            have hP9 := hP.sub (ws' := [(h, .inr (3, fs)), (ad, eI g 288 (fd)), (adm, eI g 2 (dm)), (amd, eI g 1008 (u_33.2.2)), (ab, eI g 6 (bx34)), (ac, eI g 6 (cm))]) [0, 1, 2, 3, 4, 5] rfl
            have hD9 := hD.sub (ws' := [(h, .inr (3, fs)), (ad, eI g 288 (fd)), (adm, eI g 2 (dm)), (amd, eI g 1008 (u_33.2.2)), (ab, eI g 6 (bx34)), (ac, eI g 6 (cm))]) [0, 1, 2, 3, 4, 5] (by decide) rfl
            exact (W.widen (k := 0) (n := 0) (Nat.le_of_ble_eq_true rfl) (Nat.le_of_ble_eq_true rfl) (W.zret (v := (nI (0))) hx hb hr (by decide) (fun t ht hW => ⟨⟨(nI (0)), (fd, dm, u_33.2.2, bx34), rfl, Or.inr ⟨spl_none (i := j + 1) (by show seq2 (spl cm k cl true (mkN 2 S w) (j + 1)) (A0, B0) = none; rw [stp_f heq.1 (show tb true j = false from by unfold tb; rw [hj2]; rfl), (fing_mk hw1 (show j * w < S by omega)).1, (fing_mk hw1 (show j * w < S by omega)).2]; exact if_neg hq34) _ (by show j + 1 ≤ (S + w - 1) / w; have := (sl_iff (S := S) (j := j) hw1).mpr (by omega); omega), rfl⟩, by rw [ht]; exact hP9, hD9.re [h, ad, adm, amd, ab, ac] rfl rfl⟩, hS.F ht⟩) hS.2.2 d_M_shape_152))
  · refine lv_aload_n hx hb d_M_shape_0 rfl (lv_at hl 0 rfl) ?_
    refine va_get (D := g.1) (ci := 3) (v := .ref ac) (C := R_M) (T := F_M) (N := 19) hx hb htB in_M hown ha.1 hP 0 rfl rfl 9 (by decide) (htB _ kw_451) (fun _ h9 => h9) hf9 d_M_shape_1 ?_
    refine lv_iload_n hx hb d_M_shape_4 rfl (lv_at hl 2 rfl) ?_
    refine ja_ald (k := k) hx hb ha.1 hP 5 0 rfl rfl (by omega) (by omega) d_M_shape_5 ?_
    refine lv_istore (lv' := [(4, .int (cm (k))), (0, .ref h), (1, .int (nI (3))), (2, .int (nI (k))), (3, .int (nI (w)))]) hx hb d_M_shape_6 hl (by decide) rfl (fun ls hl => ?_)
    refine lv_aload_n hx hb d_M_shape_8 rfl (lv_at hl 1 rfl) ?_
    refine va_get (D := g.1) (ci := 3) (v := .ref ac) (C := R_M) (T := F_M) (N := 19) hx hb htB in_M hown ha.1 hP 0 rfl rfl 9 (by decide) (htB _ kw_451) (fun _ h9 => h9) hf9 d_M_shape_9 ?_
    refine lv_iconst (v := (nI (3))) hx hb d_M_shape_12 (by decide) ?_
    refine lv_iload_n hx hb d_M_shape_13 rfl (lv_at hl 3 rfl) ?_
    refine jv_iadd hx hb d_M_shape_14 ?_
    refine ja_ald (k := 3 + k) hx hb ha.1 hP 5 0 rfl rfl (by omega) (by omega) d_M_shape_15 ?_
    refine lv_istore (lv' := [(5, .int (cm (3 + k))), (4, .int (cm (k))), (0, .ref h), (1, .int (nI (3))), (2, .int (nI (k))), (3, .int (nI (w)))]) hx hb d_M_shape_16 hl (by decide) rfl (fun ls hl => ?_)
    refine lv_iload hx hb d_M_shape_18 (lv_at hl 0 rfl) ?_
    refine lv_iload hx hb d_M_shape_20 (lv_at hl 1 rfl) ?_
    refine lv_isub hx hb d_M_shape_22 ?_
    rw [hSz]
    refine lv_istore (lv' := [(6, .int (nI (S))), (5, .int (cm (3 + k))), (4, .int (cm (k))), (0, .ref h), (1, .int (nI (3))), (2, .int (nI (k))), (3, .int (nI (w)))]) hx hb d_M_shape_23 hl (by decide) rfl (fun ls hl => ?_)
    refine lv_iload_n hx hb d_M_shape_25 rfl (lv_at hl 4 rfl) ?_
    refine lv_if_ne (tgt := 71) hx hb d_M_shape_26 (by decide) (fun _ => ?_) (fun h => absurd h (by decide))
    refine lv_iload_n hx hb d_M_shape_71 rfl (lv_at hl 4 rfl) ?_
    refine lv_iconst (v := (nI (1))) hx hb d_M_shape_72 (by decide) ?_
    refine jv_icmp_ne (tgt := 87) hx hb (by omega) (by omega) d_M_shape_73 (by decide) (fun _ => ?_) (fun h => absurd h (by decide))
    refine lv_iload_n hx hb d_M_shape_87 rfl (lv_at hl 4 rfl) ?_
    refine lv_iconst (v := (nI (2))) hx hb d_M_shape_88 (by decide) ?_
    refine jv_icmp_ne (tgt := 153) hx hb (by omega) (by omega) d_M_shape_89 (by decide) (fun _ => ?_) (fun h => absurd h (by decide))
    refine lv_iload hx hb d_M_shape_153 (lv_at hl 0 rfl) ?_
    refine lv_iconst (v := (nI (3))) hx hb d_M_shape_155 (by decide) ?_
    refine jv_idiv hx hb (by omega) (by omega) (by omega) d_M_shape_156 ?_
    refine lv_istore (lv' := [(7, .int (nI ((S) / 3))), (6, .int (nI (S))), (5, .int (cm (3 + k))), (4, .int (cm (k))), (0, .ref h), (1, .int (nI (3))), (2, .int (nI (k))), (3, .int (nI (w)))]) hx hb d_M_shape_157 hl (by decide) rfl (fun ls hl => ?_)
    refine lv_iload_n hx hb d_M_shape_159 rfl (lv_at hl 5 rfl) ?_
    refine lv_iconst (v := (nI (3))) hx hb d_M_shape_160 (by decide) ?_
    refine jv_icmp_ne (tgt := 168) hx hb (by omega) (by omega) d_M_shape_161 (by decide) (fun h => absurd h (by decide)) (fun _ => ?_)
    refine lv_iconst (v := (nI (0))) hx hb d_M_shape_164 (by decide) ?_
    refine lv_goto (tgt := 169) hx hb d_M_shape_165 (by decide) ?_
    refine lv_istore (lv' := [(8, .int (nI (0))), (7, .int (nI ((S) / 3))), (6, .int (nI (S))), (5, .int (cm (3 + k))), (4, .int (cm (k))), (0, .ref h), (1, .int (nI (3))), (2, .int (nI (k))), (3, .int (nI (w)))]) hx hb d_M_shape_169 hl (by decide) rfl (fun ls hl => ?_)
    refine lv_aload_n hx hb d_M_shape_171 rfl (lv_at hl 5 rfl) ?_
    refine lv_iload hx hb d_M_shape_172 (lv_at hl 0 rfl) ?_
    refine lv_iload_n hx hb d_M_shape_174 rfl (lv_at hl 7 rfl) ?_
    refine lv_iload hx hb d_M_shape_175 (lv_at hl 4 rfl) ?_
    refine lv_iload hx hb d_M_shape_177 (lv_at hl 1 rfl) ?_
    refine lv_iadd hx hb d_M_shape_179 ?_
    refine lv_iload hx hb d_M_shape_180 (lv_at hl 3 rfl) ?_
    refine lv_iload hx hb d_M_shape_182 (lv_at hl 1 rfl) ?_
    refine lv_isub hx hb d_M_shape_184 ?_
    have hPc := hP.sub (ws' := [(h, .inr (3, fs)), (ad, eI g 288 (fd)), (adm, eI g 2 (dm)), (amd, eI g 1008 (md)), (ab, eI g 6 (bx)), (ac, eI g 6 (cm))]) [0, 1, 2, 3, 4, 5] rfl
    have hDc := hD.sub (ws' := [(h, .inr (3, fs)), (ad, eI g 288 (fd)), (adm, eI g 2 (dm)), (amd, eI g 1008 (md)), (ab, eI g 6 (bx)), (ac, eI g 6 (cm))]) [0, 1, 2, 3, 4, 5] (by decide) rfl
    have hFc := va_free (wc := [(h, .inr (3, fs)), (ad, eI g 288 (fd)), (adm, eI g 2 (dm)), (amd, eI g 1008 (md)), (ab, eI g 6 (bx)), (ac, eI g 6 (cm))]) hD hS hA [0, 1, 2, 3, 4, 5] rfl
    refine va_calli (va_runV (As := [.int (nI (0)), .int (nI (k)), .int ((cm (k)) + (nI ((S) / 3))), .int ((cm (3 + k)) - (nI ((S) / 3)))]) (rest := []) ⟨hx, hb, hml, hown, htB⟩ (m_M_loses l g z _ h (fs) ad adm amd ab ac (fd) (dm) (md) (bx) (cm) cl (0) (k) ((A0).length) ((cm (k)) + (nI ((S) / 3))) ((cm (3 + k)) - (nI ((S) / 3)))) (cwV 4 htB (gV kw_569 kw_571 ks_1_9 kw_3 g_M_loses) rfl rfl rfl (by decide +kernel) ⟨Nat.le_of_ble_eq_true rfl, Nat.le_of_ble_eq_true rfl⟩) (pre_V hS hz ha (va_recv ha.1 hP (ci := 3) (q0 := 0) rfl rfl) ⟨hPc, hDc.weaken (fun _ _ _ h => hz _ h), ⟨hf5, hf6, hf7, hf8, hf9, hf10, by omega, hk3, hR0.2.2.1, hR0.1⟩⟩) rfl rfl hl.1 rfl (lv_room (Nat.le_of_ble_eq_true rfl)) d_M_shape_185 ⟨Nat.le_of_ble_eq_true rfl, Nat.le_of_ble_eq_true rfl⟩) hS (fun q _ h => hFc q h) hFc (fun r_39 u_40 t H1 locs ht hvm hw hB hz1 hk1 hS => ?_)
    obtain ⟨hP1, hD1⟩ := hB
    rw [ht] at hP1
    obtain ⟨hP, hD⟩ := va_join (wr := []) (w1 := [(h, .inr (3, fs)), (ad, eI g 288 (if u_40.1 ≤ 24 then va_cpy u_40.2.2 (fd) 0 (144 * 0) (6 * u_40.1) else (fd))), (adm, eI g 2 (if u_40.1 ≤ 24 then upd (dm) 0 (nI u_40.1) else (dm))), (amd, eI g 1008 (u_40.2.2)), (ab, eI g 6 (lsB cm (bx) k ((cm (k)) + (nI ((S) / 3))) ((cm (3 + k)) - (nI ((S) / 3))) (if 0 = 0 then cl else nI 0))), (ac, eI g 6 (cm))]) hP hD [0, 1, 2, 3, 4, 5] [] rfl rfl (by decide) (by decide) hk1 hFc hP1 hD1
    clear hPc hDc hFc hP1 hD1 hk1 hz1 hvm ht
    generalize H1 = H at hP hS ⊢
    have hP : va_P g.1 cls [(h, .inr (3, fs)), (ad, eI g 288 (if u_40.1 ≤ 24 then va_cpy u_40.2.2 (fd) 0 (144 * 0) (6 * u_40.1) else (fd))), (adm, eI g 2 (if u_40.1 ≤ 24 then upd (dm) 0 (nI u_40.1) else (dm))), (amd, eI g 1008 (u_40.2.2)), (ab, eI g 6 (lsB cm (bx) k ((cm (k)) + (nI ((S) / 3))) ((cm (3 + k)) - (nI ((S) / 3))) (if 0 = 0 then cl else nI 0))), (ac, eI g 6 (cm))] H := hP
    have hD : va_D A [(h, .inr (3, fs)), (ad, eI g 288 (if u_40.1 ≤ 24 then va_cpy u_40.2.2 (fd) 0 (144 * 0) (6 * u_40.1) else (fd))), (adm, eI g 2 (if u_40.1 ≤ 24 then upd (dm) 0 (nI u_40.1) else (dm))), (amd, eI g 1008 (u_40.2.2)), (ab, eI g 6 (lsB cm (bx) k ((cm (k)) + (nI ((S) / 3))) ((cm (3 + k)) - (nI ((S) / 3))) (if 0 = 0 then cl else nI 0))), (ac, eI g 6 (cm))] := hD
    obtain ⟨hu1, hu2, hu3⟩ := hw
    subst hu2
    have hT : gb (lsB cm (bx) k ((cm (k)) + (nI ((S) / 3))) ((cm (3 + k)) - (nI ((S) / 3))) (if 0 = 0 then cl else nI 0)) 0 = lb cm k (if 0 = 0 then cl else nI 0) (S / 3) (S - S / 3) := lsB_lb hk3 (rfl) (hi_sub hS3 (Nat.div_le_self _ _))
    obtain ⟨e1, e2⟩ := lo_R0 hR0 hu1
    rw [hT] at e1 e2
    clear hu1 hu3 hT
    obtain ⟨bx41, hbx41⟩ : ∃ x : Nat → Int32, x = lsB cm (bx) k ((cm (k)) + (nI ((S) / 3))) ((cm (3 + k)) - (nI ((S) / 3))) (if 0 = 0 then cl else nI 0) := ⟨_, rfl⟩
    rw [← hbx41] at hP hD
    clear hbx41
    by_cases c_42 : u_40.1 ≤ 24
    · rw [if_pos c_42, if_pos c_42] at hP hD
      rw [if_pos c_42]
      have hR41 := e2 c_42
      have hq41 : (cutL (lb cm k cl (S / 3) (S - S / 3)) (A0)).length ≤ 24 := e1 ▸ c_42
      clear e1 e2
      obtain ⟨fd41, dm41, hfd41⟩ : ∃ x y : Nat → Int32, (x, y) = (va_cpy u_40.2.2 (fd) 0 (144 * 0) (6 * u_40.1), upd (dm) 0 (nI u_40.1)) := ⟨_, _, rfl⟩
      rw [show va_cpy u_40.2.2 (fd) 0 (144 * 0) (6 * u_40.1) = fd41 from (congrArg (fun x => x.1) hfd41).symm, show upd (dm) 0 (nI u_40.1) = dm41 from (congrArg (fun x => x.2) hfd41).symm] at hP hD hR41
      clear hfd41
      obtain ⟨LN41, hLN41⟩ : ∃ x : List Bx, (x, ()) = (cutL (lb cm k cl (S / 3) (S - S / 3)) (A0), ()) := ⟨_, rfl⟩
      have hLE41 : LN41 = cutL (lb cm k cl (S / 3) (S - S / 3)) (A0) := congrArg (fun x => x.1) hLN41
      have hR41 : dR fd41 dm41 LN41 (B0) := by rw [hLE41]; exact hR41
      have hN41 := hR41.2.2.1
      have hP : va_P g.1 cls [(h, .inr (3, fs)), (ad, eI g 288 (fd41)), (adm, eI g 2 (dm41)), (amd, eI g 1008 (u_40.2.2)), (ab, eI g 6 (bx41)), (ac, eI g 6 (cm))] H := hP
      have hD : va_D A [(h, .inr (3, fs)), (ad, eI g 288 (fd41)), (adm, eI g 2 (dm41)), (amd, eI g 1008 (u_40.2.2)), (ab, eI g 6 (bx41)), (ac, eI g 6 (cm))] := hD
      refine lv_if_eq (tgt := 233) hx hb d_M_shape_188 (by decide) (fun h => absurd h (by decide)) (fun _ => ?_)
      refine lv_aload_n hx hb d_M_shape_191 rfl (lv_at hl 5 rfl) ?_
      refine lv_iconst (v := (nI (1))) hx hb d_M_shape_192 (by decide) ?_
      refine lv_iload hx hb d_M_shape_193 (lv_at hl 0 rfl) ?_
      refine jv_isub hx hb (by omega) d_M_shape_195 ?_
      refine lv_iload_n hx hb d_M_shape_196 rfl (lv_at hl 7 rfl) ?_
      refine lv_iload hx hb d_M_shape_197 (lv_at hl 4 rfl) ?_
      refine lv_iload hx hb d_M_shape_199 (lv_at hl 4 rfl) ?_
      refine lv_iload hx hb d_M_shape_201 (lv_at hl 1 rfl) ?_
      refine lv_iadd hx hb d_M_shape_203 ?_
      have hPc := hP.sub (ws' := [(h, .inr (3, fs)), (ad, eI g 288 (fd41)), (adm, eI g 2 (dm41)), (amd, eI g 1008 (u_40.2.2)), (ab, eI g 6 (bx41)), (ac, eI g 6 (cm))]) [0, 1, 2, 3, 4, 5] rfl
      have hDc := hD.sub (ws' := [(h, .inr (3, fs)), (ad, eI g 288 (fd41)), (adm, eI g 2 (dm41)), (amd, eI g 1008 (u_40.2.2)), (ab, eI g 6 (bx41)), (ac, eI g 6 (cm))]) [0, 1, 2, 3, 4, 5] (by decide) rfl
      have hFc := va_free (wc := [(h, .inr (3, fs)), (ad, eI g 288 (fd41)), (adm, eI g 2 (dm41)), (amd, eI g 1008 (u_40.2.2)), (ab, eI g 6 (bx41)), (ac, eI g 6 (cm))]) hD hS hA [0, 1, 2, 3, 4, 5] rfl
      refine va_calli (va_runV (As := [.int (nI (1)), .int (nI (k)), .int (cm (k)), .int ((cm (k)) + (nI ((S) / 3)))]) (rest := []) ⟨hx, hb, hml, hown, htB⟩ (m_M_loses l g z _ h (fs) ad adm amd ab ac (fd41) (dm41) (u_40.2.2) (bx41) (cm) cl (1) (k) ((B0).length) (cm (k)) ((cm (k)) + (nI ((S) / 3)))) (cwV 4 htB (gV kw_569 kw_571 ks_1_9 kw_3 g_M_loses) rfl rfl rfl (by decide +kernel) ⟨Nat.le_of_ble_eq_true rfl, Nat.le_of_ble_eq_true rfl⟩) (pre_V hS hz ha (va_recv ha.1 hP (ci := 3) (q0 := 0) rfl rfl) ⟨hPc, hDc.weaken (fun _ _ _ h => hz _ h), ⟨hf5, hf6, hf7, hf8, hf9, hf10, by omega, hk3, hR41.2.2.2.1, hR41.2.1⟩⟩) rfl rfl hl.1 rfl (lv_room (Nat.le_of_ble_eq_true rfl)) d_M_shape_204 ⟨Nat.le_of_ble_eq_true rfl, Nat.le_of_ble_eq_true rfl⟩) hS (fun q _ h => hFc q h) hFc (fun r_44 u_45 t H1 locs ht hvm hw hB hz1 hk1 hS => ?_)
      obtain ⟨hP1, hD1⟩ := hB
      rw [ht] at hP1
      obtain ⟨hP, hD⟩ := va_join (wr := []) (w1 := [(h, .inr (3, fs)), (ad, eI g 288 (if u_45.1 ≤ 24 then va_cpy u_45.2.2 (fd41) 0 (144 * 1) (6 * u_45.1) else (fd41))), (adm, eI g 2 (if u_45.1 ≤ 24 then upd (dm41) 1 (nI u_45.1) else (dm41))), (amd, eI g 1008 (u_45.2.2)), (ab, eI g 6 (lsB cm (bx41) k (cm (k)) ((cm (k)) + (nI ((S) / 3))) (if 1 = 0 then cl else nI 0))), (ac, eI g 6 (cm))]) hP hD [0, 1, 2, 3, 4, 5] [] rfl rfl (by decide) (by decide) hk1 hFc hP1 hD1
      clear hPc hDc hFc hP1 hD1 hk1 hz1 hvm ht
      generalize H1 = H at hP hS ⊢
      have hP : va_P g.1 cls [(h, .inr (3, fs)), (ad, eI g 288 (if u_45.1 ≤ 24 then va_cpy u_45.2.2 (fd41) 0 (144 * 1) (6 * u_45.1) else (fd41))), (adm, eI g 2 (if u_45.1 ≤ 24 then upd (dm41) 1 (nI u_45.1) else (dm41))), (amd, eI g 1008 (u_45.2.2)), (ab, eI g 6 (lsB cm (bx41) k (cm (k)) ((cm (k)) + (nI ((S) / 3))) (if 1 = 0 then cl else nI 0))), (ac, eI g 6 (cm))] H := hP
      have hD : va_D A [(h, .inr (3, fs)), (ad, eI g 288 (if u_45.1 ≤ 24 then va_cpy u_45.2.2 (fd41) 0 (144 * 1) (6 * u_45.1) else (fd41))), (adm, eI g 2 (if u_45.1 ≤ 24 then upd (dm41) 1 (nI u_45.1) else (dm41))), (amd, eI g 1008 (u_45.2.2)), (ab, eI g 6 (lsB cm (bx41) k (cm (k)) ((cm (k)) + (nI ((S) / 3))) (if 1 = 0 then cl else nI 0))), (ac, eI g 6 (cm))] := hD
      obtain ⟨hu1, hu2, hu3⟩ := hw
      subst hu2
      have hT : gb (lsB cm (bx41) k (cm (k)) ((cm (k)) + (nI ((S) / 3))) (if 1 = 0 then cl else nI 0)) 0 = lb cm k (if 1 = 0 then cl else nI 0) (0) (S / 3) := lsB_lb hk3 (lo_0 _) (rfl)
      obtain ⟨e1, e2⟩ := lo_R1 hR41 hu1
      rw [hT] at e1 e2
      clear hu1 hu3 hT
      obtain ⟨bx46, hbx46⟩ : ∃ x : Nat → Int32, x = lsB cm (bx41) k (cm (k)) ((cm (k)) + (nI ((S) / 3))) (if 1 = 0 then cl else nI 0) := ⟨_, rfl⟩
      rw [← hbx46] at hP hD
      clear hbx46
      by_cases c_47 : u_45.1 ≤ 24
      · rw [if_pos c_47, if_pos c_47] at hP hD
        rw [if_pos c_47]
        have hR46 := e2 c_47
        have hq46 : (cutL (lb cm k (nI 0) (0) (S / 3)) (B0)).length ≤ 24 := e1 ▸ c_47
        clear e1 e2
        obtain ⟨fd46, dm46, hfd46⟩ : ∃ x y : Nat → Int32, (x, y) = (va_cpy u_45.2.2 (fd41) 0 (144 * 1) (6 * u_45.1), upd (dm41) 1 (nI u_45.1)) := ⟨_, _, rfl⟩
        rw [show va_cpy u_45.2.2 (fd41) 0 (144 * 1) (6 * u_45.1) = fd46 from (congrArg (fun x => x.1) hfd46).symm, show upd (dm41) 1 (nI u_45.1) = dm46 from (congrArg (fun x => x.2) hfd46).symm] at hP hD hR46
        clear hfd46
        obtain ⟨LN46, hLN46⟩ : ∃ x : List Bx, (x, ()) = (cutL (lb cm k (nI 0) (0) (S / 3)) (B0), ()) := ⟨_, rfl⟩
        have hLE46 : LN46 = cutL (lb cm k (nI 0) (0) (S / 3)) (B0) := congrArg (fun x => x.1) hLN46
        have hR46 : dR fd46 dm46 (LN41) LN46 := by rw [hLE46]; exact hR46
        have hN46 := hR46.2.2.2.1
        have hP : va_P g.1 cls [(h, .inr (3, fs)), (ad, eI g 288 (fd46)), (adm, eI g 2 (dm46)), (amd, eI g 1008 (u_45.2.2)), (ab, eI g 6 (bx46)), (ac, eI g 6 (cm))] H := hP
        have hD : va_D A [(h, .inr (3, fs)), (ad, eI g 288 (fd46)), (adm, eI g 2 (dm46)), (amd, eI g 1008 (u_45.2.2)), (ab, eI g 6 (bx46)), (ac, eI g 6 (cm))] := hD
        refine lv_if_eq (tgt := 233) hx hb d_M_shape_207 (by decide) (fun h => absurd h (by decide)) (fun _ => ?_)
        refine lv_aload_n hx hb d_M_shape_210 rfl (lv_at hl 5 rfl) ?_
        refine lv_iconst (v := (nI (1))) hx hb d_M_shape_211 (by decide) ?_
        refine lv_iload hx hb d_M_shape_212 (lv_at hl 0 rfl) ?_
        refine jv_isub hx hb (by omega) d_M_shape_214 ?_
        refine lv_iload_n hx hb d_M_shape_215 rfl (lv_at hl 7 rfl) ?_
        refine lv_iload hx hb d_M_shape_216 (lv_at hl 3 rfl) ?_
        refine lv_iload hx hb d_M_shape_218 (lv_at hl 1 rfl) ?_
        refine lv_isub hx hb d_M_shape_220 ?_
        refine lv_iload hx hb d_M_shape_221 (lv_at hl 3 rfl) ?_
        have hPc := hP.sub (ws' := [(h, .inr (3, fs)), (ad, eI g 288 (fd46)), (adm, eI g 2 (dm46)), (amd, eI g 1008 (u_45.2.2)), (ab, eI g 6 (bx46)), (ac, eI g 6 (cm))]) [0, 1, 2, 3, 4, 5] rfl
        have hDc := hD.sub (ws' := [(h, .inr (3, fs)), (ad, eI g 288 (fd46)), (adm, eI g 2 (dm46)), (amd, eI g 1008 (u_45.2.2)), (ab, eI g 6 (bx46)), (ac, eI g 6 (cm))]) [0, 1, 2, 3, 4, 5] (by decide) rfl
        have hFc := va_free (wc := [(h, .inr (3, fs)), (ad, eI g 288 (fd46)), (adm, eI g 2 (dm46)), (amd, eI g 1008 (u_45.2.2)), (ab, eI g 6 (bx46)), (ac, eI g 6 (cm))]) hD hS hA [0, 1, 2, 3, 4, 5] rfl
        refine va_calli (va_runV (As := [.int (nI (1)), .int (nI (k)), .int ((cm (3 + k)) - (nI ((S) / 3))), .int (cm (3 + k))]) (rest := []) ⟨hx, hb, hml, hown, htB⟩ (m_M_loses l g z _ h (fs) ad adm amd ab ac (fd46) (dm46) (u_45.2.2) (bx46) (cm) cl (1) (k) ((LN46).length) ((cm (3 + k)) - (nI ((S) / 3))) (cm (3 + k))) (cwV 4 htB (gV kw_569 kw_571 ks_1_9 kw_3 g_M_loses) rfl rfl rfl (by decide +kernel) ⟨Nat.le_of_ble_eq_true rfl, Nat.le_of_ble_eq_true rfl⟩) (pre_V hS hz ha (va_recv ha.1 hP (ci := 3) (q0 := 0) rfl rfl) ⟨hPc, hDc.weaken (fun _ _ _ h => hz _ h), ⟨hf5, hf6, hf7, hf8, hf9, hf10, by omega, hk3, hR46.2.2.2.1, hR46.2.1⟩⟩) rfl rfl hl.1 rfl (lv_room (Nat.le_of_ble_eq_true rfl)) d_M_shape_223 ⟨Nat.le_of_ble_eq_true rfl, Nat.le_of_ble_eq_true rfl⟩) hS (fun q _ h => hFc q h) hFc (fun r_49 u_50 t H1 locs ht hvm hw hB hz1 hk1 hS => ?_)
        obtain ⟨hP1, hD1⟩ := hB
        rw [ht] at hP1
        obtain ⟨hP, hD⟩ := va_join (wr := []) (w1 := [(h, .inr (3, fs)), (ad, eI g 288 (if u_50.1 ≤ 24 then va_cpy u_50.2.2 (fd46) 0 (144 * 1) (6 * u_50.1) else (fd46))), (adm, eI g 2 (if u_50.1 ≤ 24 then upd (dm46) 1 (nI u_50.1) else (dm46))), (amd, eI g 1008 (u_50.2.2)), (ab, eI g 6 (lsB cm (bx46) k ((cm (3 + k)) - (nI ((S) / 3))) (cm (3 + k)) (if 1 = 0 then cl else nI 0))), (ac, eI g 6 (cm))]) hP hD [0, 1, 2, 3, 4, 5] [] rfl rfl (by decide) (by decide) hk1 hFc hP1 hD1
        clear hPc hDc hFc hP1 hD1 hk1 hz1 hvm ht
        generalize H1 = H at hP hS ⊢
        have hP : va_P g.1 cls [(h, .inr (3, fs)), (ad, eI g 288 (if u_50.1 ≤ 24 then va_cpy u_50.2.2 (fd46) 0 (144 * 1) (6 * u_50.1) else (fd46))), (adm, eI g 2 (if u_50.1 ≤ 24 then upd (dm46) 1 (nI u_50.1) else (dm46))), (amd, eI g 1008 (u_50.2.2)), (ab, eI g 6 (lsB cm (bx46) k ((cm (3 + k)) - (nI ((S) / 3))) (cm (3 + k)) (if 1 = 0 then cl else nI 0))), (ac, eI g 6 (cm))] H := hP
        have hD : va_D A [(h, .inr (3, fs)), (ad, eI g 288 (if u_50.1 ≤ 24 then va_cpy u_50.2.2 (fd46) 0 (144 * 1) (6 * u_50.1) else (fd46))), (adm, eI g 2 (if u_50.1 ≤ 24 then upd (dm46) 1 (nI u_50.1) else (dm46))), (amd, eI g 1008 (u_50.2.2)), (ab, eI g 6 (lsB cm (bx46) k ((cm (3 + k)) - (nI ((S) / 3))) (cm (3 + k)) (if 1 = 0 then cl else nI 0))), (ac, eI g 6 (cm))] := hD
        obtain ⟨hu1, hu2, hu3⟩ := hw
        subst hu2
        have hT : gb (lsB cm (bx46) k ((cm (3 + k)) - (nI ((S) / 3))) (cm (3 + k)) (if 1 = 0 then cl else nI 0)) 0 = lb cm k (if 1 = 0 then cl else nI 0) (S - S / 3) (S) := lsB_lb hk3 (hi_sub hS3 (Nat.div_le_self _ _)) (hi_of hS3)
        obtain ⟨e1, e2⟩ := lo_R1 hR46 hu1
        rw [hT] at e1 e2
        clear hu1 hu3 hT
        obtain ⟨bx51, hbx51⟩ : ∃ x : Nat → Int32, x = lsB cm (bx46) k ((cm (3 + k)) - (nI ((S) / 3))) (cm (3 + k)) (if 1 = 0 then cl else nI 0) := ⟨_, rfl⟩
        rw [← hbx51] at hP hD
        clear hbx51
        by_cases c_52 : u_50.1 ≤ 24
        · rw [if_pos c_52, if_pos c_52] at hP hD
          rw [if_pos c_52]
          have hR51 := e2 c_52
          have hq51 : (cutL (lb cm k (nI 0) (S - S / 3) (S)) (LN46)).length ≤ 24 := e1 ▸ c_52
          clear e1 e2
          obtain ⟨fd51, dm51, hfd51⟩ : ∃ x y : Nat → Int32, (x, y) = (va_cpy u_50.2.2 (fd46) 0 (144 * 1) (6 * u_50.1), upd (dm46) 1 (nI u_50.1)) := ⟨_, _, rfl⟩
          rw [show va_cpy u_50.2.2 (fd46) 0 (144 * 1) (6 * u_50.1) = fd51 from (congrArg (fun x => x.1) hfd51).symm, show upd (dm46) 1 (nI u_50.1) = dm51 from (congrArg (fun x => x.2) hfd51).symm] at hP hD hR51
          clear hfd51
          obtain ⟨LN51, hLN51⟩ : ∃ x : List Bx, (x, ()) = (cutL (lb cm k (nI 0) (S - S / 3) (S)) (LN46), ()) := ⟨_, rfl⟩
          have hLE51 : LN51 = cutL (lb cm k (nI 0) (S - S / 3) (S)) (LN46) := congrArg (fun x => x.1) hLN51
          have hR51 : dR fd51 dm51 (LN41) LN51 := by rw [hLE51]; exact hR51
          have hN51 := hR51.2.2.2.1
          have hP : va_P g.1 cls [(h, .inr (3, fs)), (ad, eI g 288 (fd51)), (adm, eI g 2 (dm51)), (amd, eI g 1008 (u_50.2.2)), (ab, eI g 6 (bx51)), (ac, eI g 6 (cm))] H := hP
          have hD : va_D A [(h, .inr (3, fs)), (ad, eI g 288 (fd51)), (adm, eI g 2 (dm51)), (amd, eI g 1008 (u_50.2.2)), (ab, eI g 6 (bx51)), (ac, eI g 6 (cm))] := hD
          refine lv_if_eq (tgt := 233) hx hb d_M_shape_226 (by decide) (fun h => absurd h (by decide)) (fun _ => ?_)
          refine lv_iconst (v := (nI (1))) hx hb d_M_shape_229 (by decide) ?_
          refine lv_goto (tgt := 234) hx hb d_M_shape_230 (by decide) ?_
          have hP9 := hP.sub (ws' := [(h, .inr (3, fs)), (ad, eI g 288 (fd51)), (adm, eI g 2 (dm51)), (amd, eI g 1008 (u_50.2.2)), (ab, eI g 6 (bx51)), (ac, eI g 6 (cm))]) [0, 1, 2, 3, 4, 5] rfl
          have hD9 := hD.sub (ws' := [(h, .inr (3, fs)), (ad, eI g 288 (fd51)), (adm, eI g 2 (dm51)), (amd, eI g 1008 (u_50.2.2)), (ab, eI g 6 (bx51)), (ac, eI g 6 (cm))]) [0, 1, 2, 3, 4, 5] (by decide) rfl
          exact (W.widen (k := 0) (n := 0) (Nat.le_of_ble_eq_true rfl) (Nat.le_of_ble_eq_true rfl) (W.zret (v := (nI (1))) hx hb hr (by decide) (fun t ht hW => ⟨⟨(nI (1)), (fd51, dm51, u_50.2.2, bx51), rfl, Or.inl ⟨LN41, LN51, by rw [hLE51, hLE46, hLE41]; exact (((seq3_f (cm := cm) (k := k) (cl := cl) (ms := mkN 3 S w) (LA := A0) (LB := B0)).trans (if_pos hq41)).trans (if_pos hq46)).trans (if_pos (by rw [hLE46] at hq51; exact hq51)), rfl, hR51⟩, by rw [ht]; exact hP9, hD9.re [h, ad, adm, amd, ab, ac] rfl rfl⟩, hS.F ht⟩) hS.2.2 d_M_shape_234))
        · rw [if_neg c_52, if_neg c_52] at hP hD
          rw [if_neg c_52]
          have hq51 : ¬ (cutL (lb cm k (nI 0) (S - S / 3) (S)) (LN46)).length ≤ 24 := e1 ▸ c_52
          have hP : va_P g.1 cls [(h, .inr (3, fs)), (ad, eI g 288 (fd46)), (adm, eI g 2 (dm46)), (amd, eI g 1008 (u_50.2.2)), (ab, eI g 6 (bx51)), (ac, eI g 6 (cm))] H := hP
          have hD : va_D A [(h, .inr (3, fs)), (ad, eI g 288 (fd46)), (adm, eI g 2 (dm46)), (amd, eI g 1008 (u_50.2.2)), (ab, eI g 6 (bx51)), (ac, eI g 6 (cm))] := hD
          refine lv_if_eq (tgt := 233) hx hb d_M_shape_226 (by decide) (fun _ => ?_) (fun h => absurd h (by decide))
          refine lv_iconst (v := (nI (0))) hx hb d_M_shape_233 (by decide) ?_
          have hP9 := hP.sub (ws' := [(h, .inr (3, fs)), (ad, eI g 288 (fd46)), (adm, eI g 2 (dm46)), (amd, eI g 1008 (u_50.2.2)), (ab, eI g 6 (bx51)), (ac, eI g 6 (cm))]) [0, 1, 2, 3, 4, 5] rfl
          have hD9 := hD.sub (ws' := [(h, .inr (3, fs)), (ad, eI g 288 (fd46)), (adm, eI g 2 (dm46)), (amd, eI g 1008 (u_50.2.2)), (ab, eI g 6 (bx51)), (ac, eI g 6 (cm))]) [0, 1, 2, 3, 4, 5] (by decide) rfl
          exact (W.widen (k := 0) (n := 0) (Nat.le_of_ble_eq_true rfl) (Nat.le_of_ble_eq_true rfl) (W.zret (v := (nI (0))) hx hb hr (by decide) (fun t ht hW => ⟨⟨(nI (0)), (fd46, dm46, u_50.2.2, bx51), rfl, Or.inr ⟨(((seq3_f (cm := cm) (k := k) (cl := cl) (ms := mkN 3 S w) (LA := A0) (LB := B0)).trans (if_pos hq41)).trans (if_pos hq46)).trans (if_neg (by rw [hLE46] at hq51; exact hq51)), rfl⟩, by rw [ht]; exact hP9, hD9.re [h, ad, adm, amd, ab, ac] rfl rfl⟩, hS.F ht⟩) hS.2.2 d_M_shape_234))
      · rw [if_neg c_47, if_neg c_47] at hP hD
        rw [if_neg c_47]
        have hq46 : ¬ (cutL (lb cm k (nI 0) (0) (S / 3)) (B0)).length ≤ 24 := e1 ▸ c_47
        have hP : va_P g.1 cls [(h, .inr (3, fs)), (ad, eI g 288 (fd41)), (adm, eI g 2 (dm41)), (amd, eI g 1008 (u_45.2.2)), (ab, eI g 6 (bx46)), (ac, eI g 6 (cm))] H := hP
        have hD : va_D A [(h, .inr (3, fs)), (ad, eI g 288 (fd41)), (adm, eI g 2 (dm41)), (amd, eI g 1008 (u_45.2.2)), (ab, eI g 6 (bx46)), (ac, eI g 6 (cm))] := hD
        refine lv_if_eq (tgt := 233) hx hb d_M_shape_207 (by decide) (fun _ => ?_) (fun h => absurd h (by decide))
        refine lv_iconst (v := (nI (0))) hx hb d_M_shape_233 (by decide) ?_
        have hP9 := hP.sub (ws' := [(h, .inr (3, fs)), (ad, eI g 288 (fd41)), (adm, eI g 2 (dm41)), (amd, eI g 1008 (u_45.2.2)), (ab, eI g 6 (bx46)), (ac, eI g 6 (cm))]) [0, 1, 2, 3, 4, 5] rfl
        have hD9 := hD.sub (ws' := [(h, .inr (3, fs)), (ad, eI g 288 (fd41)), (adm, eI g 2 (dm41)), (amd, eI g 1008 (u_45.2.2)), (ab, eI g 6 (bx46)), (ac, eI g 6 (cm))]) [0, 1, 2, 3, 4, 5] (by decide) rfl
        exact (W.widen (k := 0) (n := 0) (Nat.le_of_ble_eq_true rfl) (Nat.le_of_ble_eq_true rfl) (W.zret (v := (nI (0))) hx hb hr (by decide) (fun t ht hW => ⟨⟨(nI (0)), (fd41, dm41, u_45.2.2, bx46), rfl, Or.inr ⟨((seq3_f (cm := cm) (k := k) (cl := cl) (ms := mkN 3 S w) (LA := A0) (LB := B0)).trans (if_pos hq41)).trans (if_neg hq46), rfl⟩, by rw [ht]; exact hP9, hD9.re [h, ad, adm, amd, ab, ac] rfl rfl⟩, hS.F ht⟩) hS.2.2 d_M_shape_234))
    · rw [if_neg c_42, if_neg c_42] at hP hD
      rw [if_neg c_42]
      have hq41 : ¬ (cutL (lb cm k cl (S / 3) (S - S / 3)) (A0)).length ≤ 24 := e1 ▸ c_42
      have hP : va_P g.1 cls [(h, .inr (3, fs)), (ad, eI g 288 (fd)), (adm, eI g 2 (dm)), (amd, eI g 1008 (u_40.2.2)), (ab, eI g 6 (bx41)), (ac, eI g 6 (cm))] H := hP
      have hD : va_D A [(h, .inr (3, fs)), (ad, eI g 288 (fd)), (adm, eI g 2 (dm)), (amd, eI g 1008 (u_40.2.2)), (ab, eI g 6 (bx41)), (ac, eI g 6 (cm))] := hD
      refine lv_if_eq (tgt := 233) hx hb d_M_shape_188 (by decide) (fun _ => ?_) (fun h => absurd h (by decide))
      refine lv_iconst (v := (nI (0))) hx hb d_M_shape_233 (by decide) ?_
      have hP9 := hP.sub (ws' := [(h, .inr (3, fs)), (ad, eI g 288 (fd)), (adm, eI g 2 (dm)), (amd, eI g 1008 (u_40.2.2)), (ab, eI g 6 (bx41)), (ac, eI g 6 (cm))]) [0, 1, 2, 3, 4, 5] rfl
      have hD9 := hD.sub (ws' := [(h, .inr (3, fs)), (ad, eI g 288 (fd)), (adm, eI g 2 (dm)), (amd, eI g 1008 (u_40.2.2)), (ab, eI g 6 (bx41)), (ac, eI g 6 (cm))]) [0, 1, 2, 3, 4, 5] (by decide) rfl
      exact (W.widen (k := 0) (n := 0) (Nat.le_of_ble_eq_true rfl) (Nat.le_of_ble_eq_true rfl) (W.zret (v := (nI (0))) hx hb hr (by decide) (fun t ht hW => ⟨⟨(nI (0)), (fd, dm, u_40.2.2, bx41), rfl, Or.inr ⟨(seq3_f (cm := cm) (k := k) (cl := cl) (ms := mkN 3 S w) (LA := A0) (LB := B0)).trans (if_neg hq41), rfl⟩, by rw [ht]; exact hP9, hD9.re [h, ad, adm, amd, ab, ac] rfl rfl⟩, hS.F ht⟩) hS.2.2 d_M_shape_234))
  · refine lv_aload_n hx hb d_M_shape_0 rfl (lv_at hl 0 rfl) ?_
    refine va_get (D := g.1) (ci := 3) (v := .ref ac) (C := R_M) (T := F_M) (N := 19) hx hb htB in_M hown ha.1 hP 0 rfl rfl 9 (by decide) (htB _ kw_451) (fun _ h9 => h9) hf9 d_M_shape_1 ?_
    refine lv_iload_n hx hb d_M_shape_4 rfl (lv_at hl 2 rfl) ?_
    refine ja_ald (k := k) hx hb ha.1 hP 5 0 rfl rfl (by omega) (by omega) d_M_shape_5 ?_
    refine lv_istore (lv' := [(4, .int (cm (k))), (0, .ref h), (1, .int (nI (4))), (2, .int (nI (k))), (3, .int (nI (w)))]) hx hb d_M_shape_6 hl (by decide) rfl (fun ls hl => ?_)
    refine lv_aload_n hx hb d_M_shape_8 rfl (lv_at hl 1 rfl) ?_
    refine va_get (D := g.1) (ci := 3) (v := .ref ac) (C := R_M) (T := F_M) (N := 19) hx hb htB in_M hown ha.1 hP 0 rfl rfl 9 (by decide) (htB _ kw_451) (fun _ h9 => h9) hf9 d_M_shape_9 ?_
    refine lv_iconst (v := (nI (3))) hx hb d_M_shape_12 (by decide) ?_
    refine lv_iload_n hx hb d_M_shape_13 rfl (lv_at hl 3 rfl) ?_
    refine jv_iadd hx hb d_M_shape_14 ?_
    refine ja_ald (k := 3 + k) hx hb ha.1 hP 5 0 rfl rfl (by omega) (by omega) d_M_shape_15 ?_
    refine lv_istore (lv' := [(5, .int (cm (3 + k))), (4, .int (cm (k))), (0, .ref h), (1, .int (nI (4))), (2, .int (nI (k))), (3, .int (nI (w)))]) hx hb d_M_shape_16 hl (by decide) rfl (fun ls hl => ?_)
    refine lv_iload hx hb d_M_shape_18 (lv_at hl 0 rfl) ?_
    refine lv_iload hx hb d_M_shape_20 (lv_at hl 1 rfl) ?_
    refine lv_isub hx hb d_M_shape_22 ?_
    rw [hSz]
    refine lv_istore (lv' := [(6, .int (nI (S))), (5, .int (cm (3 + k))), (4, .int (cm (k))), (0, .ref h), (1, .int (nI (4))), (2, .int (nI (k))), (3, .int (nI (w)))]) hx hb d_M_shape_23 hl (by decide) rfl (fun ls hl => ?_)
    refine lv_iload_n hx hb d_M_shape_25 rfl (lv_at hl 4 rfl) ?_
    refine lv_if_ne (tgt := 71) hx hb d_M_shape_26 (by decide) (fun _ => ?_) (fun h => absurd h (by decide))
    refine lv_iload_n hx hb d_M_shape_71 rfl (lv_at hl 4 rfl) ?_
    refine lv_iconst (v := (nI (1))) hx hb d_M_shape_72 (by decide) ?_
    refine jv_icmp_ne (tgt := 87) hx hb (by omega) (by omega) d_M_shape_73 (by decide) (fun _ => ?_) (fun h => absurd h (by decide))
    refine lv_iload_n hx hb d_M_shape_87 rfl (lv_at hl 4 rfl) ?_
    refine lv_iconst (v := (nI (2))) hx hb d_M_shape_88 (by decide) ?_
    refine jv_icmp_ne (tgt := 153) hx hb (by omega) (by omega) d_M_shape_89 (by decide) (fun _ => ?_) (fun h => absurd h (by decide))
    refine lv_iload hx hb d_M_shape_153 (lv_at hl 0 rfl) ?_
    refine lv_iconst (v := (nI (3))) hx hb d_M_shape_155 (by decide) ?_
    refine jv_idiv hx hb (by omega) (by omega) (by omega) d_M_shape_156 ?_
    refine lv_istore (lv' := [(7, .int (nI ((S) / 3))), (6, .int (nI (S))), (5, .int (cm (3 + k))), (4, .int (cm (k))), (0, .ref h), (1, .int (nI (4))), (2, .int (nI (k))), (3, .int (nI (w)))]) hx hb d_M_shape_157 hl (by decide) rfl (fun ls hl => ?_)
    refine lv_iload_n hx hb d_M_shape_159 rfl (lv_at hl 5 rfl) ?_
    refine lv_iconst (v := (nI (3))) hx hb d_M_shape_160 (by decide) ?_
    refine jv_icmp_ne (tgt := 168) hx hb (by omega) (by omega) d_M_shape_161 (by decide) (fun _ => ?_) (fun h => absurd h (by decide))
    refine lv_iconst (v := (nI (1))) hx hb d_M_shape_168 (by decide) ?_
    refine lv_istore (lv' := [(8, .int (nI (1))), (7, .int (nI ((S) / 3))), (6, .int (nI (S))), (5, .int (cm (3 + k))), (4, .int (cm (k))), (0, .ref h), (1, .int (nI (4))), (2, .int (nI (k))), (3, .int (nI (w)))]) hx hb d_M_shape_169 hl (by decide) rfl (fun ls hl => ?_)
    refine lv_aload_n hx hb d_M_shape_171 rfl (lv_at hl 5 rfl) ?_
    refine lv_iload hx hb d_M_shape_172 (lv_at hl 0 rfl) ?_
    refine lv_iload_n hx hb d_M_shape_174 rfl (lv_at hl 7 rfl) ?_
    refine lv_iload hx hb d_M_shape_175 (lv_at hl 4 rfl) ?_
    refine lv_iload hx hb d_M_shape_177 (lv_at hl 1 rfl) ?_
    refine lv_iadd hx hb d_M_shape_179 ?_
    refine lv_iload hx hb d_M_shape_180 (lv_at hl 3 rfl) ?_
    refine lv_iload hx hb d_M_shape_182 (lv_at hl 1 rfl) ?_
    refine lv_isub hx hb d_M_shape_184 ?_
    have hPc := hP.sub (ws' := [(h, .inr (3, fs)), (ad, eI g 288 (fd)), (adm, eI g 2 (dm)), (amd, eI g 1008 (md)), (ab, eI g 6 (bx)), (ac, eI g 6 (cm))]) [0, 1, 2, 3, 4, 5] rfl
    have hDc := hD.sub (ws' := [(h, .inr (3, fs)), (ad, eI g 288 (fd)), (adm, eI g 2 (dm)), (amd, eI g 1008 (md)), (ab, eI g 6 (bx)), (ac, eI g 6 (cm))]) [0, 1, 2, 3, 4, 5] (by decide) rfl
    have hFc := va_free (wc := [(h, .inr (3, fs)), (ad, eI g 288 (fd)), (adm, eI g 2 (dm)), (amd, eI g 1008 (md)), (ab, eI g 6 (bx)), (ac, eI g 6 (cm))]) hD hS hA [0, 1, 2, 3, 4, 5] rfl
    refine va_calli (va_runV (As := [.int (nI (1)), .int (nI (k)), .int ((cm (k)) + (nI ((S) / 3))), .int ((cm (3 + k)) - (nI ((S) / 3)))]) (rest := []) ⟨hx, hb, hml, hown, htB⟩ (m_M_loses l g z _ h (fs) ad adm amd ab ac (fd) (dm) (md) (bx) (cm) cl (1) (k) ((B0).length) ((cm (k)) + (nI ((S) / 3))) ((cm (3 + k)) - (nI ((S) / 3)))) (cwV 4 htB (gV kw_569 kw_571 ks_1_9 kw_3 g_M_loses) rfl rfl rfl (by decide +kernel) ⟨Nat.le_of_ble_eq_true rfl, Nat.le_of_ble_eq_true rfl⟩) (pre_V hS hz ha (va_recv ha.1 hP (ci := 3) (q0 := 0) rfl rfl) ⟨hPc, hDc.weaken (fun _ _ _ h => hz _ h), ⟨hf5, hf6, hf7, hf8, hf9, hf10, by omega, hk3, hR0.2.2.2.1, hR0.2.1⟩⟩) rfl rfl hl.1 rfl (lv_room (Nat.le_of_ble_eq_true rfl)) d_M_shape_185 ⟨Nat.le_of_ble_eq_true rfl, Nat.le_of_ble_eq_true rfl⟩) hS (fun q _ h => hFc q h) hFc (fun r_58 u_59 t H1 locs ht hvm hw hB hz1 hk1 hS => ?_)
    obtain ⟨hP1, hD1⟩ := hB
    rw [ht] at hP1
    obtain ⟨hP, hD⟩ := va_join (wr := []) (w1 := [(h, .inr (3, fs)), (ad, eI g 288 (if u_59.1 ≤ 24 then va_cpy u_59.2.2 (fd) 0 (144 * 1) (6 * u_59.1) else (fd))), (adm, eI g 2 (if u_59.1 ≤ 24 then upd (dm) 1 (nI u_59.1) else (dm))), (amd, eI g 1008 (u_59.2.2)), (ab, eI g 6 (lsB cm (bx) k ((cm (k)) + (nI ((S) / 3))) ((cm (3 + k)) - (nI ((S) / 3))) (if 1 = 0 then cl else nI 0))), (ac, eI g 6 (cm))]) hP hD [0, 1, 2, 3, 4, 5] [] rfl rfl (by decide) (by decide) hk1 hFc hP1 hD1
    clear hPc hDc hFc hP1 hD1 hk1 hz1 hvm ht
    generalize H1 = H at hP hS ⊢
    have hP : va_P g.1 cls [(h, .inr (3, fs)), (ad, eI g 288 (if u_59.1 ≤ 24 then va_cpy u_59.2.2 (fd) 0 (144 * 1) (6 * u_59.1) else (fd))), (adm, eI g 2 (if u_59.1 ≤ 24 then upd (dm) 1 (nI u_59.1) else (dm))), (amd, eI g 1008 (u_59.2.2)), (ab, eI g 6 (lsB cm (bx) k ((cm (k)) + (nI ((S) / 3))) ((cm (3 + k)) - (nI ((S) / 3))) (if 1 = 0 then cl else nI 0))), (ac, eI g 6 (cm))] H := hP
    have hD : va_D A [(h, .inr (3, fs)), (ad, eI g 288 (if u_59.1 ≤ 24 then va_cpy u_59.2.2 (fd) 0 (144 * 1) (6 * u_59.1) else (fd))), (adm, eI g 2 (if u_59.1 ≤ 24 then upd (dm) 1 (nI u_59.1) else (dm))), (amd, eI g 1008 (u_59.2.2)), (ab, eI g 6 (lsB cm (bx) k ((cm (k)) + (nI ((S) / 3))) ((cm (3 + k)) - (nI ((S) / 3))) (if 1 = 0 then cl else nI 0))), (ac, eI g 6 (cm))] := hD
    obtain ⟨hu1, hu2, hu3⟩ := hw
    subst hu2
    have hT : gb (lsB cm (bx) k ((cm (k)) + (nI ((S) / 3))) ((cm (3 + k)) - (nI ((S) / 3))) (if 1 = 0 then cl else nI 0)) 0 = lb cm k (if 1 = 0 then cl else nI 0) (S / 3) (S - S / 3) := lsB_lb hk3 (rfl) (hi_sub hS3 (Nat.div_le_self _ _))
    obtain ⟨e1, e2⟩ := lo_R1 hR0 hu1
    rw [hT] at e1 e2
    clear hu1 hu3 hT
    obtain ⟨bx60, hbx60⟩ : ∃ x : Nat → Int32, x = lsB cm (bx) k ((cm (k)) + (nI ((S) / 3))) ((cm (3 + k)) - (nI ((S) / 3))) (if 1 = 0 then cl else nI 0) := ⟨_, rfl⟩
    rw [← hbx60] at hP hD
    clear hbx60
    by_cases c_61 : u_59.1 ≤ 24
    · rw [if_pos c_61, if_pos c_61] at hP hD
      rw [if_pos c_61]
      have hR60 := e2 c_61
      have hq60 : (cutL (lb cm k (nI 0) (S / 3) (S - S / 3)) (B0)).length ≤ 24 := e1 ▸ c_61
      clear e1 e2
      obtain ⟨fd60, dm60, hfd60⟩ : ∃ x y : Nat → Int32, (x, y) = (va_cpy u_59.2.2 (fd) 0 (144 * 1) (6 * u_59.1), upd (dm) 1 (nI u_59.1)) := ⟨_, _, rfl⟩
      rw [show va_cpy u_59.2.2 (fd) 0 (144 * 1) (6 * u_59.1) = fd60 from (congrArg (fun x => x.1) hfd60).symm, show upd (dm) 1 (nI u_59.1) = dm60 from (congrArg (fun x => x.2) hfd60).symm] at hP hD hR60
      clear hfd60
      obtain ⟨LN60, hLN60⟩ : ∃ x : List Bx, (x, ()) = (cutL (lb cm k (nI 0) (S / 3) (S - S / 3)) (B0), ()) := ⟨_, rfl⟩
      have hLE60 : LN60 = cutL (lb cm k (nI 0) (S / 3) (S - S / 3)) (B0) := congrArg (fun x => x.1) hLN60
      have hR60 : dR fd60 dm60 (A0) LN60 := by rw [hLE60]; exact hR60
      have hN60 := hR60.2.2.2.1
      have hP : va_P g.1 cls [(h, .inr (3, fs)), (ad, eI g 288 (fd60)), (adm, eI g 2 (dm60)), (amd, eI g 1008 (u_59.2.2)), (ab, eI g 6 (bx60)), (ac, eI g 6 (cm))] H := hP
      have hD : va_D A [(h, .inr (3, fs)), (ad, eI g 288 (fd60)), (adm, eI g 2 (dm60)), (amd, eI g 1008 (u_59.2.2)), (ab, eI g 6 (bx60)), (ac, eI g 6 (cm))] := hD
      refine lv_if_eq (tgt := 233) hx hb d_M_shape_188 (by decide) (fun h => absurd h (by decide)) (fun _ => ?_)
      refine lv_aload_n hx hb d_M_shape_191 rfl (lv_at hl 5 rfl) ?_
      refine lv_iconst (v := (nI (1))) hx hb d_M_shape_192 (by decide) ?_
      refine lv_iload hx hb d_M_shape_193 (lv_at hl 0 rfl) ?_
      refine jv_isub hx hb (by omega) d_M_shape_195 ?_
      refine lv_iload_n hx hb d_M_shape_196 rfl (lv_at hl 7 rfl) ?_
      refine lv_iload hx hb d_M_shape_197 (lv_at hl 4 rfl) ?_
      refine lv_iload hx hb d_M_shape_199 (lv_at hl 4 rfl) ?_
      refine lv_iload hx hb d_M_shape_201 (lv_at hl 1 rfl) ?_
      refine lv_iadd hx hb d_M_shape_203 ?_
      have hPc := hP.sub (ws' := [(h, .inr (3, fs)), (ad, eI g 288 (fd60)), (adm, eI g 2 (dm60)), (amd, eI g 1008 (u_59.2.2)), (ab, eI g 6 (bx60)), (ac, eI g 6 (cm))]) [0, 1, 2, 3, 4, 5] rfl
      have hDc := hD.sub (ws' := [(h, .inr (3, fs)), (ad, eI g 288 (fd60)), (adm, eI g 2 (dm60)), (amd, eI g 1008 (u_59.2.2)), (ab, eI g 6 (bx60)), (ac, eI g 6 (cm))]) [0, 1, 2, 3, 4, 5] (by decide) rfl
      have hFc := va_free (wc := [(h, .inr (3, fs)), (ad, eI g 288 (fd60)), (adm, eI g 2 (dm60)), (amd, eI g 1008 (u_59.2.2)), (ab, eI g 6 (bx60)), (ac, eI g 6 (cm))]) hD hS hA [0, 1, 2, 3, 4, 5] rfl
      refine va_calli (va_runV (As := [.int (nI (0)), .int (nI (k)), .int (cm (k)), .int ((cm (k)) + (nI ((S) / 3)))]) (rest := []) ⟨hx, hb, hml, hown, htB⟩ (m_M_loses l g z _ h (fs) ad adm amd ab ac (fd60) (dm60) (u_59.2.2) (bx60) (cm) cl (0) (k) ((A0).length) (cm (k)) ((cm (k)) + (nI ((S) / 3)))) (cwV 4 htB (gV kw_569 kw_571 ks_1_9 kw_3 g_M_loses) rfl rfl rfl (by decide +kernel) ⟨Nat.le_of_ble_eq_true rfl, Nat.le_of_ble_eq_true rfl⟩) (pre_V hS hz ha (va_recv ha.1 hP (ci := 3) (q0 := 0) rfl rfl) ⟨hPc, hDc.weaken (fun _ _ _ h => hz _ h), ⟨hf5, hf6, hf7, hf8, hf9, hf10, by omega, hk3, hR60.2.2.1, hR60.1⟩⟩) rfl rfl hl.1 rfl (lv_room (Nat.le_of_ble_eq_true rfl)) d_M_shape_204 ⟨Nat.le_of_ble_eq_true rfl, Nat.le_of_ble_eq_true rfl⟩) hS (fun q _ h => hFc q h) hFc (fun r_63 u_64 t H1 locs ht hvm hw hB hz1 hk1 hS => ?_)
      obtain ⟨hP1, hD1⟩ := hB
      rw [ht] at hP1
      obtain ⟨hP, hD⟩ := va_join (wr := []) (w1 := [(h, .inr (3, fs)), (ad, eI g 288 (if u_64.1 ≤ 24 then va_cpy u_64.2.2 (fd60) 0 (144 * 0) (6 * u_64.1) else (fd60))), (adm, eI g 2 (if u_64.1 ≤ 24 then upd (dm60) 0 (nI u_64.1) else (dm60))), (amd, eI g 1008 (u_64.2.2)), (ab, eI g 6 (lsB cm (bx60) k (cm (k)) ((cm (k)) + (nI ((S) / 3))) (if 0 = 0 then cl else nI 0))), (ac, eI g 6 (cm))]) hP hD [0, 1, 2, 3, 4, 5] [] rfl rfl (by decide) (by decide) hk1 hFc hP1 hD1
      clear hPc hDc hFc hP1 hD1 hk1 hz1 hvm ht
      generalize H1 = H at hP hS ⊢
      have hP : va_P g.1 cls [(h, .inr (3, fs)), (ad, eI g 288 (if u_64.1 ≤ 24 then va_cpy u_64.2.2 (fd60) 0 (144 * 0) (6 * u_64.1) else (fd60))), (adm, eI g 2 (if u_64.1 ≤ 24 then upd (dm60) 0 (nI u_64.1) else (dm60))), (amd, eI g 1008 (u_64.2.2)), (ab, eI g 6 (lsB cm (bx60) k (cm (k)) ((cm (k)) + (nI ((S) / 3))) (if 0 = 0 then cl else nI 0))), (ac, eI g 6 (cm))] H := hP
      have hD : va_D A [(h, .inr (3, fs)), (ad, eI g 288 (if u_64.1 ≤ 24 then va_cpy u_64.2.2 (fd60) 0 (144 * 0) (6 * u_64.1) else (fd60))), (adm, eI g 2 (if u_64.1 ≤ 24 then upd (dm60) 0 (nI u_64.1) else (dm60))), (amd, eI g 1008 (u_64.2.2)), (ab, eI g 6 (lsB cm (bx60) k (cm (k)) ((cm (k)) + (nI ((S) / 3))) (if 0 = 0 then cl else nI 0))), (ac, eI g 6 (cm))] := hD
      obtain ⟨hu1, hu2, hu3⟩ := hw
      subst hu2
      have hT : gb (lsB cm (bx60) k (cm (k)) ((cm (k)) + (nI ((S) / 3))) (if 0 = 0 then cl else nI 0)) 0 = lb cm k (if 0 = 0 then cl else nI 0) (0) (S / 3) := lsB_lb hk3 (lo_0 _) (rfl)
      obtain ⟨e1, e2⟩ := lo_R0 hR60 hu1
      rw [hT] at e1 e2
      clear hu1 hu3 hT
      obtain ⟨bx65, hbx65⟩ : ∃ x : Nat → Int32, x = lsB cm (bx60) k (cm (k)) ((cm (k)) + (nI ((S) / 3))) (if 0 = 0 then cl else nI 0) := ⟨_, rfl⟩
      rw [← hbx65] at hP hD
      clear hbx65
      by_cases c_66 : u_64.1 ≤ 24
      · rw [if_pos c_66, if_pos c_66] at hP hD
        rw [if_pos c_66]
        have hR65 := e2 c_66
        have hq65 : (cutL (lb cm k cl (0) (S / 3)) (A0)).length ≤ 24 := e1 ▸ c_66
        clear e1 e2
        obtain ⟨fd65, dm65, hfd65⟩ : ∃ x y : Nat → Int32, (x, y) = (va_cpy u_64.2.2 (fd60) 0 (144 * 0) (6 * u_64.1), upd (dm60) 0 (nI u_64.1)) := ⟨_, _, rfl⟩
        rw [show va_cpy u_64.2.2 (fd60) 0 (144 * 0) (6 * u_64.1) = fd65 from (congrArg (fun x => x.1) hfd65).symm, show upd (dm60) 0 (nI u_64.1) = dm65 from (congrArg (fun x => x.2) hfd65).symm] at hP hD hR65
        clear hfd65
        obtain ⟨LN65, hLN65⟩ : ∃ x : List Bx, (x, ()) = (cutL (lb cm k cl (0) (S / 3)) (A0), ()) := ⟨_, rfl⟩
        have hLE65 : LN65 = cutL (lb cm k cl (0) (S / 3)) (A0) := congrArg (fun x => x.1) hLN65
        have hR65 : dR fd65 dm65 LN65 (LN60) := by rw [hLE65]; exact hR65
        have hN65 := hR65.2.2.1
        have hP : va_P g.1 cls [(h, .inr (3, fs)), (ad, eI g 288 (fd65)), (adm, eI g 2 (dm65)), (amd, eI g 1008 (u_64.2.2)), (ab, eI g 6 (bx65)), (ac, eI g 6 (cm))] H := hP
        have hD : va_D A [(h, .inr (3, fs)), (ad, eI g 288 (fd65)), (adm, eI g 2 (dm65)), (amd, eI g 1008 (u_64.2.2)), (ab, eI g 6 (bx65)), (ac, eI g 6 (cm))] := hD
        refine lv_if_eq (tgt := 233) hx hb d_M_shape_207 (by decide) (fun h => absurd h (by decide)) (fun _ => ?_)
        refine lv_aload_n hx hb d_M_shape_210 rfl (lv_at hl 5 rfl) ?_
        refine lv_iconst (v := (nI (1))) hx hb d_M_shape_211 (by decide) ?_
        refine lv_iload hx hb d_M_shape_212 (lv_at hl 0 rfl) ?_
        refine jv_isub hx hb (by omega) d_M_shape_214 ?_
        refine lv_iload_n hx hb d_M_shape_215 rfl (lv_at hl 7 rfl) ?_
        refine lv_iload hx hb d_M_shape_216 (lv_at hl 3 rfl) ?_
        refine lv_iload hx hb d_M_shape_218 (lv_at hl 1 rfl) ?_
        refine lv_isub hx hb d_M_shape_220 ?_
        refine lv_iload hx hb d_M_shape_221 (lv_at hl 3 rfl) ?_
        have hPc := hP.sub (ws' := [(h, .inr (3, fs)), (ad, eI g 288 (fd65)), (adm, eI g 2 (dm65)), (amd, eI g 1008 (u_64.2.2)), (ab, eI g 6 (bx65)), (ac, eI g 6 (cm))]) [0, 1, 2, 3, 4, 5] rfl
        have hDc := hD.sub (ws' := [(h, .inr (3, fs)), (ad, eI g 288 (fd65)), (adm, eI g 2 (dm65)), (amd, eI g 1008 (u_64.2.2)), (ab, eI g 6 (bx65)), (ac, eI g 6 (cm))]) [0, 1, 2, 3, 4, 5] (by decide) rfl
        have hFc := va_free (wc := [(h, .inr (3, fs)), (ad, eI g 288 (fd65)), (adm, eI g 2 (dm65)), (amd, eI g 1008 (u_64.2.2)), (ab, eI g 6 (bx65)), (ac, eI g 6 (cm))]) hD hS hA [0, 1, 2, 3, 4, 5] rfl
        refine va_calli (va_runV (As := [.int (nI (0)), .int (nI (k)), .int ((cm (3 + k)) - (nI ((S) / 3))), .int (cm (3 + k))]) (rest := []) ⟨hx, hb, hml, hown, htB⟩ (m_M_loses l g z _ h (fs) ad adm amd ab ac (fd65) (dm65) (u_64.2.2) (bx65) (cm) cl (0) (k) ((LN65).length) ((cm (3 + k)) - (nI ((S) / 3))) (cm (3 + k))) (cwV 4 htB (gV kw_569 kw_571 ks_1_9 kw_3 g_M_loses) rfl rfl rfl (by decide +kernel) ⟨Nat.le_of_ble_eq_true rfl, Nat.le_of_ble_eq_true rfl⟩) (pre_V hS hz ha (va_recv ha.1 hP (ci := 3) (q0 := 0) rfl rfl) ⟨hPc, hDc.weaken (fun _ _ _ h => hz _ h), ⟨hf5, hf6, hf7, hf8, hf9, hf10, by omega, hk3, hR65.2.2.1, hR65.1⟩⟩) rfl rfl hl.1 rfl (lv_room (Nat.le_of_ble_eq_true rfl)) d_M_shape_223 ⟨Nat.le_of_ble_eq_true rfl, Nat.le_of_ble_eq_true rfl⟩) hS (fun q _ h => hFc q h) hFc (fun r_68 u_69 t H1 locs ht hvm hw hB hz1 hk1 hS => ?_)
        obtain ⟨hP1, hD1⟩ := hB
        rw [ht] at hP1
        obtain ⟨hP, hD⟩ := va_join (wr := []) (w1 := [(h, .inr (3, fs)), (ad, eI g 288 (if u_69.1 ≤ 24 then va_cpy u_69.2.2 (fd65) 0 (144 * 0) (6 * u_69.1) else (fd65))), (adm, eI g 2 (if u_69.1 ≤ 24 then upd (dm65) 0 (nI u_69.1) else (dm65))), (amd, eI g 1008 (u_69.2.2)), (ab, eI g 6 (lsB cm (bx65) k ((cm (3 + k)) - (nI ((S) / 3))) (cm (3 + k)) (if 0 = 0 then cl else nI 0))), (ac, eI g 6 (cm))]) hP hD [0, 1, 2, 3, 4, 5] [] rfl rfl (by decide) (by decide) hk1 hFc hP1 hD1
        clear hPc hDc hFc hP1 hD1 hk1 hz1 hvm ht
        generalize H1 = H at hP hS ⊢
        have hP : va_P g.1 cls [(h, .inr (3, fs)), (ad, eI g 288 (if u_69.1 ≤ 24 then va_cpy u_69.2.2 (fd65) 0 (144 * 0) (6 * u_69.1) else (fd65))), (adm, eI g 2 (if u_69.1 ≤ 24 then upd (dm65) 0 (nI u_69.1) else (dm65))), (amd, eI g 1008 (u_69.2.2)), (ab, eI g 6 (lsB cm (bx65) k ((cm (3 + k)) - (nI ((S) / 3))) (cm (3 + k)) (if 0 = 0 then cl else nI 0))), (ac, eI g 6 (cm))] H := hP
        have hD : va_D A [(h, .inr (3, fs)), (ad, eI g 288 (if u_69.1 ≤ 24 then va_cpy u_69.2.2 (fd65) 0 (144 * 0) (6 * u_69.1) else (fd65))), (adm, eI g 2 (if u_69.1 ≤ 24 then upd (dm65) 0 (nI u_69.1) else (dm65))), (amd, eI g 1008 (u_69.2.2)), (ab, eI g 6 (lsB cm (bx65) k ((cm (3 + k)) - (nI ((S) / 3))) (cm (3 + k)) (if 0 = 0 then cl else nI 0))), (ac, eI g 6 (cm))] := hD
        obtain ⟨hu1, hu2, hu3⟩ := hw
        subst hu2
        have hT : gb (lsB cm (bx65) k ((cm (3 + k)) - (nI ((S) / 3))) (cm (3 + k)) (if 0 = 0 then cl else nI 0)) 0 = lb cm k (if 0 = 0 then cl else nI 0) (S - S / 3) (S) := lsB_lb hk3 (hi_sub hS3 (Nat.div_le_self _ _)) (hi_of hS3)
        obtain ⟨e1, e2⟩ := lo_R0 hR65 hu1
        rw [hT] at e1 e2
        clear hu1 hu3 hT
        obtain ⟨bx70, hbx70⟩ : ∃ x : Nat → Int32, x = lsB cm (bx65) k ((cm (3 + k)) - (nI ((S) / 3))) (cm (3 + k)) (if 0 = 0 then cl else nI 0) := ⟨_, rfl⟩
        rw [← hbx70] at hP hD
        clear hbx70
        by_cases c_71 : u_69.1 ≤ 24
        · rw [if_pos c_71, if_pos c_71] at hP hD
          rw [if_pos c_71]
          have hR70 := e2 c_71
          have hq70 : (cutL (lb cm k cl (S - S / 3) (S)) (LN65)).length ≤ 24 := e1 ▸ c_71
          clear e1 e2
          obtain ⟨fd70, dm70, hfd70⟩ : ∃ x y : Nat → Int32, (x, y) = (va_cpy u_69.2.2 (fd65) 0 (144 * 0) (6 * u_69.1), upd (dm65) 0 (nI u_69.1)) := ⟨_, _, rfl⟩
          rw [show va_cpy u_69.2.2 (fd65) 0 (144 * 0) (6 * u_69.1) = fd70 from (congrArg (fun x => x.1) hfd70).symm, show upd (dm65) 0 (nI u_69.1) = dm70 from (congrArg (fun x => x.2) hfd70).symm] at hP hD hR70
          clear hfd70
          obtain ⟨LN70, hLN70⟩ : ∃ x : List Bx, (x, ()) = (cutL (lb cm k cl (S - S / 3) (S)) (LN65), ()) := ⟨_, rfl⟩
          have hLE70 : LN70 = cutL (lb cm k cl (S - S / 3) (S)) (LN65) := congrArg (fun x => x.1) hLN70
          have hR70 : dR fd70 dm70 LN70 (LN60) := by rw [hLE70]; exact hR70
          have hN70 := hR70.2.2.1
          have hP : va_P g.1 cls [(h, .inr (3, fs)), (ad, eI g 288 (fd70)), (adm, eI g 2 (dm70)), (amd, eI g 1008 (u_69.2.2)), (ab, eI g 6 (bx70)), (ac, eI g 6 (cm))] H := hP
          have hD : va_D A [(h, .inr (3, fs)), (ad, eI g 288 (fd70)), (adm, eI g 2 (dm70)), (amd, eI g 1008 (u_69.2.2)), (ab, eI g 6 (bx70)), (ac, eI g 6 (cm))] := hD
          refine lv_if_eq (tgt := 233) hx hb d_M_shape_226 (by decide) (fun h => absurd h (by decide)) (fun _ => ?_)
          refine lv_iconst (v := (nI (1))) hx hb d_M_shape_229 (by decide) ?_
          refine lv_goto (tgt := 234) hx hb d_M_shape_230 (by decide) ?_
          have hP9 := hP.sub (ws' := [(h, .inr (3, fs)), (ad, eI g 288 (fd70)), (adm, eI g 2 (dm70)), (amd, eI g 1008 (u_69.2.2)), (ab, eI g 6 (bx70)), (ac, eI g 6 (cm))]) [0, 1, 2, 3, 4, 5] rfl
          have hD9 := hD.sub (ws' := [(h, .inr (3, fs)), (ad, eI g 288 (fd70)), (adm, eI g 2 (dm70)), (amd, eI g 1008 (u_69.2.2)), (ab, eI g 6 (bx70)), (ac, eI g 6 (cm))]) [0, 1, 2, 3, 4, 5] (by decide) rfl
          exact (W.widen (k := 0) (n := 0) (Nat.le_of_ble_eq_true rfl) (Nat.le_of_ble_eq_true rfl) (W.zret (v := (nI (1))) hx hb hr (by decide) (fun t ht hW => ⟨⟨(nI (1)), (fd70, dm70, u_69.2.2, bx70), rfl, Or.inl ⟨LN70, LN60, by rw [hLE70, hLE65, hLE60]; exact (((seq3_t (cm := cm) (k := k) (cl := cl) (ms := mkN 4 S w) (LA := A0) (LB := B0)).trans (if_pos hq60)).trans (if_pos hq65)).trans (if_pos (by rw [hLE65] at hq70; exact hq70)), rfl, hR70⟩, by rw [ht]; exact hP9, hD9.re [h, ad, adm, amd, ab, ac] rfl rfl⟩, hS.F ht⟩) hS.2.2 d_M_shape_234))
        · rw [if_neg c_71, if_neg c_71] at hP hD
          rw [if_neg c_71]
          have hq70 : ¬ (cutL (lb cm k cl (S - S / 3) (S)) (LN65)).length ≤ 24 := e1 ▸ c_71
          have hP : va_P g.1 cls [(h, .inr (3, fs)), (ad, eI g 288 (fd65)), (adm, eI g 2 (dm65)), (amd, eI g 1008 (u_69.2.2)), (ab, eI g 6 (bx70)), (ac, eI g 6 (cm))] H := hP
          have hD : va_D A [(h, .inr (3, fs)), (ad, eI g 288 (fd65)), (adm, eI g 2 (dm65)), (amd, eI g 1008 (u_69.2.2)), (ab, eI g 6 (bx70)), (ac, eI g 6 (cm))] := hD
          refine lv_if_eq (tgt := 233) hx hb d_M_shape_226 (by decide) (fun _ => ?_) (fun h => absurd h (by decide))
          refine lv_iconst (v := (nI (0))) hx hb d_M_shape_233 (by decide) ?_
          have hP9 := hP.sub (ws' := [(h, .inr (3, fs)), (ad, eI g 288 (fd65)), (adm, eI g 2 (dm65)), (amd, eI g 1008 (u_69.2.2)), (ab, eI g 6 (bx70)), (ac, eI g 6 (cm))]) [0, 1, 2, 3, 4, 5] rfl
          have hD9 := hD.sub (ws' := [(h, .inr (3, fs)), (ad, eI g 288 (fd65)), (adm, eI g 2 (dm65)), (amd, eI g 1008 (u_69.2.2)), (ab, eI g 6 (bx70)), (ac, eI g 6 (cm))]) [0, 1, 2, 3, 4, 5] (by decide) rfl
          exact (W.widen (k := 0) (n := 0) (Nat.le_of_ble_eq_true rfl) (Nat.le_of_ble_eq_true rfl) (W.zret (v := (nI (0))) hx hb hr (by decide) (fun t ht hW => ⟨⟨(nI (0)), (fd65, dm65, u_69.2.2, bx70), rfl, Or.inr ⟨(((seq3_t (cm := cm) (k := k) (cl := cl) (ms := mkN 4 S w) (LA := A0) (LB := B0)).trans (if_pos hq60)).trans (if_pos hq65)).trans (if_neg (by rw [hLE65] at hq70; exact hq70)), rfl⟩, by rw [ht]; exact hP9, hD9.re [h, ad, adm, amd, ab, ac] rfl rfl⟩, hS.F ht⟩) hS.2.2 d_M_shape_234))
      · rw [if_neg c_66, if_neg c_66] at hP hD
        rw [if_neg c_66]
        have hq65 : ¬ (cutL (lb cm k cl (0) (S / 3)) (A0)).length ≤ 24 := e1 ▸ c_66
        have hP : va_P g.1 cls [(h, .inr (3, fs)), (ad, eI g 288 (fd60)), (adm, eI g 2 (dm60)), (amd, eI g 1008 (u_64.2.2)), (ab, eI g 6 (bx65)), (ac, eI g 6 (cm))] H := hP
        have hD : va_D A [(h, .inr (3, fs)), (ad, eI g 288 (fd60)), (adm, eI g 2 (dm60)), (amd, eI g 1008 (u_64.2.2)), (ab, eI g 6 (bx65)), (ac, eI g 6 (cm))] := hD
        refine lv_if_eq (tgt := 233) hx hb d_M_shape_207 (by decide) (fun _ => ?_) (fun h => absurd h (by decide))
        refine lv_iconst (v := (nI (0))) hx hb d_M_shape_233 (by decide) ?_
        have hP9 := hP.sub (ws' := [(h, .inr (3, fs)), (ad, eI g 288 (fd60)), (adm, eI g 2 (dm60)), (amd, eI g 1008 (u_64.2.2)), (ab, eI g 6 (bx65)), (ac, eI g 6 (cm))]) [0, 1, 2, 3, 4, 5] rfl
        have hD9 := hD.sub (ws' := [(h, .inr (3, fs)), (ad, eI g 288 (fd60)), (adm, eI g 2 (dm60)), (amd, eI g 1008 (u_64.2.2)), (ab, eI g 6 (bx65)), (ac, eI g 6 (cm))]) [0, 1, 2, 3, 4, 5] (by decide) rfl
        exact (W.widen (k := 0) (n := 0) (Nat.le_of_ble_eq_true rfl) (Nat.le_of_ble_eq_true rfl) (W.zret (v := (nI (0))) hx hb hr (by decide) (fun t ht hW => ⟨⟨(nI (0)), (fd60, dm60, u_64.2.2, bx65), rfl, Or.inr ⟨((seq3_t (cm := cm) (k := k) (cl := cl) (ms := mkN 4 S w) (LA := A0) (LB := B0)).trans (if_pos hq60)).trans (if_neg hq65), rfl⟩, by rw [ht]; exact hP9, hD9.re [h, ad, adm, amd, ab, ac] rfl rfl⟩, hS.F ht⟩) hS.2.2 d_M_shape_234))
    · rw [if_neg c_61, if_neg c_61] at hP hD
      rw [if_neg c_61]
      have hq60 : ¬ (cutL (lb cm k (nI 0) (S / 3) (S - S / 3)) (B0)).length ≤ 24 := e1 ▸ c_61
      have hP : va_P g.1 cls [(h, .inr (3, fs)), (ad, eI g 288 (fd)), (adm, eI g 2 (dm)), (amd, eI g 1008 (u_59.2.2)), (ab, eI g 6 (bx60)), (ac, eI g 6 (cm))] H := hP
      have hD : va_D A [(h, .inr (3, fs)), (ad, eI g 288 (fd)), (adm, eI g 2 (dm)), (amd, eI g 1008 (u_59.2.2)), (ab, eI g 6 (bx60)), (ac, eI g 6 (cm))] := hD
      refine lv_if_eq (tgt := 233) hx hb d_M_shape_188 (by decide) (fun _ => ?_) (fun h => absurd h (by decide))
      refine lv_iconst (v := (nI (0))) hx hb d_M_shape_233 (by decide) ?_
      have hP9 := hP.sub (ws' := [(h, .inr (3, fs)), (ad, eI g 288 (fd)), (adm, eI g 2 (dm)), (amd, eI g 1008 (u_59.2.2)), (ab, eI g 6 (bx60)), (ac, eI g 6 (cm))]) [0, 1, 2, 3, 4, 5] rfl
      have hD9 := hD.sub (ws' := [(h, .inr (3, fs)), (ad, eI g 288 (fd)), (adm, eI g 2 (dm)), (amd, eI g 1008 (u_59.2.2)), (ab, eI g 6 (bx60)), (ac, eI g 6 (cm))]) [0, 1, 2, 3, 4, 5] (by decide) rfl
      exact (W.widen (k := 0) (n := 0) (Nat.le_of_ble_eq_true rfl) (Nat.le_of_ble_eq_true rfl) (W.zret (v := (nI (0))) hx hb hr (by decide) (fun t ht hW => ⟨⟨(nI (0)), (fd, dm, u_59.2.2, bx60), rfl, Or.inr ⟨(seq3_t (cm := cm) (k := k) (cl := cl) (ms := mkN 4 S w) (LA := A0) (LB := B0)).trans (if_neg hq60), rfl⟩, by rw [ht]; exact hP9, hD9.re [h, ad, adm, amd, ab, ac] rfl rfl⟩, hS.F ht⟩) hS.2.2 d_M_shape_234))
