/-- how many spans a kind has, and where the i-th begins -/
def spN (kd S w : Nat) : Nat := if kd = 0 then 2 else if kd = 1 then 1 else if kd = 2 then (S + w - 1) / w else 3
def mkN (kd S w i : Nat) : Nat := if i = spN kd S w then S else if kd = 0 then (if i = 0 then 0 else S / 2) else if kd = 1 then 0 else if kd = 2 then i * w else (if i = 0 then 0 else if i = 1 then S / 3 else S - S / 3)
theorem mk_fin {m2 : Nat → Int32} {S w n : Nat} (h0 : m2 0 = nI 0) (hm : ∀ j, 1 ≤ j → j < n → m2 j = nI (j * w)) (hn : n = (S + w - 1) / w) (hn1 : 1 ≤ n) : ∀ j, j ≤ n → upd m2 n (nI S) j = nI (mkN 2 S w j) := by
  intro j hj
  have e : spN 2 S w = n := hn.symm
  by_cases q : j = n
  · rw [q, pk_us]; unfold mkN; rw [if_pos e.symm]
  · rw [pk_un q]
    unfold mkN; rw [if_neg (by rw [e]; exact q)]
    show m2 j = nI (j * w)
    by_cases q0 : j = 0
    · rw [q0, h0, Nat.zero_mul]
    · exact hm j (by omega) (by omega)
set_option maxHeartbeats 4000000 in
set_option maxRecDepth 100000 in
theorem m_J_markSpans (l : Launch) (g : gT) (z : Nat) (H0 : Heap) (h : Nat) (fs : List Value) (amk : Nat) (mk : Nat → Int32) (kd S w : Nat) : Met l y_J_markSpans w_J_markSpans ({ frames := 1, cells := 0, slots := 0, locals := 21 }) (va_Pc [.ref h, .int (nI (kd)), .int (nI (S)), .int (nI (w))] (pB g z H0 (va_P g.1 cls [(h, .inr (1, fs)), (amk, eI g 9 (mk))] H0 ∧ va_D (zA z) [(h, .inr (1, fs)), (amk, eI g 9 (mk))] ∧ (fs[13]? = some (.ref amk) ∧ kd < 5 ∧ 1 ≤ S ∧ S ≤ 8000 ∧ 1 ≤ w ∧ w ≤ 1000 ∧ (kd = 2 → (S + w - 1) / w ≤ 8) ∧ mk 0 = nI 0)))) (va_Qi (fun (rr : Int32) (u : Nat × (Nat → Int32)) => rr = nI u.1 ∧ u.1 = spN kd S w ∧ ∀ j, j ≤ u.1 → u.2 j = nI (mkN kd S w j)) (fun (u : Nat × (Nat → Int32)) t => va_P g.1 cls [(h, .inr (1, fs)), (amk, eI g 9 (u.2))] t.heap ∧ va_D (va_A [(h, .inr (1, fs)), (amk, eI g 9 (mk))] H0.size) [(h, .inr (1, fs)), (amk, eI g 9 (u.2))]) (va_A [(h, .inr (1, fs)), (amk, eI g 9 (mk))] H0.size)) 0 0 (va_A [(h, .inr (1, fs)), (amk, eI g 9 (mk))] H0.size) := by
  refine Met.ofW (cc := c_J_markSpans) (maxL := 6) (ret := (some .int)) (by decide) rfl ?_
  intro p e s m args below meth c s₁ B hml hv
  obtain ⟨rfl, hH0, ha, hP, hD0, hf13, hkd, hS1, hS2, hw1, hw2, hn8, hm0⟩ := hv
  have hx := B.exec
  have hb := B.bytes
  have hr := B.returns
  have htB : ∀ w ∈ tB, w.before _ s = true := fun w h => atoms_spec (ws := w_J_markSpans) B.pre w (List.mem_cons_of_mem _ h)
  have hown : s.vm.findClass "JointSolids" = some m.cls := findClass_of_methodNamed B.named
  have hlocks := B.notSynchronized
  subst hH0
  have hD := hD0.self (sz := s.heap.size)
  have hz := aA_z hD0 ha.2.2.2.2.2
  generalize hAe : va_A [(h, .inr (1, fs)), (amk, eI g 9 (mk))] s.heap.size = A at hD hz ⊢
  have hA : ∀ q : Nat, s.heap.size ≤ q → A q := fun q h => by rw [← hAe]; exact Or.inr h
  have hS : va_S A s.heap s.heap [] := va_S.rf
  refine W.ofH hP hS (fun H locs hP hS => ?_)
  have hl := lv_entry ([.ref h, .int (nI (kd)), .int (nI (S)), .int (nI (w))]) (n := 6) (Nat.le_of_ble_eq_true rfl)
  rw [lg_entry_eq]
  generalize (lg_sl ([.ref h, .int (nI (kd)), .int (nI (S)), .int (nI (w))]) ++ List.replicate (6 - (lg_sl ([.ref h, .int (nI (kd)), .int (nI (S)), .int (nI (w))])).length) Slot.unset).toArray = ls at hl ⊢
  have hl : lv_has ls 6 [(0, .ref h), (1, .int (nI (kd))), (2, .int (nI (S))), (3, .int (nI (w)))] := hl
  refine lv_iload_n hx hb d_J_markSpans_0 rfl (lv_at hl 1 rfl) ?_
  rcases (show kd = 0 ∨ kd = 1 ∨ kd = 2 ∨ kd = 3 ∨ kd = 4 by omega) with rfl | rfl | rfl | rfl | rfl
  · refine lv_tableIn (off := 27) (tgt := 28) hx hb d_J_markSpans_1 (by decide) (by decide) rfl (by decide) ?_
    refine lv_iconst (v := (nI (2))) hx hb d_J_markSpans_28 (by decide) ?_
    refine lv_istore (lv' := [(4, .int (nI (2))), (0, .ref h), (1, .int (nI (0))), (2, .int (nI (S))), (3, .int (nI (w)))]) hx hb d_J_markSpans_29 hl (by decide) rfl (fun ls hl => ?_)
    refine lv_aload_n hx hb d_J_markSpans_31 rfl (lv_at hl 1 rfl) ?_
    refine va_get (D := g.1) (ci := 1) (v := .ref amk) (C := R_J) (T := F_J) (N := 14) hx hb htB in_J hown ha.1 hP 0 rfl rfl 13 (by decide) (htB _ kw_53) (fun _ h9 => h9) hf13 d_J_markSpans_32 ?_
    refine lv_iconst (v := (nI (1))) hx hb d_J_markSpans_35 (by decide) ?_
    refine lv_iload_n hx hb d_J_markSpans_36 rfl (lv_at hl 3 rfl) ?_
    refine lv_iconst (v := (nI (2))) hx hb d_J_markSpans_37 (by decide) ?_
    refine jv_idiv hx hb (by omega) (by omega) (by omega) d_J_markSpans_38 ?_
    refine ja_ast (k := 1) hx hb ha.1 hP hD hS 1 0 rfl rfl (by omega) (by omega) d_J_markSpans_39 (fun H locs hP hD hS => ?_)
    have hP : va_P g.1 cls [(h, .inr (1, fs)), (amk, eI g 9 (upd (mk) (1) (nI ((S) / 2))))] H := hP
    have hD : va_D A [(h, .inr (1, fs)), (amk, eI g 9 (upd (mk) (1) (nI ((S) / 2))))] := hD
    refine lv_goto (tgt := 114) hx hb d_J_markSpans_40 (by decide) ?_
    refine lv_aload_n hx hb d_J_markSpans_114 rfl (lv_at hl 1 rfl) ?_
    refine va_get (D := g.1) (ci := 1) (v := .ref amk) (C := R_J) (T := F_J) (N := 14) hx hb htB in_J hown ha.1 hP 0 rfl rfl 13 (by decide) (htB _ kw_53) (fun _ h9 => h9) hf13 d_J_markSpans_115 ?_
    refine lv_iload hx hb d_J_markSpans_118 (lv_at hl 0 rfl) ?_
    refine lv_iload_n hx hb d_J_markSpans_120 rfl (lv_at hl 3 rfl) ?_
    refine ja_ast (k := 2) hx hb ha.1 hP hD hS 1 0 rfl rfl (by omega) (by omega) d_J_markSpans_121 (fun H locs hP hD hS => ?_)
    have hP : va_P g.1 cls [(h, .inr (1, fs)), (amk, eI g 9 (upd (upd (mk) (1) (nI ((S) / 2))) (2) (nI (S))))] H := hP
    have hD : va_D A [(h, .inr (1, fs)), (amk, eI g 9 (upd (upd (mk) (1) (nI ((S) / 2))) (2) (nI (S))))] := hD
    refine lv_iload hx hb d_J_markSpans_122 (lv_at hl 0 rfl) ?_
    have hP9 := hP.sub (ws' := [(h, .inr (1, fs)), (amk, eI g 9 (upd (upd (mk) (1) (nI ((S) / 2))) (2) (nI (S))))]) [0, 1] rfl
    have hD9 := hD.sub (ws' := [(h, .inr (1, fs)), (amk, eI g 9 (upd (upd (mk) (1) (nI ((S) / 2))) (2) (nI (S))))]) [0, 1] (by decide) rfl
    exact (W.widen (k := 0) (n := 0) (Nat.le_of_ble_eq_true rfl) (Nat.le_of_ble_eq_true rfl) (W.iret (v := (nI (2))) hx hb hr (fun t ht hW => ⟨⟨(nI (2)), (2, upd (upd (mk) (1) (nI ((S) / 2))) (2) (nI (S))), rfl, ⟨rfl, rfl, fun j hj => by (rcases (show j = 0 ∨ j = 1 ∨ j = 2 by have : j ≤ 2 := hj; omega) with rfl | rfl | rfl); (exact hm0); all_goals rfl⟩, by rw [ht]; exact hP9, hD9.re [h, amk] rfl rfl⟩, hS.F ht⟩) hS.2.2 d_J_markSpans_124))
  · refine lv_tableIn (off := 42) (tgt := 43) hx hb d_J_markSpans_1 (by decide) (by decide) rfl (by decide) ?_
    refine lv_iconst (v := (nI (1))) hx hb d_J_markSpans_43 (by decide) ?_
    refine lv_istore (lv' := [(4, .int (nI (1))), (0, .ref h), (1, .int (nI (1))), (2, .int (nI (S))), (3, .int (nI (w)))]) hx hb d_J_markSpans_44 hl (by decide) rfl (fun ls hl => ?_)
    refine lv_goto (tgt := 114) hx hb d_J_markSpans_46 (by decide) ?_
    refine lv_aload_n hx hb d_J_markSpans_114 rfl (lv_at hl 1 rfl) ?_
    refine va_get (D := g.1) (ci := 1) (v := .ref amk) (C := R_J) (T := F_J) (N := 14) hx hb htB in_J hown ha.1 hP 0 rfl rfl 13 (by decide) (htB _ kw_53) (fun _ h9 => h9) hf13 d_J_markSpans_115 ?_
    refine lv_iload hx hb d_J_markSpans_118 (lv_at hl 0 rfl) ?_
    refine lv_iload_n hx hb d_J_markSpans_120 rfl (lv_at hl 3 rfl) ?_
    refine ja_ast (k := 1) hx hb ha.1 hP hD hS 1 0 rfl rfl (by omega) (by omega) d_J_markSpans_121 (fun H locs hP hD hS => ?_)
    have hP : va_P g.1 cls [(h, .inr (1, fs)), (amk, eI g 9 (upd (mk) (1) (nI (S))))] H := hP
    have hD : va_D A [(h, .inr (1, fs)), (amk, eI g 9 (upd (mk) (1) (nI (S))))] := hD
    refine lv_iload hx hb d_J_markSpans_122 (lv_at hl 0 rfl) ?_
    have hP9 := hP.sub (ws' := [(h, .inr (1, fs)), (amk, eI g 9 (upd (mk) (1) (nI (S))))]) [0, 1] rfl
    have hD9 := hD.sub (ws' := [(h, .inr (1, fs)), (amk, eI g 9 (upd (mk) (1) (nI (S))))]) [0, 1] (by decide) rfl
    exact (W.widen (k := 0) (n := 0) (Nat.le_of_ble_eq_true rfl) (Nat.le_of_ble_eq_true rfl) (W.iret (v := (nI (1))) hx hb hr (fun t ht hW => ⟨⟨(nI (1)), (1, upd (mk) (1) (nI (S))), rfl, ⟨rfl, rfl, fun j hj => by (rcases (show j = 0 ∨ j = 1 by have : j ≤ 1 := hj; omega) with rfl | rfl); (exact hm0); all_goals rfl⟩, by rw [ht]; exact hP9, hD9.re [h, amk] rfl rfl⟩, hS.F ht⟩) hS.2.2 d_J_markSpans_124))
  · refine lv_tableIn (off := 48) (tgt := 49) hx hb d_J_markSpans_1 (by decide) (by decide) rfl (by decide) ?_
    refine lv_iload_n hx hb d_J_markSpans_49 rfl (lv_at hl 2 rfl) ?_
    refine lv_iload_n hx hb d_J_markSpans_50 rfl (lv_at hl 3 rfl) ?_
    refine va_calli (va_runS (As := [.int (nI (S)), .int (nI (w))]) (rest := []) ⟨hx, hb, hml, hown, htB⟩ (p_J_slicesOf l g z _ (S) (w)) (va_cwS 2 htB (gS kw_306 kw_307 kw_1 g_J_slicesOf) rfl rfl rfl (by decide +kernel) ⟨by decide, by decide⟩) (pre_S hS hz ha ⟨by omega, by omega, by omega⟩) rfl rfl hl.1 rfl (lv_room (Nat.le_of_ble_eq_true rfl)) d_J_markSpans_51 ⟨by decide, by decide⟩) hS (fun q _ h => h.elim) (fun q h => h.elim) (fun r_1 u t H1 locs ht hvm hw hB hz1 hk1 hS => ?_)
    obtain rfl := hB.symm.trans ht
    subst hw
    obtain ⟨n, hn⟩ : ∃ n : Nat, n = (S + w - 1) / w := ⟨_, rfl⟩
    rw [← hn] at hn8 ⊢
    have hn1 : 1 ≤ n := by rw [hn]; exact (Nat.le_div_iff_mul_le (by omega)).mpr (by omega)
    have hnT : (n, ()) = ((S + w - 1) / w, ()) := by rw [hn]
    clear hn
    refine lv_bipush (v := (nI (8))) hx hb d_J_markSpans_54 (by decide) ?_
    refine va_mmin (own := "JointSolids") hx hb (hml.trans hl.1.symm) hown (htB _ kw_171) (htB _ kw_172) (htB _ kw_4) (htB _ kw_173) (Nat.le_of_ble_eq_true rfl) (Nat.le_of_ble_eq_true rfl) (Nat.le_of_ble_eq_true rfl) (Nat.le_of_ble_eq_true rfl) d_J_markSpans_56 ?_
    rw [show (if (nI (8)) < (nI (n)) then (nI (8)) else (nI (n))) = (nI (n)) from mn_le (hn8 rfl) (by decide)]
    refine lv_istore (lv' := [(4, .int (nI (n))), (0, .ref h), (1, .int (nI (2))), (2, .int (nI (S))), (3, .int (nI (w)))]) hx hb d_J_markSpans_59 hl (by decide) rfl (fun ls hl => ?_)
    refine lv_iconst (v := (nI (1))) hx hb d_J_markSpans_61 (by decide) ?_
    refine lv_istore (lv' := [(5, .int (nI (1))), (4, .int (nI (n))), (0, .ref h), (1, .int (nI (2))), (2, .int (nI (S))), (3, .int (nI (w)))]) hx hb d_J_markSpans_62 hl (by decide) rfl (fun ls hl => ?_)
    refine W.loop (N := n) (X := fun i ls locs H => i ≤ n ∧ ∃ (m2 : Nat → Int32), (m2 0 = nI 0 ∧ 1 ≤ i ∧ ∀ j, 1 ≤ j → j < i → m2 j = nI (j * w)) ∧ lv_has ls 6 [(0, .ref h), (1, .int (nI (2))), (2, .int (nI (S))), (3, .int (nI (w))), (4, .int (nI (n))), (5, .int (nI (i)))] ∧ va_P g.1 cls [(h, .inr (1, fs)), (amk, eI g 9 (m2))] H ∧ va_D A [(h, .inr (1, fs)), (amk, eI g 9 (m2))] ∧ va_S A s.heap H locs) 1 ⟨hn1, mk, ⟨hm0, Nat.le_refl 1, fun j h1 h2 => absurd h1 (by omega)⟩, lv_sub hl [2, 3, 4, 5, 1, 0] rfl, hP, hD.re [h, amk] rfl rfl, hS⟩ (fun n_2 ih_3 i ls locs H hn_i hi_i hX => ?_) (fun _ _ _ _ hX => hX.1)
    obtain ⟨-, m2, heq, hl, hP, hD, hS⟩ := hX
    refine lv_iload hx hb d_J_markSpans_64 (lv_at hl 5 rfl) ?_
    refine lv_iload hx hb d_J_markSpans_66 (lv_at hl 4 rfl) ?_
    refine jv_icmp_ge (tgt := 88) hx hb (by omega) (by omega) d_J_markSpans_68 (by decide) (fun c_4 => ?_) (fun c_4 => ?_)
    · refine lv_goto (tgt := 114) hx hb d_J_markSpans_88 (by decide) ?_
      refine lv_aload_n hx hb d_J_markSpans_114 rfl (lv_at hl 0 rfl) ?_
      refine va_get (D := g.1) (ci := 1) (v := .ref amk) (C := R_J) (T := F_J) (N := 14) hx hb htB in_J hown ha.1 hP 0 rfl rfl 13 (by decide) (htB _ kw_53) (fun _ h9 => h9) hf13 d_J_markSpans_115 ?_
      refine lv_iload hx hb d_J_markSpans_118 (lv_at hl 4 rfl) ?_
      refine lv_iload_n hx hb d_J_markSpans_120 rfl (lv_at hl 2 rfl) ?_
      refine ja_ast (k := n) hx hb ha.1 hP hD hS 1 0 rfl rfl (by omega) (by omega) d_J_markSpans_121 (fun H locs hP hD hS => ?_)
      have hP : va_P g.1 cls [(h, .inr (1, fs)), (amk, eI g 9 (upd (m2) (n) (nI (S))))] H := hP
      have hD : va_D A [(h, .inr (1, fs)), (amk, eI g 9 (upd (m2) (n) (nI (S))))] := hD
      refine lv_iload hx hb d_J_markSpans_122 (lv_at hl 4 rfl) ?_
      have hP9 := hP.sub (ws' := [(h, .inr (1, fs)), (amk, eI g 9 (upd (m2) (n) (nI (S))))]) [0, 1] rfl
      have hD9 := hD.sub (ws' := [(h, .inr (1, fs)), (amk, eI g 9 (upd (m2) (n) (nI (S))))]) [0, 1] (by decide) rfl
      exact (W.widen (k := 0) (n := 0) (Nat.le_of_ble_eq_true rfl) (Nat.le_of_ble_eq_true rfl) (W.iret (v := (nI (n))) hx hb hr (fun t ht hW => ⟨⟨(nI (n)), (n, upd (m2) (n) (nI (S))), rfl, ⟨rfl, congrArg (fun x => x.1) hnT, mk_fin heq.1 (fun j h1 h2 => heq.2.2 j h1 (by omega)) (congrArg (fun x => x.1) hnT) hn1⟩, by rw [ht]; exact hP9, hD9.re [h, amk] rfl rfl⟩, hS.F ht⟩) hS.2.2 d_J_markSpans_124))
    · refine lv_aload_n hx hb d_J_markSpans_71 rfl (lv_at hl 0 rfl) ?_
      refine va_get (D := g.1) (ci := 1) (v := .ref amk) (C := R_J) (T := F_J) (N := 14) hx hb htB in_J hown ha.1 hP 0 rfl rfl 13 (by decide) (htB _ kw_53) (fun _ h9 => h9) hf13 d_J_markSpans_72 ?_
      refine lv_iload hx hb d_J_markSpans_75 (lv_at hl 5 rfl) ?_
      refine lv_iload hx hb d_J_markSpans_77 (lv_at hl 5 rfl) ?_
      refine lv_iload_n hx hb d_J_markSpans_79 rfl (lv_at hl 3 rfl) ?_
      refine jv_imul hx hb d_J_markSpans_80 ?_
      refine ja_ast (k := i) hx hb ha.1 hP hD hS 1 0 rfl rfl (by omega) (by omega) d_J_markSpans_81 (fun H locs hP hD hS => ?_)
      have hP : va_P g.1 cls [(h, .inr (1, fs)), (amk, eI g 9 (upd (m2) (i) (nI (i * w))))] H := hP
      have hD : va_D A [(h, .inr (1, fs)), (amk, eI g 9 (upd (m2) (i) (nI (i * w))))] := hD
      refine lv_iinc (v := nI (i + 1)) (lv' := [(5, .int (nI (i + 1))), (0, .ref h), (1, .int (nI (2))), (2, .int (nI (S))), (3, .int (nI (w))), (4, .int (nI (n)))]) hx hb d_J_markSpans_82 hl (k := 5) rfl (nI_add _ 1) (by decide) rfl (fun ls hl => ?_)
      refine lv_goto (tgt := 64) hx hb d_J_markSpans_85 (by decide) ?_
      exact ih_3 (i + 1) ls locs H (by omega) ⟨by omega, upd (m2) (i) (nI (i * w)), ⟨by rw [pk_un (by omega)]; exact heq.1, by omega, fun j h1 h2 => by by_cases q : j = i; (rw [q, pk_us]); (rw [pk_un q]; exact heq.2.2 j h1 (by omega))⟩, lv_sub (l' := [(0, .ref h), (1, .int (nI (2))), (2, .int (nI (S))), (3, .int (nI (w))), (4, .int (nI (n))), (5, .int (nI (i + 1)))]) hl [1, 2, 3, 4, 5, 0] rfl, hP.sub (ws' := [(h, .inr (1, fs)), (amk, eI g 9 (upd (m2) (i) (nI (i * w))))]) [0, 1] rfl, (hD.sub (ws' := [(h, .inr (1, fs)), (amk, eI g 9 (upd (m2) (i) (nI (i * w))))]) [0, 1] (by decide) rfl).re [h, amk] rfl rfl, hS⟩
  · refine lv_tableOut (tgt := 91) hx hb d_J_markSpans_1 (by decide) (by decide) ?_
    refine lv_iconst (v := (nI (3))) hx hb d_J_markSpans_91 (by decide) ?_
    refine lv_istore (lv' := [(4, .int (nI (3))), (0, .ref h), (1, .int (nI (3))), (2, .int (nI (S))), (3, .int (nI (w)))]) hx hb d_J_markSpans_92 hl (by decide) rfl (fun ls hl => ?_)
    refine lv_aload_n hx hb d_J_markSpans_94 rfl (lv_at hl 1 rfl) ?_
    refine va_get (D := g.1) (ci := 1) (v := .ref amk) (C := R_J) (T := F_J) (N := 14) hx hb htB in_J hown ha.1 hP 0 rfl rfl 13 (by decide) (htB _ kw_53) (fun _ h9 => h9) hf13 d_J_markSpans_95 ?_
    refine lv_iconst (v := (nI (1))) hx hb d_J_markSpans_98 (by decide) ?_
    refine lv_iload_n hx hb d_J_markSpans_99 rfl (lv_at hl 3 rfl) ?_
    refine lv_iconst (v := (nI (3))) hx hb d_J_markSpans_100 (by decide) ?_
    refine jv_idiv hx hb (by omega) (by omega) (by omega) d_J_markSpans_101 ?_
    refine ja_ast (k := 1) hx hb ha.1 hP hD hS 1 0 rfl rfl (by omega) (by omega) d_J_markSpans_102 (fun H locs hP hD hS => ?_)
    have hP : va_P g.1 cls [(h, .inr (1, fs)), (amk, eI g 9 (upd (mk) (1) (nI ((S) / 3))))] H := hP
    have hD : va_D A [(h, .inr (1, fs)), (amk, eI g 9 (upd (mk) (1) (nI ((S) / 3))))] := hD
    refine lv_aload_n hx hb d_J_markSpans_103 rfl (lv_at hl 1 rfl) ?_
    refine va_get (D := g.1) (ci := 1) (v := .ref amk) (C := R_J) (T := F_J) (N := 14) hx hb htB in_J hown ha.1 hP 0 rfl rfl 13 (by decide) (htB _ kw_53) (fun _ h9 => h9) hf13 d_J_markSpans_104 ?_
    refine lv_iconst (v := (nI (2))) hx hb d_J_markSpans_107 (by decide) ?_
    refine lv_iload_n hx hb d_J_markSpans_108 rfl (lv_at hl 3 rfl) ?_
    refine lv_iload_n hx hb d_J_markSpans_109 rfl (lv_at hl 3 rfl) ?_
    refine lv_iconst (v := (nI (3))) hx hb d_J_markSpans_110 (by decide) ?_
    refine jv_idiv hx hb (by omega) (by omega) (by omega) d_J_markSpans_111 ?_
    refine jv_isub hx hb (Nat.div_le_self _ _) d_J_markSpans_112 ?_
    refine ja_ast (k := 2) hx hb ha.1 hP hD hS 1 0 rfl rfl (by omega) (by omega) d_J_markSpans_113 (fun H locs hP hD hS => ?_)
    have hP : va_P g.1 cls [(h, .inr (1, fs)), (amk, eI g 9 (upd (upd (mk) (1) (nI ((S) / 3))) (2) (nI (S - ((S) / 3)))))] H := hP
    have hD : va_D A [(h, .inr (1, fs)), (amk, eI g 9 (upd (upd (mk) (1) (nI ((S) / 3))) (2) (nI (S - ((S) / 3)))))] := hD
    refine lv_aload_n hx hb d_J_markSpans_114 rfl (lv_at hl 1 rfl) ?_
    refine va_get (D := g.1) (ci := 1) (v := .ref amk) (C := R_J) (T := F_J) (N := 14) hx hb htB in_J hown ha.1 hP 0 rfl rfl 13 (by decide) (htB _ kw_53) (fun _ h9 => h9) hf13 d_J_markSpans_115 ?_
    refine lv_iload hx hb d_J_markSpans_118 (lv_at hl 0 rfl) ?_
    refine lv_iload_n hx hb d_J_markSpans_120 rfl (lv_at hl 3 rfl) ?_
    refine ja_ast (k := 3) hx hb ha.1 hP hD hS 1 0 rfl rfl (by omega) (by omega) d_J_markSpans_121 (fun H locs hP hD hS => ?_)
    have hP : va_P g.1 cls [(h, .inr (1, fs)), (amk, eI g 9 (upd (upd (upd (mk) (1) (nI ((S) / 3))) (2) (nI (S - ((S) / 3)))) (3) (nI (S))))] H := hP
    have hD : va_D A [(h, .inr (1, fs)), (amk, eI g 9 (upd (upd (upd (mk) (1) (nI ((S) / 3))) (2) (nI (S - ((S) / 3)))) (3) (nI (S))))] := hD
    refine lv_iload hx hb d_J_markSpans_122 (lv_at hl 0 rfl) ?_
    have hP9 := hP.sub (ws' := [(h, .inr (1, fs)), (amk, eI g 9 (upd (upd (upd (mk) (1) (nI ((S) / 3))) (2) (nI (S - ((S) / 3)))) (3) (nI (S))))]) [0, 1] rfl
    have hD9 := hD.sub (ws' := [(h, .inr (1, fs)), (amk, eI g 9 (upd (upd (upd (mk) (1) (nI ((S) / 3))) (2) (nI (S - ((S) / 3)))) (3) (nI (S))))]) [0, 1] (by decide) rfl
    exact (W.widen (k := 0) (n := 0) (Nat.le_of_ble_eq_true rfl) (Nat.le_of_ble_eq_true rfl) (W.iret (v := (nI (3))) hx hb hr (fun t ht hW => ⟨⟨(nI (3)), (3, upd (upd (upd (mk) (1) (nI ((S) / 3))) (2) (nI (S - ((S) / 3)))) (3) (nI (S))), rfl, ⟨rfl, rfl, fun j hj => by (rcases (show j = 0 ∨ j = 1 ∨ j = 2 ∨ j = 3 by have : j ≤ 3 := hj; omega) with rfl | rfl | rfl | rfl); (exact hm0); all_goals rfl⟩, by rw [ht]; exact hP9, hD9.re [h, amk] rfl rfl⟩, hS.F ht⟩) hS.2.2 d_J_markSpans_124))
  · refine lv_tableOut (tgt := 91) hx hb d_J_markSpans_1 (by decide) (by decide) ?_
    refine lv_iconst (v := (nI (3))) hx hb d_J_markSpans_91 (by decide) ?_
    refine lv_istore (lv' := [(4, .int (nI (3))), (0, .ref h), (1, .int (nI (4))), (2, .int (nI (S))), (3, .int (nI (w)))]) hx hb d_J_markSpans_92 hl (by decide) rfl (fun ls hl => ?_)
    refine lv_aload_n hx hb d_J_markSpans_94 rfl (lv_at hl 1 rfl) ?_
    refine va_get (D := g.1) (ci := 1) (v := .ref amk) (C := R_J) (T := F_J) (N := 14) hx hb htB in_J hown ha.1 hP 0 rfl rfl 13 (by decide) (htB _ kw_53) (fun _ h9 => h9) hf13 d_J_markSpans_95 ?_
    refine lv_iconst (v := (nI (1))) hx hb d_J_markSpans_98 (by decide) ?_
    refine lv_iload_n hx hb d_J_markSpans_99 rfl (lv_at hl 3 rfl) ?_
    refine lv_iconst (v := (nI (3))) hx hb d_J_markSpans_100 (by decide) ?_
    refine jv_idiv hx hb (by omega) (by omega) (by omega) d_J_markSpans_101 ?_
    refine ja_ast (k := 1) hx hb ha.1 hP hD hS 1 0 rfl rfl (by omega) (by omega) d_J_markSpans_102 (fun H locs hP hD hS => ?_)
    have hP : va_P g.1 cls [(h, .inr (1, fs)), (amk, eI g 9 (upd (mk) (1) (nI ((S) / 3))))] H := hP
    have hD : va_D A [(h, .inr (1, fs)), (amk, eI g 9 (upd (mk) (1) (nI ((S) / 3))))] := hD
    refine lv_aload_n hx hb d_J_markSpans_103 rfl (lv_at hl 1 rfl) ?_
    refine va_get (D := g.1) (ci := 1) (v := .ref amk) (C := R_J) (T := F_J) (N := 14) hx hb htB in_J hown ha.1 hP 0 rfl rfl 13 (by decide) (htB _ kw_53) (fun _ h9 => h9) hf13 d_J_markSpans_104 ?_
    refine lv_iconst (v := (nI (2))) hx hb d_J_markSpans_107 (by decide) ?_
    refine lv_iload_n hx hb d_J_markSpans_108 rfl (lv_at hl 3 rfl) ?_
    refine lv_iload_n hx hb d_J_markSpans_109 rfl (lv_at hl 3 rfl) ?_
    refine lv_iconst (v := (nI (3))) hx hb d_J_markSpans_110 (by decide) ?_
    refine jv_idiv hx hb (by omega) (by omega) (by omega) d_J_markSpans_111 ?_
    refine jv_isub hx hb (Nat.div_le_self _ _) d_J_markSpans_112 ?_
    refine ja_ast (k := 2) hx hb ha.1 hP hD hS 1 0 rfl rfl (by omega) (by omega) d_J_markSpans_113 (fun H locs hP hD hS => ?_)
    have hP : va_P g.1 cls [(h, .inr (1, fs)), (amk, eI g 9 (upd (upd (mk) (1) (nI ((S) / 3))) (2) (nI (S - ((S) / 3)))))] H := hP
    have hD : va_D A [(h, .inr (1, fs)), (amk, eI g 9 (upd (upd (mk) (1) (nI ((S) / 3))) (2) (nI (S - ((S) / 3)))))] := hD
    refine lv_aload_n hx hb d_J_markSpans_114 rfl (lv_at hl 1 rfl) ?_
    refine va_get (D := g.1) (ci := 1) (v := .ref amk) (C := R_J) (T := F_J) (N := 14) hx hb htB in_J hown ha.1 hP 0 rfl rfl 13 (by decide) (htB _ kw_53) (fun _ h9 => h9) hf13 d_J_markSpans_115 ?_
    refine lv_iload hx hb d_J_markSpans_118 (lv_at hl 0 rfl) ?_
    refine lv_iload_n hx hb d_J_markSpans_120 rfl (lv_at hl 3 rfl) ?_
    refine ja_ast (k := 3) hx hb ha.1 hP hD hS 1 0 rfl rfl (by omega) (by omega) d_J_markSpans_121 (fun H locs hP hD hS => ?_)
    have hP : va_P g.1 cls [(h, .inr (1, fs)), (amk, eI g 9 (upd (upd (upd (mk) (1) (nI ((S) / 3))) (2) (nI (S - ((S) / 3)))) (3) (nI (S))))] H := hP
    have hD : va_D A [(h, .inr (1, fs)), (amk, eI g 9 (upd (upd (upd (mk) (1) (nI ((S) / 3))) (2) (nI (S - ((S) / 3)))) (3) (nI (S))))] := hD
    refine lv_iload hx hb d_J_markSpans_122 (lv_at hl 0 rfl) ?_
    have hP9 := hP.sub (ws' := [(h, .inr (1, fs)), (amk, eI g 9 (upd (upd (upd (mk) (1) (nI ((S) / 3))) (2) (nI (S - ((S) / 3)))) (3) (nI (S))))]) [0, 1] rfl
    have hD9 := hD.sub (ws' := [(h, .inr (1, fs)), (amk, eI g 9 (upd (upd (upd (mk) (1) (nI ((S) / 3))) (2) (nI (S - ((S) / 3)))) (3) (nI (S))))]) [0, 1] (by decide) rfl
    exact (W.widen (k := 0) (n := 0) (Nat.le_of_ble_eq_true rfl) (Nat.le_of_ble_eq_true rfl) (W.iret (v := (nI (3))) hx hb hr (fun t ht hW => ⟨⟨(nI (3)), (3, upd (upd (upd (mk) (1) (nI ((S) / 3))) (2) (nI (S - ((S) / 3)))) (3) (nI (S))), rfl, ⟨rfl, rfl, fun j hj => by (rcases (show j = 0 ∨ j = 1 ∨ j = 2 ∨ j = 3 by have : j ≤ 3 := hj; omega) with rfl | rfl | rfl | rfl); (exact hm0); all_goals rfl⟩, by rw [ht]; exact hP9, hD9.re [h, amk] rfl rfl⟩, hS.F ht⟩) hS.2.2 d_J_markSpans_124))
