set_option maxHeartbeats 4000000 in
set_option maxRecDepth 100000 in
theorem m_J_carveSpans (l : Launch) (g : gT) (z : Nat) (H0 : Heap) (h : Nat) (fs : List Value) (att ar sp bs ac amk da ba db bb ns na nb : Nat) (ft r fsp cm mk fa fb : Nat → Int32) (cl : Int32) (kd k S spn : Nat) (s0 : Bool) (ms : Nat → Nat) (A0 B0 : List Bx) : Met l y_J_carveSpans w_J_carveSpans ({ frames := 5, cells := 0, slots := 0, locals := 134 }) (va_Pc [.ref h, .int (nI (kd)), .int (nI (k)), .int (nI (spn))] (pB g z H0 (va_P g.1 cls [(h, .inr (1, fs)), (att, eI g 6 (ft)), (ar, eI g 6 (r)), (sp, .inr (0, [.ref bs, .int (nI (ns))])), (bs, eI g 144 (fsp)), (ac, eI g 6 (cm)), (amk, eI g 9 (mk)), (da, .inr (0, [.ref ba, .int (nI (na))])), (ba, eI g 144 (fa)), (db, .inr (0, [.ref bb, .int (nI (nb))])), (bb, eI g 144 (fb))] H0 ∧ va_D (zA z) [(h, .inr (1, fs)), (att, eI g 6 (ft)), (ar, eI g 6 (r)), (sp, .inr (0, [.ref bs, .int (nI (ns))])), (bs, eI g 144 (fsp)), (ac, eI g 6 (cm)), (amk, eI g 9 (mk)), (da, .inr (0, [.ref ba, .int (nI (na))])), (ba, eI g 144 (fa)), (db, .inr (0, [.ref bb, .int (nI (nb))])), (bb, eI g 144 (fb))] ∧ (fs[6]? = some (.int cl) ∧ fs[7]? = some (.ref da) ∧ fs[8]? = some (.ref db) ∧ fs[9]? = some (.ref sp) ∧ fs[10]? = some (.ref att) ∧ fs[11]? = some (.ref ar) ∧ fs[12]? = some (.ref ac) ∧ fs[13]? = some (.ref amk) ∧ kd < 5 ∧ s0 = (kd != 0 && kd != 3) ∧ spn ≤ 8 ∧ cmOk cm k S ∧ (0 ≤ cl.toInt ∧ cl.toInt ≤ 100) ∧ (∀ i, i ≤ spn → mk i = nI (ms i)) ∧ (∀ i, i < spn → ms i < ms (i + 1) ∧ ms (i + 1) ≤ S) ∧ sR fa na A0 ∧ sR fb nb B0 ∧ okL A0 ∧ okL B0)))) (va_Qi (fun (rr : Int32) (u : Nat × Nat × Nat × (Nat → Int32) × (Nat → Int32) × (Nat → Int32) × (Nat → Int32) × (Nat → Int32)) => (∃ A B, seq2 (spl cm k cl s0 ms spn) (A0, B0) = some (A, B) ∧ rr = nI 1 ∧ sR u.2.2.2.2.2.2.1 u.2.1 A ∧ sR u.2.2.2.2.2.2.2 u.2.2.1 B ∧ okL A ∧ okL B) ∨ (seq2 (spl cm k cl s0 ms spn) (A0, B0) = none ∧ rr = nI 0)) (fun (u : Nat × Nat × Nat × (Nat → Int32) × (Nat → Int32) × (Nat → Int32) × (Nat → Int32) × (Nat → Int32)) t => va_P g.1 cls [(h, .inr (1, fs)), (att, eI g 6 (u.2.2.2.1)), (ar, eI g 6 (u.2.2.2.2.1)), (sp, .inr (0, [.ref bs, .int (nI (u.1))])), (bs, eI g 144 (u.2.2.2.2.2.1)), (ac, eI g 6 (cm)), (amk, eI g 9 (mk)), (da, .inr (0, [.ref ba, .int (nI (u.2.1))])), (ba, eI g 144 (u.2.2.2.2.2.2.1)), (db, .inr (0, [.ref bb, .int (nI (u.2.2.1))])), (bb, eI g 144 (u.2.2.2.2.2.2.2))] t.heap ∧ va_D (va_A [(h, .inr (1, fs)), (att, eI g 6 (ft)), (ar, eI g 6 (r)), (sp, .inr (0, [.ref bs, .int (nI (ns))])), (bs, eI g 144 (fsp)), (ac, eI g 6 (cm)), (amk, eI g 9 (mk)), (da, .inr (0, [.ref ba, .int (nI (na))])), (ba, eI g 144 (fa)), (db, .inr (0, [.ref bb, .int (nI (nb))])), (bb, eI g 144 (fb))] H0.size) [(h, .inr (1, fs)), (att, eI g 6 (u.2.2.2.1)), (ar, eI g 6 (u.2.2.2.2.1)), (sp, .inr (0, [.ref bs, .int (nI (u.1))])), (bs, eI g 144 (u.2.2.2.2.2.1)), (ac, eI g 6 (cm)), (amk, eI g 9 (mk)), (da, .inr (0, [.ref ba, .int (nI (u.2.1))])), (ba, eI g 144 (u.2.2.2.2.2.2.1)), (db, .inr (0, [.ref bb, .int (nI (u.2.2.1))])), (bb, eI g 144 (u.2.2.2.2.2.2.2))]) (va_A [(h, .inr (1, fs)), (att, eI g 6 (ft)), (ar, eI g 6 (r)), (sp, .inr (0, [.ref bs, .int (nI (ns))])), (bs, eI g 144 (fsp)), (ac, eI g 6 (cm)), (amk, eI g 9 (mk)), (da, .inr (0, [.ref ba, .int (nI (na))])), (ba, eI g 144 (fa)), (db, .inr (0, [.ref bb, .int (nI (nb))])), (bb, eI g 144 (fb))] H0.size)) 0 0 (va_A [(h, .inr (1, fs)), (att, eI g 6 (ft)), (ar, eI g 6 (r)), (sp, .inr (0, [.ref bs, .int (nI (ns))])), (bs, eI g 144 (fsp)), (ac, eI g 6 (cm)), (amk, eI g 9 (mk)), (da, .inr (0, [.ref ba, .int (nI (na))])), (ba, eI g 144 (fa)), (db, .inr (0, [.ref bb, .int (nI (nb))])), (bb, eI g 144 (fb))] H0.size) := by
  refine Met.ofW (cc := c_J_carveSpans) (maxL := 6) (ret := (some .boolean)) (by decide) rfl ?_
  intro p e s m args below meth c s₁ B hml hv
  obtain ⟨rfl, hH0, ha, hP, hD0, hf6, hf7, hf8, hf9, hf10, hf11, hf12, hf13, hkd, hs0, hspn, hcm, hcl, hmk, hms, hRA, hRB, hokA, hokB⟩ := hv
  have hx := B.exec
  have hb := B.bytes
  have hr := B.returns
  have htB : ∀ w ∈ tB, w.before _ s = true := fun w h => atoms_spec (ws := w_J_carveSpans) B.pre w (List.mem_cons_of_mem _ h)
  have hown : s.vm.findClass "JointSolids" = some m.cls := findClass_of_methodNamed B.named
  have hlocks := B.notSynchronized
  subst hH0
  have hD := hD0.self (sz := s.heap.size)
  have hz := aA_z hD0 ha.2.2.2.2.2
  generalize hAe : va_A [(h, .inr (1, fs)), (att, eI g 6 (ft)), (ar, eI g 6 (r)), (sp, .inr (0, [.ref bs, .int (nI (ns))])), (bs, eI g 144 (fsp)), (ac, eI g 6 (cm)), (amk, eI g 9 (mk)), (da, .inr (0, [.ref ba, .int (nI (na))])), (ba, eI g 144 (fa)), (db, .inr (0, [.ref bb, .int (nI (nb))])), (bb, eI g 144 (fb))] s.heap.size = A at hD hz ⊢
  have hA : ∀ q : Nat, s.heap.size ≤ q → A q := fun q h => by rw [← hAe]; exact Or.inr h
  have hS : va_S A s.heap s.heap [] := va_S.rf
  refine W.ofH hP hS (fun H locs hP hS => ?_)
  have hl := lv_entry ([.ref h, .int (nI (kd)), .int (nI (k)), .int (nI (spn))]) (n := 6) (Nat.le_of_ble_eq_true rfl)
  rw [lg_entry_eq]
  generalize (lg_sl ([.ref h, .int (nI (kd)), .int (nI (k)), .int (nI (spn))]) ++ List.replicate (6 - (lg_sl ([.ref h, .int (nI (kd)), .int (nI (k)), .int (nI (spn))])).length) Slot.unset).toArray = ls at hl ⊢
  have hl : lv_has ls 6 [(0, .ref h), (1, .int (nI (kd))), (2, .int (nI (k))), (3, .int (nI (spn)))] := hl
  have hk3 : k < 3 := hcm.2.1
  refine W.join (pc2 := 16) (X := fun ls locs H => lv_has ls 6 [(4, .int (if s0 = true then nI 1 else nI 0)), (0, .ref h), (2, .int (nI (k))), (3, .int (nI (spn)))] ∧ va_P g.1 cls [(h, .inr (1, fs)), (att, eI g 6 (ft)), (ar, eI g 6 (r)), (sp, .inr (0, [.ref bs, .int (nI (ns))])), (bs, eI g 144 (fsp)), (ac, eI g 6 (cm)), (amk, eI g 9 (mk)), (da, .inr (0, [.ref ba, .int (nI (na))])), (ba, eI g 144 (fa)), (db, .inr (0, [.ref bb, .int (nI (nb))])), (bb, eI g 144 (fb))] H ∧ va_D A [(h, .inr (1, fs)), (att, eI g 6 (ft)), (ar, eI g 6 (r)), (sp, .inr (0, [.ref bs, .int (nI (ns))])), (bs, eI g 144 (fsp)), (ac, eI g 6 (cm)), (amk, eI g 9 (mk)), (da, .inr (0, [.ref ba, .int (nI (na))])), (ba, eI g 144 (fa)), (db, .inr (0, [.ref bb, .int (nI (nb))])), (bb, eI g 144 (fb))] ∧ va_S A s.heap H locs) (fun ls locs H hX => ?_) (fun K => ?_)
  · obtain ⟨hl, hP, hD, hS⟩ := hX
    refine lv_iconst (v := (nI (0))) hx hb d_J_carveSpans_16 (by decide) ?_
    refine lv_istore (lv' := [(5, .int (nI (0))), (4, .int (if s0 = true then nI 1 else nI 0)), (0, .ref h), (2, .int (nI (k))), (3, .int (nI (spn)))]) hx hb d_J_carveSpans_17 hl (by decide) rfl (fun ls hl => ?_)
    refine W.loop (N := spn) (X := fun i ls locs H => i ≤ spn ∧ ∃ (ns : Nat) (na : Nat) (nb : Nat) (ft : Nat → Int32) (r : Nat → Int32) (fsp : Nat → Int32) (fa : Nat → Int32) (fb : Nat → Int32) (LA : List Bx) (LB : List Bx), (seq2 (spl cm k cl s0 ms i) (A0, B0) = some (LA, LB) ∧ sR fa na LA ∧ sR fb nb LB ∧ okL LA ∧ okL LB) ∧ lv_has ls 6 [(0, .ref h), (2, .int (nI (k))), (3, .int (nI (spn))), (4, .int (if tb s0 i = true then nI 1 else nI 0)), (5, .int (nI (i)))] ∧ va_P g.1 cls [(h, .inr (1, fs)), (att, eI g 6 (ft)), (ar, eI g 6 (r)), (sp, .inr (0, [.ref bs, .int (nI (ns))])), (bs, eI g 144 (fsp)), (ac, eI g 6 (cm)), (amk, eI g 9 (mk)), (da, .inr (0, [.ref ba, .int (nI (na))])), (ba, eI g 144 (fa)), (db, .inr (0, [.ref bb, .int (nI (nb))])), (bb, eI g 144 (fb))] H ∧ va_D A [(h, .inr (1, fs)), (att, eI g 6 (ft)), (ar, eI g 6 (r)), (sp, .inr (0, [.ref bs, .int (nI (ns))])), (bs, eI g 144 (fsp)), (ac, eI g 6 (cm)), (amk, eI g 9 (mk)), (da, .inr (0, [.ref ba, .int (nI (na))])), (ba, eI g 144 (fa)), (db, .inr (0, [.ref bb, .int (nI (nb))])), (bb, eI g 144 (fb))] ∧ va_S A s.heap H locs) 0 ⟨Nat.zero_le _, ns, na, nb, ft, r, fsp, fa, fb, A0, B0, ⟨rfl, hRA, hRB, hokA, hokB⟩, lv_sub hl [2, 3, 4, 1, 0] rfl, hP, hD.re [h, att, ar, sp, bs, ac, amk, da, ba, db, bb] rfl rfl, hS⟩ (fun n_1 ih_2 i ls locs H hn_i hi_i hX => ?_) (fun _ _ _ _ hX => hX.1)
    obtain ⟨-, ns, na, nb, ft, r, fsp, fa, fb, LA, LB, heq, hl, hP, hD, hS⟩ := hX
    refine lv_iload hx hb d_J_carveSpans_19 (lv_at hl 4 rfl) ?_
    refine lv_iload_n hx hb d_J_carveSpans_21 rfl (lv_at hl 2 rfl) ?_
    refine jv_icmp_ge (tgt := 102) hx hb (by omega) (by omega) d_J_carveSpans_22 (by decide) (fun c_3 => ?_) (fun c_3 => ?_)
    · refine lv_iconst (v := (nI (1))) hx hb d_J_carveSpans_102 (by decide) ?_
      have hP9 := hP.sub (ws' := [(h, .inr (1, fs)), (att, eI g 6 (ft)), (ar, eI g 6 (r)), (sp, .inr (0, [.ref bs, .int (nI (ns))])), (bs, eI g 144 (fsp)), (ac, eI g 6 (cm)), (amk, eI g 9 (mk)), (da, .inr (0, [.ref ba, .int (nI (na))])), (ba, eI g 144 (fa)), (db, .inr (0, [.ref bb, .int (nI (nb))])), (bb, eI g 144 (fb))]) [0, 1, 2, 3, 4, 5, 6, 7, 8, 9, 10] rfl
      have hD9 := hD.sub (ws' := [(h, .inr (1, fs)), (att, eI g 6 (ft)), (ar, eI g 6 (r)), (sp, .inr (0, [.ref bs, .int (nI (ns))])), (bs, eI g 144 (fsp)), (ac, eI g 6 (cm)), (amk, eI g 9 (mk)), (da, .inr (0, [.ref ba, .int (nI (na))])), (ba, eI g 144 (fa)), (db, .inr (0, [.ref bb, .int (nI (nb))])), (bb, eI g 144 (fb))]) [0, 1, 2, 3, 4, 5, 6, 7, 8, 9, 10] (by decide) rfl
      exact (W.widen (k := 0) (n := 0) (Nat.le_of_ble_eq_true rfl) (Nat.le_of_ble_eq_true rfl) (W.zret (v := (nI (1))) hx hb hr (by decide) (fun t ht hW => ⟨⟨(nI (1)), (ns, na, nb, ft, r, fsp, fa, fb), rfl, Or.inl ⟨LA, LB, by rw [show i = spn from by omega] at heq; exact heq.1, rfl, heq.2.1, heq.2.2.1, heq.2.2.2.1, heq.2.2.2.2⟩, by rw [ht]; exact hP9, hD9.re [h, att, ar, sp, bs, ac, amk, da, ba, db, bb] rfl rfl⟩, hS.F ht⟩) hS.2.2 d_J_carveSpans_103))
    · obtain ⟨hsq0, hRA, hRB, hokA, hokB⟩ := heq
      have hi2 := hms i (by omega)
      have hnA := hRA.2.1
      have hnB := hRB.2.1
      cases htu : tb s0 i with
      | true =>
        rw [htu] at hl
        have hl : lv_has ls 6 [(0, .ref h), (2, .int (nI (k))), (3, .int (nI (spn))), (4, .int (nI (1))), (5, .int (nI (i)))] := hl
        refine lv_aload_n hx hb d_J_carveSpans_25 rfl (lv_at hl 0 rfl) ?_
        refine lv_iload_n hx hb d_J_carveSpans_26 rfl (lv_at hl 1 rfl) ?_
        refine lv_aload_n hx hb d_J_carveSpans_27 rfl (lv_at hl 0 rfl) ?_
        refine va_get (D := g.1) (ci := 1) (v := .ref amk) (C := R_J) (T := F_J) (N := 14) hx hb htB in_J hown ha.1 hP 0 rfl rfl 13 (by decide) (htB _ kw_53) (fun _ h9 => h9) hf13 d_J_carveSpans_28 ?_
        refine lv_iload hx hb d_J_carveSpans_31 (lv_at hl 4 rfl) ?_
        refine ja_ald (k := i) hx hb ha.1 hP 6 0 rfl rfl (by omega) (by omega) d_J_carveSpans_33 ?_
        rw [hmk i (by omega)]
        refine lv_aload_n hx hb d_J_carveSpans_34 rfl (lv_at hl 0 rfl) ?_
        refine va_get (D := g.1) (ci := 1) (v := .ref amk) (C := R_J) (T := F_J) (N := 14) hx hb htB in_J hown ha.1 hP 0 rfl rfl 13 (by decide) (htB _ kw_53) (fun _ h9 => h9) hf13 d_J_carveSpans_35 ?_
        refine lv_iload hx hb d_J_carveSpans_38 (lv_at hl 4 rfl) ?_
        refine lv_iconst (v := (nI (1))) hx hb d_J_carveSpans_40 (by decide) ?_
        refine jv_iadd hx hb d_J_carveSpans_41 ?_
        refine ja_ald (k := i + 1) hx hb ha.1 hP 6 0 rfl rfl (by omega) (by omega) d_J_carveSpans_42 ?_
        rw [hmk (i + 1) (by omega)]
        refine lv_iload hx hb d_J_carveSpans_43 (lv_at hl 3 rfl) ?_
        refine lv_if_eq (tgt := 55) hx hb d_J_carveSpans_45 (by decide) (fun h => absurd h (by decide)) (fun _ => ?_)
        refine lv_aload_n hx hb d_J_carveSpans_48 rfl (lv_at hl 0 rfl) ?_
        refine va_get (D := g.1) (ci := 1) (v := .int (cl)) (C := R_J) (T := F_J) (N := 14) hx hb htB in_J hown ha.1 hP 0 rfl rfl 6 (by decide) (htB _ kw_46) (fun _ h9 => h9) hf6 d_J_carveSpans_49 ?_
        refine lv_goto (tgt := 56) hx hb d_J_carveSpans_52 (by decide) ?_
        have hPc := hP.sub (ws' := [(h, .inr (1, fs)), (att, eI g 6 (ft)), (ac, eI g 6 (cm))]) [0, 1, 5] rfl
        have hDc := hD.sub (ws' := [(h, .inr (1, fs)), (att, eI g 6 (ft)), (ac, eI g 6 (cm))]) [0, 1, 5] (by decide) rfl
        have hFc := va_free (wc := [(h, .inr (1, fs)), (att, eI g 6 (ft)), (ac, eI g 6 (cm))]) hD hS hA [0, 1, 5] rfl
        refine va_callv (va_runV (As := [.int (nI (k)), .int (nI (ms i)), .int (nI (ms (i + 1))), .int (cl)]) (rest := []) ⟨hx, hb, hml, hown, htB⟩ (m_J_setSpan l g z _ h fs att ac (ft) (cm) (k) (nI (ms i)) (nI (ms (i + 1))) (cl)) (cwV 4 htB (gV kw_321 kw_323 ks_0_13 kw_1 g_J_setSpan) rfl rfl rfl (by decide +kernel) ⟨Nat.le_of_ble_eq_true rfl, Nat.le_of_ble_eq_true rfl⟩) (pre_V hS hz ha (va_recv ha.1 hP (ci := 1) (q0 := 0) rfl rfl) ⟨hPc, hDc.weaken (fun _ _ _ h => hz _ h), ⟨hf10, hf12, by omega⟩⟩) rfl rfl hl.1 rfl (lv_room (Nat.le_of_ble_eq_true rfl)) d_J_carveSpans_56 ⟨Nat.le_of_ble_eq_true rfl, Nat.le_of_ble_eq_true rfl⟩) hS (fun q _ h => hFc q h) hFc (fun u_6 t H1 locs ht hvm hw hB hz1 hk1 hS => ?_)
        obtain ⟨hP1, hD1⟩ := hB
        rw [ht] at hP1
        obtain ⟨hP, hD⟩ := va_join (wr := [(ar, eI g 6 (r)), (sp, .inr (0, [.ref bs, .int (nI (ns))])), (bs, eI g 144 (fsp)), (amk, eI g 9 (mk)), (da, .inr (0, [.ref ba, .int (nI (na))])), (ba, eI g 144 (fa)), (db, .inr (0, [.ref bb, .int (nI (nb))])), (bb, eI g 144 (fb))]) (w1 := [(h, .inr (1, fs)), (att, eI g 6 (spT cm (ft) k (nI (ms i)) (nI (ms (i + 1))) (cl))), (ac, eI g 6 (cm))]) hP hD [0, 1, 5] [2, 3, 4, 6, 7, 8, 9, 10] rfl rfl (by decide) (by decide) hk1 hFc hP1 hD1
        clear hPc hDc hFc hP1 hD1 hk1 hz1 hvm ht
        generalize H1 = H at hP hS ⊢
        have hP : va_P g.1 cls [(ar, eI g 6 (r)), (sp, .inr (0, [.ref bs, .int (nI (ns))])), (bs, eI g 144 (fsp)), (amk, eI g 9 (mk)), (da, .inr (0, [.ref ba, .int (nI (na))])), (ba, eI g 144 (fa)), (db, .inr (0, [.ref bb, .int (nI (nb))])), (bb, eI g 144 (fb)), (h, .inr (1, fs)), (att, eI g 6 (spT cm (ft) k (nI (ms i)) (nI (ms (i + 1))) (cl))), (ac, eI g 6 (cm))] H := hP
        have hD : va_D A [(ar, eI g 6 (r)), (sp, .inr (0, [.ref bs, .int (nI (ns))])), (bs, eI g 144 (fsp)), (amk, eI g 9 (mk)), (da, .inr (0, [.ref ba, .int (nI (na))])), (ba, eI g 144 (fa)), (db, .inr (0, [.ref bb, .int (nI (nb))])), (bb, eI g 144 (fb)), (h, .inr (1, fs)), (att, eI g 6 (spT cm (ft) k (nI (ms i)) (nI (ms (i + 1))) (cl))), (ac, eI g 6 (cm))] := hD
        refine lv_aload_n hx hb d_J_carveSpans_59 rfl (lv_at hl 0 rfl) ?_
        refine lv_iload hx hb d_J_carveSpans_60 (lv_at hl 3 rfl) ?_
        refine lv_if_eq (tgt := 72) hx hb d_J_carveSpans_62 (by decide) (fun h => absurd h (by decide)) (fun _ => ?_)
        refine lv_aload_n hx hb d_J_carveSpans_65 rfl (lv_at hl 0 rfl) ?_
        refine va_get (D := g.1) (ci := 1) (v := .ref da) (C := R_J) (T := F_J) (N := 14) hx hb htB in_J hown ha.1 hP 8 rfl rfl 7 (by decide) (htB _ kw_47) (fun _ h9 => h9) hf7 d_J_carveSpans_66 ?_
        refine lv_goto (tgt := 76) hx hb d_J_carveSpans_69 (by decide) ?_
        have hPc := hP.sub (ws' := [(h, .inr (1, fs)), (att, eI g 6 (spT cm (ft) k (nI (ms i)) (nI (ms (i + 1))) (cl))), (ar, eI g 6 (r)), (sp, .inr (0, [.ref bs, .int (nI (ns))])), (bs, eI g 144 (fsp)), (da, .inr (0, [.ref ba, .int (nI (na))])), (ba, eI g 144 (fa))]) [8, 9, 0, 1, 2, 4, 5] rfl
        have hDc := hD.sub (ws' := [(h, .inr (1, fs)), (att, eI g 6 (spT cm (ft) k (nI (ms i)) (nI (ms (i + 1))) (cl))), (ar, eI g 6 (r)), (sp, .inr (0, [.ref bs, .int (nI (ns))])), (bs, eI g 144 (fsp)), (da, .inr (0, [.ref ba, .int (nI (na))])), (ba, eI g 144 (fa))]) [8, 9, 0, 1, 2, 4, 5] (by decide) rfl
        have hFc := va_free (wc := [(h, .inr (1, fs)), (att, eI g 6 (spT cm (ft) k (nI (ms i)) (nI (ms (i + 1))) (cl))), (ar, eI g 6 (r)), (sp, .inr (0, [.ref bs, .int (nI (ns))])), (bs, eI g 144 (fsp)), (da, .inr (0, [.ref ba, .int (nI (na))])), (ba, eI g 144 (fa))]) hD hS hA [8, 9, 0, 1, 2, 4, 5] rfl
        refine va_calli (va_runV (As := [.ref da]) (rest := []) ⟨hx, hb, hml, hown, htB⟩ (m_J_carve l g z _ h fs att ar sp bs (ns) da ba (na) (spT cm (ft) k (nI (ms i)) (nI (ms (i + 1))) (cl)) (r) (fsp) (fa)) (cwV 1 htB (gV kw_247 kw_249 ks_0_5 kw_1 g_J_carve) rfl rfl rfl (by decide +kernel) ⟨Nat.le_of_ble_eq_true rfl, Nat.le_of_ble_eq_true rfl⟩) (pre_V hS hz ha (va_recv ha.1 hP (ci := 1) (q0 := 8) rfl rfl) ⟨hPc, hDc.weaken (fun _ _ _ h => hz _ h), ⟨hf9, hf10, hf11, by omega⟩⟩) rfl rfl hl.1 rfl (lv_room (Nat.le_of_ble_eq_true rfl)) d_J_carveSpans_76 ⟨Nat.le_of_ble_eq_true rfl, Nat.le_of_ble_eq_true rfl⟩) hS (fun q _ h => hFc q h) hFc (fun r_8 u_9 t H1 locs ht hvm hw hB hz1 hk1 hS => ?_)
        obtain ⟨hP1, hD1⟩ := hB
        rw [ht] at hP1
        obtain ⟨hP, hD⟩ := va_join (wr := [(amk, eI g 9 (mk)), (db, .inr (0, [.ref bb, .int (nI (nb))])), (bb, eI g 144 (fb)), (ac, eI g 6 (cm))]) (w1 := [(h, .inr (1, fs)), (att, eI g 6 (spT cm (ft) k (nI (ms i)) (nI (ms (i + 1))) (cl))), (ar, eI g 6 ((cv (fa) (spT cm (ft) k (nI (ms i)) (nI (ms (i + 1))) (cl)) (r) (fsp) (na)).1)), (sp, .inr (0, [.ref bs, .int (nI ((cv (fa) (spT cm (ft) k (nI (ms i)) (nI (ms (i + 1))) (cl)) (r) (fsp) (na)).2.1))])), (bs, eI g 144 ((cv (fa) (spT cm (ft) k (nI (ms i)) (nI (ms (i + 1))) (cl)) (r) (fsp) (na)).2.2)), (da, .inr (0, [.ref ba, .int (nI (if (cv (fa) (spT cm (ft) k (nI (ms i)) (nI (ms (i + 1))) (cl)) (r) (fsp) (na)).2.1 ≤ 24 then (cv (fa) (spT cm (ft) k (nI (ms i)) (nI (ms (i + 1))) (cl)) (r) (fsp) (na)).2.1 else na))])), (ba, eI g 144 (if (cv (fa) (spT cm (ft) k (nI (ms i)) (nI (ms (i + 1))) (cl)) (r) (fsp) (na)).2.1 ≤ 24 then va_cpy (cv (fa) (spT cm (ft) k (nI (ms i)) (nI (ms (i + 1))) (cl)) (r) (fsp) (na)).2.2 (fa) 0 0 ((cv (fa) (spT cm (ft) k (nI (ms i)) (nI (ms (i + 1))) (cl)) (r) (fsp) (na)).2.1 * 6) else (fa)))]) hP hD [8, 9, 0, 1, 2, 4, 5] [3, 6, 7, 10] rfl rfl (by decide) (by decide) hk1 hFc hP1 hD1
        clear hPc hDc hFc hP1 hD1 hk1 hz1 hvm ht
        generalize H1 = H at hP hS ⊢
        have hP : va_P g.1 cls [(amk, eI g 9 (mk)), (db, .inr (0, [.ref bb, .int (nI (nb))])), (bb, eI g 144 (fb)), (ac, eI g 6 (cm)), (h, .inr (1, fs)), (att, eI g 6 (spT cm (ft) k (nI (ms i)) (nI (ms (i + 1))) (cl))), (ar, eI g 6 ((cv (fa) (spT cm (ft) k (nI (ms i)) (nI (ms (i + 1))) (cl)) (r) (fsp) (na)).1)), (sp, .inr (0, [.ref bs, .int (nI ((cv (fa) (spT cm (ft) k (nI (ms i)) (nI (ms (i + 1))) (cl)) (r) (fsp) (na)).2.1))])), (bs, eI g 144 ((cv (fa) (spT cm (ft) k (nI (ms i)) (nI (ms (i + 1))) (cl)) (r) (fsp) (na)).2.2)), (da, .inr (0, [.ref ba, .int (nI (if (cv (fa) (spT cm (ft) k (nI (ms i)) (nI (ms (i + 1))) (cl)) (r) (fsp) (na)).2.1 ≤ 24 then (cv (fa) (spT cm (ft) k (nI (ms i)) (nI (ms (i + 1))) (cl)) (r) (fsp) (na)).2.1 else na))])), (ba, eI g 144 (if (cv (fa) (spT cm (ft) k (nI (ms i)) (nI (ms (i + 1))) (cl)) (r) (fsp) (na)).2.1 ≤ 24 then va_cpy (cv (fa) (spT cm (ft) k (nI (ms i)) (nI (ms (i + 1))) (cl)) (r) (fsp) (na)).2.2 (fa) 0 0 ((cv (fa) (spT cm (ft) k (nI (ms i)) (nI (ms (i + 1))) (cl)) (r) (fsp) (na)).2.1 * 6) else (fa)))] H := hP
        have hD : va_D A [(amk, eI g 9 (mk)), (db, .inr (0, [.ref bb, .int (nI (nb))])), (bb, eI g 144 (fb)), (ac, eI g 6 (cm)), (h, .inr (1, fs)), (att, eI g 6 (spT cm (ft) k (nI (ms i)) (nI (ms (i + 1))) (cl))), (ar, eI g 6 ((cv (fa) (spT cm (ft) k (nI (ms i)) (nI (ms (i + 1))) (cl)) (r) (fsp) (na)).1)), (sp, .inr (0, [.ref bs, .int (nI ((cv (fa) (spT cm (ft) k (nI (ms i)) (nI (ms (i + 1))) (cl)) (r) (fsp) (na)).2.1))])), (bs, eI g 144 ((cv (fa) (spT cm (ft) k (nI (ms i)) (nI (ms (i + 1))) (cl)) (r) (fsp) (na)).2.2)), (da, .inr (0, [.ref ba, .int (nI (if (cv (fa) (spT cm (ft) k (nI (ms i)) (nI (ms (i + 1))) (cl)) (r) (fsp) (na)).2.1 ≤ 24 then (cv (fa) (spT cm (ft) k (nI (ms i)) (nI (ms (i + 1))) (cl)) (r) (fsp) (na)).2.1 else na))])), (ba, eI g 144 (if (cv (fa) (spT cm (ft) k (nI (ms i)) (nI (ms (i + 1))) (cl)) (r) (fsp) (na)).2.1 ≤ 24 then va_cpy (cv (fa) (spT cm (ft) k (nI (ms i)) (nI (ms (i + 1))) (cl)) (r) (fsp) (na)).2.2 (fa) 0 0 ((cv (fa) (spT cm (ft) k (nI (ms i)) (nI (ms (i + 1))) (cl)) (r) (fsp) (na)).2.1 * 6) else (fa)))] := hD
        obtain ⟨ftn, hftn⟩ : ∃ x : Nat → Int32, x = spT cm (ft) k (nI (ms i)) (nI (ms (i + 1))) (cl) := ⟨_, rfl⟩
        rw [← hftn] at hP hD hw
        have hTg : gb ftn 0 = lb cm k cl (ms i) (ms (i + 1)) := by rw [hftn]; exact spT_gb cm _ hk3 _ _ _
        have hTl : okB (lb cm k cl (ms i) (ms (i + 1))) := lb_ok hcm hcl hi2.1 hi2.2
        obtain ⟨e1, e2⟩ := carve_R (r0 := r) (b0 := fsp) hRA hokA (by rw [hTg]; exact hTl)
        rw [hTg] at e1 e2
        obtain ⟨r2, n2, b2, hcv⟩ : ∃ (r2 : Nat → Int32) (n2 : Nat) (b2 : Nat → Int32), (r2, n2, b2) = cv (fa) (ftn) (r) (fsp) (na) := ⟨_, _, _, rfl⟩
        rw [← hcv] at hP hD hw e1 e2
        dsimp only at hP hD hw e1 e2
        have hst := stp_t hsq0 htu
        by_cases c_10 : n2 ≤ 24
        · rw [if_pos c_10, if_pos c_10] at hP hD
          rw [if_pos c_10] at hw
          subst hw
          rw [if_pos (by rw [← e1]; exact c_10)] at hst
          have hR2 := e2 c_10
          have hsq := hst
          obtain ⟨fa2, hfo⟩ : ∃ x : Nat → Int32, x = va_cpy b2 (fa) 0 0 (n2 * 6) := ⟨_, rfl⟩
          rw [← hfo] at hP hD hR2
          have hP : va_P g.1 cls [(amk, eI g 9 (mk)), (db, .inr (0, [.ref bb, .int (nI (nb))])), (bb, eI g 144 (fb)), (ac, eI g 6 (cm)), (h, .inr (1, fs)), (att, eI g 6 (ftn)), (ar, eI g 6 (r2)), (sp, .inr (0, [.ref bs, .int (nI (n2))])), (bs, eI g 144 (b2)), (da, .inr (0, [.ref ba, .int (nI (n2))])), (ba, eI g 144 (fa2))] H := hP
          have hD : va_D A [(amk, eI g 9 (mk)), (db, .inr (0, [.ref bb, .int (nI (nb))])), (bb, eI g 144 (fb)), (ac, eI g 6 (cm)), (h, .inr (1, fs)), (att, eI g 6 (ftn)), (ar, eI g 6 (r2)), (sp, .inr (0, [.ref bs, .int (nI (n2))])), (bs, eI g 144 (b2)), (da, .inr (0, [.ref ba, .int (nI (n2))])), (ba, eI g 144 (fa2))] := hD
          refine lv_if_ne (tgt := 84) hx hb d_J_carveSpans_79 (by decide) (fun _ => ?_) (fun h => absurd h (by decide))
          refine lv_iload hx hb d_J_carveSpans_84 (lv_at hl 3 rfl) ?_
          refine lv_if_ne (tgt := 93) hx hb d_J_carveSpans_86 (by decide) (fun _ => ?_) (fun h => absurd h (by decide))
          refine lv_iconst (v := (nI (0))) hx hb d_J_carveSpans_93 (by decide) ?_
          refine lv_istore (lv' := [(4, .int (nI (0))), (0, .ref h), (2, .int (nI (k))), (3, .int (nI (spn))), (5, .int (nI (i)))]) hx hb d_J_carveSpans_94 hl (by decide) rfl (fun ls hl => ?_)
          refine lv_iinc (v := nI (i + 1)) (lv' := [(5, .int (nI (i + 1))), (4, .int (nI (0))), (0, .ref h), (2, .int (nI (k))), (3, .int (nI (spn)))]) hx hb d_J_carveSpans_96 hl (k := 4) rfl (nI_add _ 1) (by decide) rfl (fun ls hl => ?_)
          refine lv_goto (tgt := 19) hx hb d_J_carveSpans_99 (by decide) ?_
          have htu2 : tb s0 (i + 1) = false := by rw [tb_s, htu]; rfl
          rw [show nI 0 = (if tb s0 (i + 1) = true then nI 1 else nI 0) from (if_neg (by rw [htu2]; exact Bool.false_ne_true)).symm] at hl
          exact ih_2 (i + 1) ls locs H (by omega) ⟨by omega, n2, n2, nb, ftn, r2, b2, fa2, fb, _, LB, ⟨hsq, hR2, hRB, cutL_ok hTl hokA, hokB⟩, lv_sub (l' := [(0, .ref h), (2, .int (nI (k))), (3, .int (nI (spn))), (4, .int (if tb s0 (i + 1) = true then nI 1 else nI 0)), (5, .int (nI (i + 1)))]) hl [2, 3, 4, 1, 0] rfl, hP.sub (ws' := [(h, .inr (1, fs)), (att, eI g 6 (ftn)), (ar, eI g 6 (r2)), (sp, .inr (0, [.ref bs, .int (nI (n2))])), (bs, eI g 144 (b2)), (ac, eI g 6 (cm)), (amk, eI g 9 (mk)), (da, .inr (0, [.ref ba, .int (nI (n2))])), (ba, eI g 144 (fa2)), (db, .inr (0, [.ref bb, .int (nI (nb))])), (bb, eI g 144 (fb))]) [4, 5, 6, 7, 8, 3, 0, 9, 10, 1, 2] rfl, (hD.sub (ws' := [(h, .inr (1, fs)), (att, eI g 6 (ftn)), (ar, eI g 6 (r2)), (sp, .inr (0, [.ref bs, .int (nI (n2))])), (bs, eI g 144 (b2)), (ac, eI g 6 (cm)), (amk, eI g 9 (mk)), (da, .inr (0, [.ref ba, .int (nI (n2))])), (ba, eI g 144 (fa2)), (db, .inr (0, [.ref bb, .int (nI (nb))])), (bb, eI g 144 (fb))]) [4, 5, 6, 7, 8, 3, 0, 9, 10, 1, 2] (by decide) rfl).re [h, att, ar, sp, bs, ac, amk, da, ba, db, bb] rfl rfl, hS⟩
        · rw [if_neg c_10, if_neg c_10] at hP hD
          rw [if_neg c_10] at hw
          subst hw
          rw [if_neg (by rw [← e1]; exact c_10)] at hst
          have hP : va_P g.1 cls [(amk, eI g 9 (mk)), (db, .inr (0, [.ref bb, .int (nI (nb))])), (bb, eI g 144 (fb)), (ac, eI g 6 (cm)), (h, .inr (1, fs)), (att, eI g 6 (ftn)), (ar, eI g 6 (r2)), (sp, .inr (0, [.ref bs, .int (nI (n2))])), (bs, eI g 144 (b2)), (da, .inr (0, [.ref ba, .int (nI (na))])), (ba, eI g 144 (fa))] H := hP
          have hD : va_D A [(amk, eI g 9 (mk)), (db, .inr (0, [.ref bb, .int (nI (nb))])), (bb, eI g 144 (fb)), (ac, eI g 6 (cm)), (h, .inr (1, fs)), (att, eI g 6 (ftn)), (ar, eI g 6 (r2)), (sp, .inr (0, [.ref bs, .int (nI (n2))])), (bs, eI g 144 (b2)), (da, .inr (0, [.ref ba, .int (nI (na))])), (ba, eI g 144 (fa))] := hD
          refine lv_if_ne (tgt := 84) hx hb d_J_carveSpans_79 (by decide) (fun h => absurd h (by decide)) (fun _ => ?_)
          refine lv_iconst (v := (nI (0))) hx hb d_J_carveSpans_82 (by decide) ?_
          have hP9 := hP.sub (ws' := [(h, .inr (1, fs)), (att, eI g 6 (ftn)), (ar, eI g 6 (r2)), (sp, .inr (0, [.ref bs, .int (nI (n2))])), (bs, eI g 144 (b2)), (ac, eI g 6 (cm)), (amk, eI g 9 (mk)), (da, .inr (0, [.ref ba, .int (nI (na))])), (ba, eI g 144 (fa)), (db, .inr (0, [.ref bb, .int (nI (nb))])), (bb, eI g 144 (fb))]) [4, 5, 6, 7, 8, 3, 0, 9, 10, 1, 2] rfl
          have hD9 := hD.sub (ws' := [(h, .inr (1, fs)), (att, eI g 6 (ftn)), (ar, eI g 6 (r2)), (sp, .inr (0, [.ref bs, .int (nI (n2))])), (bs, eI g 144 (b2)), (ac, eI g 6 (cm)), (amk, eI g 9 (mk)), (da, .inr (0, [.ref ba, .int (nI (na))])), (ba, eI g 144 (fa)), (db, .inr (0, [.ref bb, .int (nI (nb))])), (bb, eI g 144 (fb))]) [4, 5, 6, 7, 8, 3, 0, 9, 10, 1, 2] (by decide) rfl
          exact (W.widen (k := 0) (n := 0) (Nat.le_of_ble_eq_true rfl) (Nat.le_of_ble_eq_true rfl) (W.zret (v := (nI (0))) hx hb hr (by decide) (fun t ht hW => ⟨⟨(nI (0)), (n2, na, nb, ftn, r2, b2, fa, fb), rfl, Or.inr ⟨spl_none hst _ (by omega), rfl⟩, by rw [ht]; exact hP9, hD9.re [h, att, ar, sp, bs, ac, amk, da, ba, db, bb] rfl rfl⟩, hS.F ht⟩) hS.2.2 d_J_carveSpans_83))
      | false =>
        rw [htu] at hl
        have hl : lv_has ls 6 [(0, .ref h), (2, .int (nI (k))), (3, .int (nI (spn))), (4, .int (nI (0))), (5, .int (nI (i)))] := hl
        refine lv_aload_n hx hb d_J_carveSpans_25 rfl (lv_at hl 0 rfl) ?_
        refine lv_iload_n hx hb d_J_carveSpans_26 rfl (lv_at hl 1 rfl) ?_
        refine lv_aload_n hx hb d_J_carveSpans_27 rfl (lv_at hl 0 rfl) ?_
        refine va_get (D := g.1) (ci := 1) (v := .ref amk) (C := R_J) (T := F_J) (N := 14) hx hb htB in_J hown ha.1 hP 0 rfl rfl 13 (by decide) (htB _ kw_53) (fun _ h9 => h9) hf13 d_J_carveSpans_28 ?_
        refine lv_iload hx hb d_J_carveSpans_31 (lv_at hl 4 rfl) ?_
        refine ja_ald (k := i) hx hb ha.1 hP 6 0 rfl rfl (by omega) (by omega) d_J_carveSpans_33 ?_
        rw [hmk i (by omega)]
        refine lv_aload_n hx hb d_J_carveSpans_34 rfl (lv_at hl 0 rfl) ?_
        refine va_get (D := g.1) (ci := 1) (v := .ref amk) (C := R_J) (T := F_J) (N := 14) hx hb htB in_J hown ha.1 hP 0 rfl rfl 13 (by decide) (htB _ kw_53) (fun _ h9 => h9) hf13 d_J_carveSpans_35 ?_
        refine lv_iload hx hb d_J_carveSpans_38 (lv_at hl 4 rfl) ?_
        refine lv_iconst (v := (nI (1))) hx hb d_J_carveSpans_40 (by decide) ?_
        refine jv_iadd hx hb d_J_carveSpans_41 ?_
        refine ja_ald (k := i + 1) hx hb ha.1 hP 6 0 rfl rfl (by omega) (by omega) d_J_carveSpans_42 ?_
        rw [hmk (i + 1) (by omega)]
        refine lv_iload hx hb d_J_carveSpans_43 (lv_at hl 3 rfl) ?_
        refine lv_if_eq (tgt := 55) hx hb d_J_carveSpans_45 (by decide) (fun _ => ?_) (fun h => absurd h (by decide))
        refine lv_iconst (v := (nI (0))) hx hb d_J_carveSpans_55 (by decide) ?_
        have hPc := hP.sub (ws' := [(h, .inr (1, fs)), (att, eI g 6 (ft)), (ac, eI g 6 (cm))]) [0, 1, 5] rfl
        have hDc := hD.sub (ws' := [(h, .inr (1, fs)), (att, eI g 6 (ft)), (ac, eI g 6 (cm))]) [0, 1, 5] (by decide) rfl
        have hFc := va_free (wc := [(h, .inr (1, fs)), (att, eI g 6 (ft)), (ac, eI g 6 (cm))]) hD hS hA [0, 1, 5] rfl
        refine va_callv (va_runV (As := [.int (nI (k)), .int (nI (ms i)), .int (nI (ms (i + 1))), .int (nI (0))]) (rest := []) ⟨hx, hb, hml, hown, htB⟩ (m_J_setSpan l g z _ h fs att ac (ft) (cm) (k) (nI (ms i)) (nI (ms (i + 1))) (nI (0))) (cwV 4 htB (gV kw_321 kw_323 ks_0_13 kw_1 g_J_setSpan) rfl rfl rfl (by decide +kernel) ⟨Nat.le_of_ble_eq_true rfl, Nat.le_of_ble_eq_true rfl⟩) (pre_V hS hz ha (va_recv ha.1 hP (ci := 1) (q0 := 0) rfl rfl) ⟨hPc, hDc.weaken (fun _ _ _ h => hz _ h), ⟨hf10, hf12, by omega⟩⟩) rfl rfl hl.1 rfl (lv_room (Nat.le_of_ble_eq_true rfl)) d_J_carveSpans_56 ⟨Nat.le_of_ble_eq_true rfl, Nat.le_of_ble_eq_true rfl⟩) hS (fun q _ h => hFc q h) hFc (fun u_16 t H1 locs ht hvm hw hB hz1 hk1 hS => ?_)
        obtain ⟨hP1, hD1⟩ := hB
        rw [ht] at hP1
        obtain ⟨hP, hD⟩ := va_join (wr := [(ar, eI g 6 (r)), (sp, .inr (0, [.ref bs, .int (nI (ns))])), (bs, eI g 144 (fsp)), (amk, eI g 9 (mk)), (da, .inr (0, [.ref ba, .int (nI (na))])), (ba, eI g 144 (fa)), (db, .inr (0, [.ref bb, .int (nI (nb))])), (bb, eI g 144 (fb))]) (w1 := [(h, .inr (1, fs)), (att, eI g 6 (spT cm (ft) k (nI (ms i)) (nI (ms (i + 1))) (nI (0)))), (ac, eI g 6 (cm))]) hP hD [0, 1, 5] [2, 3, 4, 6, 7, 8, 9, 10] rfl rfl (by decide) (by decide) hk1 hFc hP1 hD1
        clear hPc hDc hFc hP1 hD1 hk1 hz1 hvm ht
        generalize H1 = H at hP hS ⊢
        have hP : va_P g.1 cls [(ar, eI g 6 (r)), (sp, .inr (0, [.ref bs, .int (nI (ns))])), (bs, eI g 144 (fsp)), (amk, eI g 9 (mk)), (da, .inr (0, [.ref ba, .int (nI (na))])), (ba, eI g 144 (fa)), (db, .inr (0, [.ref bb, .int (nI (nb))])), (bb, eI g 144 (fb)), (h, .inr (1, fs)), (att, eI g 6 (spT cm (ft) k (nI (ms i)) (nI (ms (i + 1))) (nI (0)))), (ac, eI g 6 (cm))] H := hP
        have hD : va_D A [(ar, eI g 6 (r)), (sp, .inr (0, [.ref bs, .int (nI (ns))])), (bs, eI g 144 (fsp)), (amk, eI g 9 (mk)), (da, .inr (0, [.ref ba, .int (nI (na))])), (ba, eI g 144 (fa)), (db, .inr (0, [.ref bb, .int (nI (nb))])), (bb, eI g 144 (fb)), (h, .inr (1, fs)), (att, eI g 6 (spT cm (ft) k (nI (ms i)) (nI (ms (i + 1))) (nI (0)))), (ac, eI g 6 (cm))] := hD
        refine lv_aload_n hx hb d_J_carveSpans_59 rfl (lv_at hl 0 rfl) ?_
        refine lv_iload hx hb d_J_carveSpans_60 (lv_at hl 3 rfl) ?_
        refine lv_if_eq (tgt := 72) hx hb d_J_carveSpans_62 (by decide) (fun _ => ?_) (fun h => absurd h (by decide))
        refine lv_aload_n hx hb d_J_carveSpans_72 rfl (lv_at hl 0 rfl) ?_
        refine va_get (D := g.1) (ci := 1) (v := .ref db) (C := R_J) (T := F_J) (N := 14) hx hb htB in_J hown ha.1 hP 8 rfl rfl 8 (by decide) (htB _ kw_48) (fun _ h9 => h9) hf8 d_J_carveSpans_73 ?_
        have hPc := hP.sub (ws' := [(h, .inr (1, fs)), (att, eI g 6 (spT cm (ft) k (nI (ms i)) (nI (ms (i + 1))) (nI (0)))), (ar, eI g 6 (r)), (sp, .inr (0, [.ref bs, .int (nI (ns))])), (bs, eI g 144 (fsp)), (db, .inr (0, [.ref bb, .int (nI (nb))])), (bb, eI g 144 (fb))]) [8, 9, 0, 1, 2, 6, 7] rfl
        have hDc := hD.sub (ws' := [(h, .inr (1, fs)), (att, eI g 6 (spT cm (ft) k (nI (ms i)) (nI (ms (i + 1))) (nI (0)))), (ar, eI g 6 (r)), (sp, .inr (0, [.ref bs, .int (nI (ns))])), (bs, eI g 144 (fsp)), (db, .inr (0, [.ref bb, .int (nI (nb))])), (bb, eI g 144 (fb))]) [8, 9, 0, 1, 2, 6, 7] (by decide) rfl
        have hFc := va_free (wc := [(h, .inr (1, fs)), (att, eI g 6 (spT cm (ft) k (nI (ms i)) (nI (ms (i + 1))) (nI (0)))), (ar, eI g 6 (r)), (sp, .inr (0, [.ref bs, .int (nI (ns))])), (bs, eI g 144 (fsp)), (db, .inr (0, [.ref bb, .int (nI (nb))])), (bb, eI g 144 (fb))]) hD hS hA [8, 9, 0, 1, 2, 6, 7] rfl
        refine va_calli (va_runV (As := [.ref db]) (rest := []) ⟨hx, hb, hml, hown, htB⟩ (m_J_carve l g z _ h fs att ar sp bs (ns) db bb (nb) (spT cm (ft) k (nI (ms i)) (nI (ms (i + 1))) (nI (0))) (r) (fsp) (fb)) (cwV 1 htB (gV kw_247 kw_249 ks_0_5 kw_1 g_J_carve) rfl rfl rfl (by decide +kernel) ⟨Nat.le_of_ble_eq_true rfl, Nat.le_of_ble_eq_true rfl⟩) (pre_V hS hz ha (va_recv ha.1 hP (ci := 1) (q0 := 8) rfl rfl) ⟨hPc, hDc.weaken (fun _ _ _ h => hz _ h), ⟨hf9, hf10, hf11, by omega⟩⟩) rfl rfl hl.1 rfl (lv_room (Nat.le_of_ble_eq_true rfl)) d_J_carveSpans_76 ⟨Nat.le_of_ble_eq_true rfl, Nat.le_of_ble_eq_true rfl⟩) hS (fun q _ h => hFc q h) hFc (fun r_18 u_19 t H1 locs ht hvm hw hB hz1 hk1 hS => ?_)
        obtain ⟨hP1, hD1⟩ := hB
        rw [ht] at hP1
        obtain ⟨hP, hD⟩ := va_join (wr := [(amk, eI g 9 (mk)), (da, .inr (0, [.ref ba, .int (nI (na))])), (ba, eI g 144 (fa)), (ac, eI g 6 (cm))]) (w1 := [(h, .inr (1, fs)), (att, eI g 6 (spT cm (ft) k (nI (ms i)) (nI (ms (i + 1))) (nI (0)))), (ar, eI g 6 ((cv (fb) (spT cm (ft) k (nI (ms i)) (nI (ms (i + 1))) (nI (0))) (r) (fsp) (nb)).1)), (sp, .inr (0, [.ref bs, .int (nI ((cv (fb) (spT cm (ft) k (nI (ms i)) (nI (ms (i + 1))) (nI (0))) (r) (fsp) (nb)).2.1))])), (bs, eI g 144 ((cv (fb) (spT cm (ft) k (nI (ms i)) (nI (ms (i + 1))) (nI (0))) (r) (fsp) (nb)).2.2)), (db, .inr (0, [.ref bb, .int (nI (if (cv (fb) (spT cm (ft) k (nI (ms i)) (nI (ms (i + 1))) (nI (0))) (r) (fsp) (nb)).2.1 ≤ 24 then (cv (fb) (spT cm (ft) k (nI (ms i)) (nI (ms (i + 1))) (nI (0))) (r) (fsp) (nb)).2.1 else nb))])), (bb, eI g 144 (if (cv (fb) (spT cm (ft) k (nI (ms i)) (nI (ms (i + 1))) (nI (0))) (r) (fsp) (nb)).2.1 ≤ 24 then va_cpy (cv (fb) (spT cm (ft) k (nI (ms i)) (nI (ms (i + 1))) (nI (0))) (r) (fsp) (nb)).2.2 (fb) 0 0 ((cv (fb) (spT cm (ft) k (nI (ms i)) (nI (ms (i + 1))) (nI (0))) (r) (fsp) (nb)).2.1 * 6) else (fb)))]) hP hD [8, 9, 0, 1, 2, 6, 7] [3, 4, 5, 10] rfl rfl (by decide) (by decide) hk1 hFc hP1 hD1
        clear hPc hDc hFc hP1 hD1 hk1 hz1 hvm ht
        generalize H1 = H at hP hS ⊢
        have hP : va_P g.1 cls [(amk, eI g 9 (mk)), (da, .inr (0, [.ref ba, .int (nI (na))])), (ba, eI g 144 (fa)), (ac, eI g 6 (cm)), (h, .inr (1, fs)), (att, eI g 6 (spT cm (ft) k (nI (ms i)) (nI (ms (i + 1))) (nI (0)))), (ar, eI g 6 ((cv (fb) (spT cm (ft) k (nI (ms i)) (nI (ms (i + 1))) (nI (0))) (r) (fsp) (nb)).1)), (sp, .inr (0, [.ref bs, .int (nI ((cv (fb) (spT cm (ft) k (nI (ms i)) (nI (ms (i + 1))) (nI (0))) (r) (fsp) (nb)).2.1))])), (bs, eI g 144 ((cv (fb) (spT cm (ft) k (nI (ms i)) (nI (ms (i + 1))) (nI (0))) (r) (fsp) (nb)).2.2)), (db, .inr (0, [.ref bb, .int (nI (if (cv (fb) (spT cm (ft) k (nI (ms i)) (nI (ms (i + 1))) (nI (0))) (r) (fsp) (nb)).2.1 ≤ 24 then (cv (fb) (spT cm (ft) k (nI (ms i)) (nI (ms (i + 1))) (nI (0))) (r) (fsp) (nb)).2.1 else nb))])), (bb, eI g 144 (if (cv (fb) (spT cm (ft) k (nI (ms i)) (nI (ms (i + 1))) (nI (0))) (r) (fsp) (nb)).2.1 ≤ 24 then va_cpy (cv (fb) (spT cm (ft) k (nI (ms i)) (nI (ms (i + 1))) (nI (0))) (r) (fsp) (nb)).2.2 (fb) 0 0 ((cv (fb) (spT cm (ft) k (nI (ms i)) (nI (ms (i + 1))) (nI (0))) (r) (fsp) (nb)).2.1 * 6) else (fb)))] H := hP
        have hD : va_D A [(amk, eI g 9 (mk)), (da, .inr (0, [.ref ba, .int (nI (na))])), (ba, eI g 144 (fa)), (ac, eI g 6 (cm)), (h, .inr (1, fs)), (att, eI g 6 (spT cm (ft) k (nI (ms i)) (nI (ms (i + 1))) (nI (0)))), (ar, eI g 6 ((cv (fb) (spT cm (ft) k (nI (ms i)) (nI (ms (i + 1))) (nI (0))) (r) (fsp) (nb)).1)), (sp, .inr (0, [.ref bs, .int (nI ((cv (fb) (spT cm (ft) k (nI (ms i)) (nI (ms (i + 1))) (nI (0))) (r) (fsp) (nb)).2.1))])), (bs, eI g 144 ((cv (fb) (spT cm (ft) k (nI (ms i)) (nI (ms (i + 1))) (nI (0))) (r) (fsp) (nb)).2.2)), (db, .inr (0, [.ref bb, .int (nI (if (cv (fb) (spT cm (ft) k (nI (ms i)) (nI (ms (i + 1))) (nI (0))) (r) (fsp) (nb)).2.1 ≤ 24 then (cv (fb) (spT cm (ft) k (nI (ms i)) (nI (ms (i + 1))) (nI (0))) (r) (fsp) (nb)).2.1 else nb))])), (bb, eI g 144 (if (cv (fb) (spT cm (ft) k (nI (ms i)) (nI (ms (i + 1))) (nI (0))) (r) (fsp) (nb)).2.1 ≤ 24 then va_cpy (cv (fb) (spT cm (ft) k (nI (ms i)) (nI (ms (i + 1))) (nI (0))) (r) (fsp) (nb)).2.2 (fb) 0 0 ((cv (fb) (spT cm (ft) k (nI (ms i)) (nI (ms (i + 1))) (nI (0))) (r) (fsp) (nb)).2.1 * 6) else (fb)))] := hD
        obtain ⟨ftn, hftn⟩ : ∃ x : Nat → Int32, x = spT cm (ft) k (nI (ms i)) (nI (ms (i + 1))) (nI (0)) := ⟨_, rfl⟩
        rw [← hftn] at hP hD hw
        have hTg : gb ftn 0 = lb cm k (nI 0) (ms i) (ms (i + 1)) := by rw [hftn]; exact spT_gb cm _ hk3 _ _ _
        have hTl : okB (lb cm k (nI 0) (ms i) (ms (i + 1))) := lb_ok hcm ⟨by decide, by decide⟩ hi2.1 hi2.2
        obtain ⟨e1, e2⟩ := carve_R (r0 := r) (b0 := fsp) hRB hokB (by rw [hTg]; exact hTl)
        rw [hTg] at e1 e2
        obtain ⟨r2, n2, b2, hcv⟩ : ∃ (r2 : Nat → Int32) (n2 : Nat) (b2 : Nat → Int32), (r2, n2, b2) = cv (fb) (ftn) (r) (fsp) (nb) := ⟨_, _, _, rfl⟩
        rw [← hcv] at hP hD hw e1 e2
        dsimp only at hP hD hw e1 e2
        have hst := stp_f hsq0 htu
        by_cases c_20 : n2 ≤ 24
        · rw [if_pos c_20, if_pos c_20] at hP hD
          rw [if_pos c_20] at hw
          subst hw
          rw [if_pos (by rw [← e1]; exact c_20)] at hst
          have hR2 := e2 c_20
          have hsq := hst
          obtain ⟨fb2, hfo⟩ : ∃ x : Nat → Int32, x = va_cpy b2 (fb) 0 0 (n2 * 6) := ⟨_, rfl⟩
          rw [← hfo] at hP hD hR2
          have hP : va_P g.1 cls [(amk, eI g 9 (mk)), (da, .inr (0, [.ref ba, .int (nI (na))])), (ba, eI g 144 (fa)), (ac, eI g 6 (cm)), (h, .inr (1, fs)), (att, eI g 6 (ftn)), (ar, eI g 6 (r2)), (sp, .inr (0, [.ref bs, .int (nI (n2))])), (bs, eI g 144 (b2)), (db, .inr (0, [.ref bb, .int (nI (n2))])), (bb, eI g 144 (fb2))] H := hP
          have hD : va_D A [(amk, eI g 9 (mk)), (da, .inr (0, [.ref ba, .int (nI (na))])), (ba, eI g 144 (fa)), (ac, eI g 6 (cm)), (h, .inr (1, fs)), (att, eI g 6 (ftn)), (ar, eI g 6 (r2)), (sp, .inr (0, [.ref bs, .int (nI (n2))])), (bs, eI g 144 (b2)), (db, .inr (0, [.ref bb, .int (nI (n2))])), (bb, eI g 144 (fb2))] := hD
          refine lv_if_ne (tgt := 84) hx hb d_J_carveSpans_79 (by decide) (fun _ => ?_) (fun h => absurd h (by decide))
          refine lv_iload hx hb d_J_carveSpans_84 (lv_at hl 3 rfl) ?_
          refine lv_if_ne (tgt := 93) hx hb d_J_carveSpans_86 (by decide) (fun h => absurd h (by decide)) (fun _ => ?_)
          refine lv_iconst (v := (nI (1))) hx hb d_J_carveSpans_89 (by decide) ?_
          refine lv_goto (tgt := 94) hx hb d_J_carveSpans_90 (by decide) ?_
          refine lv_istore (lv' := [(4, .int (nI (1))), (0, .ref h), (2, .int (nI (k))), (3, .int (nI (spn))), (5, .int (nI (i)))]) hx hb d_J_carveSpans_94 hl (by decide) rfl (fun ls hl => ?_)
          refine lv_iinc (v := nI (i + 1)) (lv' := [(5, .int (nI (i + 1))), (4, .int (nI (1))), (0, .ref h), (2, .int (nI (k))), (3, .int (nI (spn)))]) hx hb d_J_carveSpans_96 hl (k := 4) rfl (nI_add _ 1) (by decide) rfl (fun ls hl => ?_)
          refine lv_goto (tgt := 19) hx hb d_J_carveSpans_99 (by decide) ?_
          have htu2 : tb s0 (i + 1) = true := by rw [tb_s, htu]; rfl
          rw [show nI 1 = (if tb s0 (i + 1) = true then nI 1 else nI 0) from (if_pos htu2).symm] at hl
          exact ih_2 (i + 1) ls locs H (by omega) ⟨by omega, n2, na, n2, ftn, r2, b2, fa, fb2, LA, _, ⟨hsq, hRA, hR2, hokA, cutL_ok hTl hokB⟩, lv_sub (l' := [(0, .ref h), (2, .int (nI (k))), (3, .int (nI (spn))), (4, .int (if tb s0 (i + 1) = true then nI 1 else nI 0)), (5, .int (nI (i + 1)))]) hl [2, 3, 4, 1, 0] rfl, hP.sub (ws' := [(h, .inr (1, fs)), (att, eI g 6 (ftn)), (ar, eI g 6 (r2)), (sp, .inr (0, [.ref bs, .int (nI (n2))])), (bs, eI g 144 (b2)), (ac, eI g 6 (cm)), (amk, eI g 9 (mk)), (da, .inr (0, [.ref ba, .int (nI (na))])), (ba, eI g 144 (fa)), (db, .inr (0, [.ref bb, .int (nI (n2))])), (bb, eI g 144 (fb2))]) [4, 5, 6, 7, 8, 3, 0, 1, 2, 9, 10] rfl, (hD.sub (ws' := [(h, .inr (1, fs)), (att, eI g 6 (ftn)), (ar, eI g 6 (r2)), (sp, .inr (0, [.ref bs, .int (nI (n2))])), (bs, eI g 144 (b2)), (ac, eI g 6 (cm)), (amk, eI g 9 (mk)), (da, .inr (0, [.ref ba, .int (nI (na))])), (ba, eI g 144 (fa)), (db, .inr (0, [.ref bb, .int (nI (n2))])), (bb, eI g 144 (fb2))]) [4, 5, 6, 7, 8, 3, 0, 1, 2, 9, 10] (by decide) rfl).re [h, att, ar, sp, bs, ac, amk, da, ba, db, bb] rfl rfl, hS⟩
        · rw [if_neg c_20, if_neg c_20] at hP hD
          rw [if_neg c_20] at hw
          subst hw
          rw [if_neg (by rw [← e1]; exact c_20)] at hst
          have hP : va_P g.1 cls [(amk, eI g 9 (mk)), (da, .inr (0, [.ref ba, .int (nI (na))])), (ba, eI g 144 (fa)), (ac, eI g 6 (cm)), (h, .inr (1, fs)), (att, eI g 6 (ftn)), (ar, eI g 6 (r2)), (sp, .inr (0, [.ref bs, .int (nI (n2))])), (bs, eI g 144 (b2)), (db, .inr (0, [.ref bb, .int (nI (nb))])), (bb, eI g 144 (fb))] H := hP
          have hD : va_D A [(amk, eI g 9 (mk)), (da, .inr (0, [.ref ba, .int (nI (na))])), (ba, eI g 144 (fa)), (ac, eI g 6 (cm)), (h, .inr (1, fs)), (att, eI g 6 (ftn)), (ar, eI g 6 (r2)), (sp, .inr (0, [.ref bs, .int (nI (n2))])), (bs, eI g 144 (b2)), (db, .inr (0, [.ref bb, .int (nI (nb))])), (bb, eI g 144 (fb))] := hD
          refine lv_if_ne (tgt := 84) hx hb d_J_carveSpans_79 (by decide) (fun h => absurd h (by decide)) (fun _ => ?_)
          refine lv_iconst (v := (nI (0))) hx hb d_J_carveSpans_82 (by decide) ?_
          have hP9 := hP.sub (ws' := [(h, .inr (1, fs)), (att, eI g 6 (ftn)), (ar, eI g 6 (r2)), (sp, .inr (0, [.ref bs, .int (nI (n2))])), (bs, eI g 144 (b2)), (ac, eI g 6 (cm)), (amk, eI g 9 (mk)), (da, .inr (0, [.ref ba, .int (nI (na))])), (ba, eI g 144 (fa)), (db, .inr (0, [.ref bb, .int (nI (nb))])), (bb, eI g 144 (fb))]) [4, 5, 6, 7, 8, 3, 0, 1, 2, 9, 10] rfl
          have hD9 := hD.sub (ws' := [(h, .inr (1, fs)), (att, eI g 6 (ftn)), (ar, eI g 6 (r2)), (sp, .inr (0, [.ref bs, .int (nI (n2))])), (bs, eI g 144 (b2)), (ac, eI g 6 (cm)), (amk, eI g 9 (mk)), (da, .inr (0, [.ref ba, .int (nI (na))])), (ba, eI g 144 (fa)), (db, .inr (0, [.ref bb, .int (nI (nb))])), (bb, eI g 144 (fb))]) [4, 5, 6, 7, 8, 3, 0, 1, 2, 9, 10] (by decide) rfl
          exact (W.widen (k := 0) (n := 0) (Nat.le_of_ble_eq_true rfl) (Nat.le_of_ble_eq_true rfl) (W.zret (v := (nI (0))) hx hb hr (by decide) (fun t ht hW => ⟨⟨(nI (0)), (n2, na, nb, ftn, r2, b2, fa, fb), rfl, Or.inr ⟨spl_none hst _ (by omega), rfl⟩, by rw [ht]; exact hP9, hD9.re [h, att, ar, sp, bs, ac, amk, da, ba, db, bb] rfl rfl⟩, hS.F ht⟩) hS.2.2 d_J_carveSpans_83))
  · rcases (show kd = 0 ∨ kd = 1 ∨ kd = 2 ∨ kd = 3 ∨ kd = 4 by omega) with rfl | rfl | rfl | rfl | rfl
    · refine lv_iload_n hx hb d_J_carveSpans_0 rfl (lv_at hl 1 rfl) ?_
      refine lv_if_eq (tgt := 13) hx hb d_J_carveSpans_1 (by decide) (fun _ => ?_) (fun h => absurd h (by decide))
      refine lv_iconst (v := (nI (0))) hx hb d_J_carveSpans_13 (by decide) ?_
      refine lv_istore (lv' := [(4, .int (nI (0))), (0, .ref h), (1, .int (nI (0))), (2, .int (nI (k))), (3, .int (nI (spn)))]) hx hb d_J_carveSpans_14 hl (by decide) rfl (fun ls hl => ?_)
      subst hs0
      exact K ls locs H ⟨lv_sub hl [0, 1, 3, 4] rfl, hP, hD, hS⟩
    · refine lv_iload_n hx hb d_J_carveSpans_0 rfl (lv_at hl 1 rfl) ?_
      refine lv_if_eq (tgt := 13) hx hb d_J_carveSpans_1 (by decide) (fun h => absurd h (by decide)) (fun _ => ?_)
      refine lv_iload_n hx hb d_J_carveSpans_4 rfl (lv_at hl 1 rfl) ?_
      refine lv_iconst (v := (nI (3))) hx hb d_J_carveSpans_5 (by decide) ?_
      refine jv_icmp_eq (tgt := 13) hx hb (by omega) (by omega) d_J_carveSpans_6 (by decide) (fun h => absurd h (by decide)) (fun _ => ?_)
      refine lv_iconst (v := (nI (1))) hx hb d_J_carveSpans_9 (by decide) ?_
      refine lv_goto (tgt := 14) hx hb d_J_carveSpans_10 (by decide) ?_
      refine lv_istore (lv' := [(4, .int (nI (1))), (0, .ref h), (1, .int (nI (1))), (2, .int (nI (k))), (3, .int (nI (spn)))]) hx hb d_J_carveSpans_14 hl (by decide) rfl (fun ls hl => ?_)
      subst hs0
      exact K ls locs H ⟨lv_sub hl [0, 1, 3, 4] rfl, hP, hD, hS⟩
    · refine lv_iload_n hx hb d_J_carveSpans_0 rfl (lv_at hl 1 rfl) ?_
      refine lv_if_eq (tgt := 13) hx hb d_J_carveSpans_1 (by decide) (fun h => absurd h (by decide)) (fun _ => ?_)
      refine lv_iload_n hx hb d_J_carveSpans_4 rfl (lv_at hl 1 rfl) ?_
      refine lv_iconst (v := (nI (3))) hx hb d_J_carveSpans_5 (by decide) ?_
      refine jv_icmp_eq (tgt := 13) hx hb (by omega) (by omega) d_J_carveSpans_6 (by decide) (fun h => absurd h (by decide)) (fun _ => ?_)
      refine lv_iconst (v := (nI (1))) hx hb d_J_carveSpans_9 (by decide) ?_
      refine lv_goto (tgt := 14) hx hb d_J_carveSpans_10 (by decide) ?_
      refine lv_istore (lv' := [(4, .int (nI (1))), (0, .ref h), (1, .int (nI (2))), (2, .int (nI (k))), (3, .int (nI (spn)))]) hx hb d_J_carveSpans_14 hl (by decide) rfl (fun ls hl => ?_)
      subst hs0
      exact K ls locs H ⟨lv_sub hl [0, 1, 3, 4] rfl, hP, hD, hS⟩
    · refine lv_iload_n hx hb d_J_carveSpans_0 rfl (lv_at hl 1 rfl) ?_
      refine lv_if_eq (tgt := 13) hx hb d_J_carveSpans_1 (by decide) (fun h => absurd h (by decide)) (fun _ => ?_)
      refine lv_iload_n hx hb d_J_carveSpans_4 rfl (lv_at hl 1 rfl) ?_
      refine lv_iconst (v := (nI (3))) hx hb d_J_carveSpans_5 (by decide) ?_
      refine jv_icmp_eq (tgt := 13) hx hb (by omega) (by omega) d_J_carveSpans_6 (by decide) (fun _ => ?_) (fun h => absurd h (by decide))
      refine lv_iconst (v := (nI (0))) hx hb d_J_carveSpans_13 (by decide) ?_
      refine lv_istore (lv' := [(4, .int (nI (0))), (0, .ref h), (1, .int (nI (3))), (2, .int (nI (k))), (3, .int (nI (spn)))]) hx hb d_J_carveSpans_14 hl (by decide) rfl (fun ls hl => ?_)
      subst hs0
      exact K ls locs H ⟨lv_sub hl [0, 1, 3, 4] rfl, hP, hD, hS⟩
    · refine lv_iload_n hx hb d_J_carveSpans_0 rfl (lv_at hl 1 rfl) ?_
      refine lv_if_eq (tgt := 13) hx hb d_J_carveSpans_1 (by decide) (fun h => absurd h (by decide)) (fun _ => ?_)
      refine lv_iload_n hx hb d_J_carveSpans_4 rfl (lv_at hl 1 rfl) ?_
      refine lv_iconst (v := (nI (3))) hx hb d_J_carveSpans_5 (by decide) ?_
      refine jv_icmp_eq (tgt := 13) hx hb (by omega) (by omega) d_J_carveSpans_6 (by decide) (fun h => absurd h (by decide)) (fun _ => ?_)
      refine lv_iconst (v := (nI (1))) hx hb d_J_carveSpans_9 (by decide) ?_
      refine lv_goto (tgt := 14) hx hb d_J_carveSpans_10 (by decide) ?_
      refine lv_istore (lv' := [(4, .int (nI (1))), (0, .ref h), (1, .int (nI (4))), (2, .int (nI (k))), (3, .int (nI (spn)))]) hx hb d_J_carveSpans_14 hl (by decide) rfl (fun ls hl => ?_)
      subst hs0
      exact K ls locs H ⟨lv_sub hl [0, 1, 3, 4] rfl, hP, hD, hS⟩
