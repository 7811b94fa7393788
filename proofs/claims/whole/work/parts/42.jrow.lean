set_option maxHeartbeats 4000000 in
set_option maxRecDepth 100000 in
theorem m_J_row (l : Launch) (hlt : l.stackTraces = false) (g : gT) (z : Nat) (H0 : Heap) (h : Nat) (fs : List Value) (arw : Nat) (rw0 : Nat → Int32) (kv v : Int32) : vx_Met l y_J_row w_J_row ({ frames := 7, cells := 2, slots := 12, locals := 102 }) (va_Pc [.ref h, .int (kv), .int (v)] (pB g z H0 (va_P g.1 cls [(h, .inr (1, fs)), (arw, eI g 5 (rw0))] H0 ∧ va_D (zA z) [(h, .inr (1, fs)), (arw, eI g 5 (rw0))] ∧ (fs[5]? = some (.ref arw))))) (va_Qv (fun (u : Nat → Int32) => ∃ j : Nat, j < 5 ∧ kv = nI j ∧ ¬ (v < 0 ∨ ¬ v ≤ nI 10000) ∧ u = upd rw0 j v) (fun (u : Nat → Int32) t => va_P g.1 cls [(h, .inr (1, fs)), (arw, eI g 5 (u))] t.heap ∧ va_D (va_A [(h, .inr (1, fs)), (arw, eI g 5 (rw0))] H0.size) [(h, .inr (1, fs)), (arw, eI g 5 (u))]) (va_A [(h, .inr (1, fs)), (arw, eI g 5 (rw0))] H0.size)) (xX (fun E => E = E_IOB ∧ noP kv 5 ∨ E = E_IAE ∧ ¬ noP kv 5 ∧ (v < 0 ∨ ¬ v ≤ nI 10000)) H0) 2 12 (va_A [(h, .inr (1, fs)), (arw, eI g 5 (rw0))] H0.size) := by
  refine vx_ofW (cc := c_J_row) (maxL := 3) (ret := none) (by decide) rfl ?_
  intro p e s m args below meth c s₁ B hml htab hv
  obtain ⟨rfl, hH0, ha, hP, hD0, hf5⟩ := hv
  have hx := B.exec
  have hb := B.bytes
  have hr := B.returns
  have htB : ∀ w ∈ tB, w.before _ s = true := fun w h => atoms_spec (ws := w_J_row) B.pre w (List.mem_cons_of_mem _ h)
  have hown : s.vm.findClass "JointSolids" = some m.cls := findClass_of_methodNamed B.named
  have hlocks := B.notSynchronized
  subst hH0
  have hD := hD0.self (sz := s.heap.size)
  have hz := aA_z hD0 ha.2.2.2.2.2
  generalize hAe : va_A [(h, .inr (1, fs)), (arw, eI g 5 (rw0))] s.heap.size = A at hD hz ⊢
  have hA : ∀ q : Nat, s.heap.size ≤ q → A q := fun q h => by rw [← hAe]; exact Or.inr h
  have hS : va_S A s.heap s.heap [] := va_S.rf
  have hl := lv_entry ([.ref h, .int (kv), .int (v)]) (n := 3) (Nat.le_of_ble_eq_true rfl)
  rw [lg_entry_eq]
  generalize (lg_sl ([.ref h, .int (kv), .int (v)]) ++ List.replicate (3 - (lg_sl ([.ref h, .int (kv), .int (v)])).length) Slot.unset).toArray = ls at hl ⊢
  have hl : lv_has ls 3 [(0, .ref h), (1, .int (kv)), (2, .int (v))] := hl
  refine lv_iload_n hx hb d_J_row_0 rfl (lv_at hl 1 rfl) ?_
  refine vx_callv (vx_runS (As := [.int (kv)]) (rest := []) ⟨hx, hb, hml, hown, htB⟩ (x_J_needKind l hlt g z _ (kv)) (va_cwS 1 htB (gS kw_284 kw_285 kw_1 g_J_needKind) rfl rfl rfl (by decide +kernel) ⟨Nat.le_of_ble_eq_true rfl, Nat.le_of_ble_eq_true rfl⟩) (pre_S hS hz ha trivial) rfl rfl hl.1 rfl (lv_room (Nat.le_of_ble_eq_true rfl)) d_J_row_1 ⟨Nat.le_of_ble_eq_true rfl, Nat.le_of_ble_eq_true rfl⟩) hS (fun q _ h => h.elim) (fun q h => h.elim) (fun q h1 h2 => absurd h1 (Nat.not_lt.mpr h2)) (fun E ce q9 u t H1 locs ht hal hpx hBX hsz hk hS hce hcv hcl => ?_) (fun u t H1 locs ht hvm hw hB hz1 hk1 hS => ?_)
  · obtain ⟨hE, hkp⟩ := hBX
    exact vx_out (fun x h => (htab x h).elim) hlocks hce hcv hcl (fun t2 ht2 hal2 => ⟨(), trivial, ⟨Or.inl hE, kpt.mv (ht.trans ht2.symm) hkp⟩, (kpt.mv (ht.trans ht2.symm) hkp).1, fun q hq _ => (kpt.mv (ht.trans ht2.symm) hkp).2 q hq⟩) hS.2.2 (Nat.le_of_ble_eq_true rfl) (Nat.le_of_ble_eq_true rfl)
  · obtain rfl := hB.symm.trans ht
    have hkind := hw
    obtain ⟨j, hj, rfl⟩ := noP_not (by decide) hkind
    refine lv_iload_n hx hb d_J_row_4 rfl (lv_at hl 2 rfl) ?_
    refine lv_if_lt (tgt := 15) hx hb d_J_row_5 (by decide) (fun c_2 => ?_) (fun c_2 => ?_)
    · exact thr_IAE hx hb hlt hown htB ha hz sB_183 hS (hl.1.trans hml.symm) htab d_J_row_15 d_J_row_18 d_J_row_19 d_J_row_21 d_J_row_24 (Nat.le_of_ble_eq_true rfl) (Nat.le_of_ble_eq_true rfl) (Nat.le_of_ble_eq_true rfl) (Nat.le_of_ble_eq_true rfl) hlocks (fun t _ h1 h2 => ⟨(), trivial, ⟨Or.inr ⟨rfl, hkind, Or.inl c_2⟩, h1, h2⟩, h1, fun q hq _ => h2 q hq⟩) hS.2.2 (Nat.le_of_ble_eq_true rfl) (Nat.le_of_ble_eq_true rfl)
    · refine lv_iload_n hx hb d_J_row_8 rfl (lv_at hl 2 rfl) ?_
      refine lv_sipush (v := (nI (10000))) hx hb d_J_row_9 (by decide) ?_
      refine lv_icmp_le (tgt := 25) hx hb d_J_row_12 (by decide) (fun c_3 => ?_) (fun c_3 => ?_)
      · refine lv_aload_n hx hb d_J_row_25 rfl (lv_at hl 0 rfl) ?_
        refine va_get (D := g.1) (ci := 1) (v := .ref arw) (C := R_J) (T := F_J) (N := 14) hx hb htB in_J hown ha.1 hP 0 rfl rfl 5 (by decide) (htB _ kw_45) (fun _ h9 => h9) hf5 d_J_row_26 ?_
        refine lv_iload_n hx hb d_J_row_29 rfl (lv_at hl 1 rfl) ?_
        refine lv_iload_n hx hb d_J_row_30 rfl (lv_at hl 2 rfl) ?_
        refine ja_ast (k := j) hx hb ha.1 hP hD hS 1 0 rfl rfl (by omega) (by omega) d_J_row_31 (fun H locs hP hD hS => ?_)
        have hP : va_P g.1 cls [(h, .inr (1, fs)), (arw, eI g 5 (upd (rw0) (j) (v)))] H := hP
        have hD : va_D A [(h, .inr (1, fs)), (arw, eI g 5 (upd (rw0) (j) (v)))] := hD
        have hP9 := hP.sub (ws' := [(h, .inr (1, fs)), (arw, eI g 5 (upd (rw0) (j) (v)))]) [0, 1] rfl
        have hD9 := hD.sub (ws' := [(h, .inr (1, fs)), (arw, eI g 5 (upd (rw0) (j) (v)))]) [0, 1] (by decide) rfl
        exact vx_ret (W.widen (k := 2) (n := 12) (Nat.le_of_ble_eq_true rfl) (Nat.le_of_ble_eq_true rfl) (W.vret hx hb hr (fun t ht hW => ⟨⟨upd (rw0) (j) (v), rfl, ⟨j, hj, rfl, fun q => q.elim c_2 (fun q => q c_3), rfl⟩, by rw [ht]; exact hP9, hD9.re [h, arw] rfl rfl⟩, hS.F ht⟩) hS.2.2 d_J_row_32))
      · exact thr_IAE hx hb hlt hown htB ha hz sB_183 hS (hl.1.trans hml.symm) htab d_J_row_15 d_J_row_18 d_J_row_19 d_J_row_21 d_J_row_24 (Nat.le_of_ble_eq_true rfl) (Nat.le_of_ble_eq_true rfl) (Nat.le_of_ble_eq_true rfl) (Nat.le_of_ble_eq_true rfl) hlocks (fun t _ h1 h2 => ⟨(), trivial, ⟨Or.inr ⟨rfl, hkind, Or.inr c_3⟩, h1, h2⟩, h1, fun q hq _ => h2 q hq⟩) hS.2.2 (Nat.le_of_ble_eq_true rfl) (Nat.le_of_ble_eq_true rfl)
