set_option maxHeartbeats 4000000 in
set_option maxRecDepth 100000 in
theorem m_M_first (l : Launch) (g : gT) (z : Nat) (H0 : Heap) (h : Nat) (fs : List Value) (ap am np : Nat) (f mn : Nat → Int32) (nn : Nat → Nat) : Met l y_M_first w_M_first ({ frames := 3, cells := 0, slots := 0, locals := 73 }) (va_Pc [.ref h] (pB g z H0 (va_P g.1 cls [(h, .inr (3, fs)), (ap, eI g 1152 (f)), (am, eI g 8 (mn))] H0 ∧ va_D (zA z) [(h, .inr (3, fs)), (ap, eI g 1152 (f)), (am, eI g 8 (mn))] ∧ (fs.length = 19 ∧ fs[1]? = some (.int (nI np)) ∧ np ≤ 8 ∧ fs[3]? = some (.ref ap) ∧ fs[4]? = some (.ref am) ∧ (∀ j, j < np → nn j ≤ 24 ∧ mn j = nI (nn j)))))) (va_Qi (fun (rr : Int32) (u : List Value) => u = fs.set 0 (.int (nI 0)) ∧ ((∃ a b : Nat, a < b ∧ b < np ∧ 0 < ovM f a (nn a) b (nn b) ∧ rr = nI (8 * a + b) ∧ ∀ a2 b2 : Nat, a2 < b2 → b2 < np → (a2 < a ∨ (a2 = a ∧ b2 < b)) → ¬ 0 < ovM f a2 (nn a2) b2 (nn b2)) ∨ (rr = -1 ∧ ∀ a b : Nat, a < b → b < np → ¬ 0 < ovM f a (nn a) b (nn b)))) (fun (u : List Value) t => va_P g.1 cls [(h, .inr (3, u)), (ap, eI g 1152 (f)), (am, eI g 8 (mn))] t.heap ∧ va_D (va_A [(h, .inr (3, fs)), (ap, eI g 1152 (f)), (am, eI g 8 (mn))] H0.size) [(h, .inr (3, u)), (ap, eI g 1152 (f)), (am, eI g 8 (mn))]) (va_A [(h, .inr (3, fs)), (ap, eI g 1152 (f)), (am, eI g 8 (mn))] H0.size)) 0 0 (va_A [(h, .inr (3, fs)), (ap, eI g 1152 (f)), (am, eI g 8 (mn))] H0.size) := by
  refine Met.ofW (cc := c_M_first) (maxL := 3) (ret := (some .int)) (by decide) rfl ?_
  intro p e s m args below meth c s₁ B hml hv
  obtain ⟨rfl, hH0, ha, hP, hD0, hlen, hf1, hnp, hf3, hf4, hnn⟩ := hv
  have hx := B.exec
  have hb := B.bytes
  have hr := B.returns
  have htB : ∀ w ∈ tB, w.before _ s = true := fun w h => atoms_spec (ws := w_M_first) B.pre w (List.mem_cons_of_mem _ h)
  have hown : s.vm.findClass "JointSolidsModel" = some m.cls := findClass_of_methodNamed B.named
  have hlocks := B.notSynchronized
  subst hH0
  have hD := hD0.self (sz := s.heap.size)
  have hz := aA_z hD0 ha.2.2.2.2.2
  generalize hAe : va_A [(h, .inr (3, fs)), (ap, eI g 1152 (f)), (am, eI g 8 (mn))] s.heap.size = A at hD hz ⊢
  have hA : ∀ q : Nat, s.heap.size ≤ q → A q := fun q h => by rw [← hAe]; exact Or.inr h
  have hS : va_S A s.heap s.heap [] := va_S.rf
  refine W.ofH hP hS (fun H locs hP hS => ?_)
  have hl := lv_entry ([.ref h]) (n := 3) (Nat.le_of_ble_eq_true rfl)
  rw [lg_entry_eq]
  generalize (lg_sl ([.ref h]) ++ List.replicate (3 - (lg_sl ([.ref h])).length) Slot.unset).toArray = ls at hl ⊢
  have hl : lv_has ls 3 [(0, .ref h)] := hl
  refine lv_aload_n hx hb d_M_first_0 rfl (lv_at hl 0 rfl) ?_
  refine lv_iconst (v := (nI (0))) hx hb d_M_first_1 (by decide) ?_
  refine va_put (D := g.1) (ci := 3) (v := .int (nI (0))) (ty := .int) (C := R_M) (T := F_M) (N := 19) hx hb htB in_M t_M t_M_ok n_M hown ha.1 hP hD hS 0 rfl rfl 0 (by decide) (htB _ kw_442) (fun _ h9 => h9) rfl (by decide +kernel) rfl rfl (by rw [hlen]; decide) d_M_first_2 (fun H locs hP hD hS => ?_)
  have hP : va_P g.1 cls [(h, .inr (3, (fs).set 0 (.int (nI (0))))), (ap, eI g 1152 (f)), (am, eI g 8 (mn))] H := hP
  have hD : va_D A [(h, .inr (3, (fs).set 0 (.int (nI (0))))), (ap, eI g 1152 (f)), (am, eI g 8 (mn))] := hD
  refine lv_iconst (v := (nI (0))) hx hb d_M_first_5 (by decide) ?_
  refine lv_istore_n (lv' := [(1, .int (nI (0))), (0, .ref h)]) hx hb d_M_first_6 rfl hl (by decide) rfl (fun ls hl => ?_)
  refine W.loop (N := np) (X := fun i ls locs H => i ≤ np ∧ ∃ (du : Unit), (∀ a b : Nat, a < i → a < b → b < np → ¬ 0 < ovM f a (nn a) b (nn b)) ∧ lv_has ls 3 [(0, .ref h), (1, .int (nI (i)))] ∧ va_P g.1 cls [(h, .inr (3, (fs).set 0 (.int (nI (0))))), (ap, eI g 1152 (f)), (am, eI g 8 (mn))] H ∧ va_D A [(h, .inr (3, (fs).set 0 (.int (nI (0))))), (ap, eI g 1152 (f)), (am, eI g 8 (mn))] ∧ va_S A s.heap H locs) 0 ⟨Nat.zero_le _, (), (fun a b h1 _ _ => absurd h1 (Nat.not_lt_zero a)), lv_sub hl [1, 0] rfl, hP, hD.re [h, ap, am] rfl rfl, hS⟩ (fun n_1 ih_2 i ls locs H hn_i hi_i hX => ?_) (fun _ _ _ _ hX => hX.1)
  obtain ⟨-, du, heq, hl, hP, hD, hS⟩ := hX
  refine lv_iload_n hx hb d_M_first_7 rfl (lv_at hl 1 rfl) ?_
  refine lv_aload_n hx hb d_M_first_8 rfl (lv_at hl 0 rfl) ?_
  refine va_get (D := g.1) (ci := 3) (v := .int (nI (np))) (C := R_M) (T := F_M) (N := 19) hx hb htB in_M hown ha.1 hP 0 rfl rfl 1 (by decide) (htB _ kw_443) (fun _ h9 => h9) (gset_ne (by decide) hf1) d_M_first_9 ?_
  refine jv_icmp_ge (tgt := 57) hx hb (by omega) (by omega) d_M_first_12 (by decide) (fun c_3 => ?_) (fun c_3 => ?_)
  · refine lv_iconst (v := ((-1))) hx hb d_M_first_57 (by decide) ?_
    have hP9 := hP.sub (ws' := [(h, .inr (3, (fs).set 0 (.int (nI (0))))), (ap, eI g 1152 (f)), (am, eI g 8 (mn))]) [0, 1, 2] rfl
    have hD9 := hD.sub (ws' := [(h, .inr (3, (fs).set 0 (.int (nI (0))))), (ap, eI g 1152 (f)), (am, eI g 8 (mn))]) [0, 1, 2] (by decide) rfl
    exact (W.widen (k := 0) (n := 0) (Nat.le_of_ble_eq_true rfl) (Nat.le_of_ble_eq_true rfl) (W.iret (v := ((-1))) hx hb hr (fun t ht hW => ⟨⟨((-1)), (fs).set 0 (.int (nI (0))), rfl, ⟨rfl, Or.inr ⟨rfl, fun a b h1 h2 => heq a b (by omega) h1 h2⟩⟩, by rw [ht]; exact hP9, hD9.re [h, ap, am] rfl rfl⟩, hS.F ht⟩) hS.2.2 d_M_first_58))
  · refine lv_iload_n hx hb d_M_first_15 rfl (lv_at hl 1 rfl) ?_
    refine lv_iconst (v := (nI (1))) hx hb d_M_first_16 (by decide) ?_
    refine jv_iadd hx hb d_M_first_17 ?_
    refine lv_istore_n (lv' := [(2, .int (nI (i + 1))), (0, .ref h), (1, .int (nI (i)))]) hx hb d_M_first_18 rfl hl (by decide) rfl (fun ls hl => ?_)
    have hout := heq
    refine W.loop (N := np) (X := fun k ls locs H => k ≤ np ∧ ∃ (du2 : Unit), (∀ b : Nat, i < b → b < k → ¬ 0 < ovM f i (nn i) b (nn b)) ∧ lv_has ls 3 [(0, .ref h), (1, .int (nI (i))), (2, .int (nI (k)))] ∧ va_P g.1 cls [(h, .inr (3, (fs).set 0 (.int (nI (0))))), (ap, eI g 1152 (f)), (am, eI g 8 (mn))] H ∧ va_D A [(h, .inr (3, (fs).set 0 (.int (nI (0))))), (ap, eI g 1152 (f)), (am, eI g 8 (mn))] ∧ va_S A s.heap H locs ∧ i < k) (i + 1) ⟨by omega, (), (fun b h1 h2 => absurd h2 (by omega)), lv_sub hl [1, 2, 0] rfl, hP, hD.re [h, ap, am] rfl rfl, hS, Nat.lt_succ_self i⟩ (fun n_4 ih_5 k ls locs H hn_k hi_k hX => ?_) (fun _ _ _ _ hX => hX.1)
    obtain ⟨-, du2, heq, hl, hP, hD, hS, hik⟩ := hX
    refine lv_iload_n hx hb d_M_first_19 rfl (lv_at hl 2 rfl) ?_
    refine lv_aload_n hx hb d_M_first_20 rfl (lv_at hl 0 rfl) ?_
    refine va_get (D := g.1) (ci := 3) (v := .int (nI (np))) (C := R_M) (T := F_M) (N := 19) hx hb htB in_M hown ha.1 hP 0 rfl rfl 1 (by decide) (htB _ kw_443) (fun _ h9 => h9) (gset_ne (by decide) hf1) d_M_first_21 ?_
    refine jv_icmp_ge (tgt := 51) hx hb (by omega) (by omega) d_M_first_24 (by decide) (fun c_6 => ?_) (fun c_6 => ?_)
    · refine lv_iinc (v := nI (i + 1)) (lv' := [(1, .int (nI (i + 1))), (0, .ref h), (2, .int (nI (k)))]) hx hb d_M_first_51 hl (k := 1) rfl (nI_add _ 1) (by decide) rfl (fun ls hl => ?_)
      refine lv_goto (tgt := 7) hx hb d_M_first_54 (by decide) ?_
      exact ih_2 (i + 1) ls locs H (by omega) ⟨by omega, (), (fun a b h1 h2 h3 => by (by_cases q : a = i); (· subst q; exact heq b h2 (by omega)); (· exact hout a b (by omega) h2 h3)), lv_sub (l' := [(0, .ref h), (1, .int (nI (i + 1)))]) hl [1, 0] rfl, hP.sub (ws' := [(h, .inr (3, (fs).set 0 (.int (nI (0))))), (ap, eI g 1152 (f)), (am, eI g 8 (mn))]) [0, 1, 2] rfl, (hD.sub (ws' := [(h, .inr (3, (fs).set 0 (.int (nI (0))))), (ap, eI g 1152 (f)), (am, eI g 8 (mn))]) [0, 1, 2] (by decide) rfl).re [h, ap, am] rfl rfl, hS⟩
    · refine lv_aload_n hx hb d_M_first_27 rfl (lv_at hl 0 rfl) ?_
      refine lv_iload_n hx hb d_M_first_28 rfl (lv_at hl 1 rfl) ?_
      refine lv_iload_n hx hb d_M_first_29 rfl (lv_at hl 2 rfl) ?_
      have hAn := hnn i (by omega)
      have hBn := hnn k (by omega)
      refine va_calll (va_runV (As := [.int (nI (i)), .int (nI (k))]) (rest := []) ⟨hx, hb, hml, hown, htB⟩ (p_M_overlapOf l g z _ h ((fs).set 0 (.int (nI (0)))) ap am (f) (mn) (i) (nn i) (k) (nn k)) (cwV 2 htB (gV kw_597 kw_599 ks_1_12 kw_3 g_M_overlapOf) rfl rfl rfl (by decide +kernel) ⟨by decide, by decide⟩) (pre_V hS hz ha (va_recv ha.1 hP (ci := 3) (q0 := 0) rfl rfl) ⟨va_three (hP 0 _ rfl) (hP 1 _ rfl) (hP 2 _ rfl), (gset_ne (by decide) hf3), (gset_ne (by decide) hf4), by omega, by omega, hAn.2, hBn.2, hAn.1, hBn.1⟩) rfl rfl hl.1 rfl (lv_room (Nat.le_of_ble_eq_true rfl)) d_M_first_30 ⟨by decide, by decide⟩) hS (fun q _ h => h.elim) (fun q h => h.elim) (fun r_7 u t H1 locs ht hvm hw hB hz1 hk1 hS => ?_)
      obtain rfl := hB.symm.trans ht
      subst hw
      refine lv_lconst (v := 0) hx hb d_M_first_33 (by decide) ?_
      refine W.lcmp hx hb d_M_first_34 ?_
      refine lv_if_le (tgt := 45) hx hb d_M_first_35 (by decide) (fun c_8 => ?_) (fun c_8 => ?_)
      · refine lv_iinc (v := nI (k + 1)) (lv' := [(2, .int (nI (k + 1))), (0, .ref h), (1, .int (nI (i)))]) hx hb d_M_first_45 hl (k := 2) rfl (nI_add _ 1) (by decide) rfl (fun ls hl => ?_)
        refine lv_goto (tgt := 19) hx hb d_M_first_48 (by decide) ?_
        exact ih_5 (k + 1) ls locs H (by omega) ⟨by omega, (), (fun b h1 h2 => by (by_cases q : b = k); (· subst q; exact vol_no c_8); (· exact heq b h1 (by omega))), lv_sub (l' := [(0, .ref h), (1, .int (nI (i))), (2, .int (nI (k + 1)))]) hl [1, 2, 0] rfl, hP.sub (ws' := [(h, .inr (3, (fs).set 0 (.int (nI (0))))), (ap, eI g 1152 (f)), (am, eI g 8 (mn))]) [0, 1, 2] rfl, (hD.sub (ws' := [(h, .inr (3, (fs).set 0 (.int (nI (0))))), (ap, eI g 1152 (f)), (am, eI g 8 (mn))]) [0, 1, 2] (by decide) rfl).re [h, ap, am] rfl rfl, hS, by omega⟩
      · refine lv_bipush (v := (nI (8))) hx hb d_M_first_38 (by decide) ?_
        refine lv_iload_n hx hb d_M_first_40 rfl (lv_at hl 1 rfl) ?_
        refine jv_imul hx hb d_M_first_41 ?_
        refine lv_iload_n hx hb d_M_first_42 rfl (lv_at hl 2 rfl) ?_
        refine jv_iadd hx hb d_M_first_43 ?_
        have hP9 := hP.sub (ws' := [(h, .inr (3, (fs).set 0 (.int (nI (0))))), (ap, eI g 1152 (f)), (am, eI g 8 (mn))]) [0, 1, 2] rfl
        have hD9 := hD.sub (ws' := [(h, .inr (3, (fs).set 0 (.int (nI (0))))), (ap, eI g 1152 (f)), (am, eI g 8 (mn))]) [0, 1, 2] (by decide) rfl
        exact (W.widen (k := 0) (n := 0) (Nat.le_of_ble_eq_true rfl) (Nat.le_of_ble_eq_true rfl) (W.iret (v := (nI ((8 * i) + k))) hx hb hr (fun t ht hW => ⟨⟨(nI ((8 * i) + k)), (fs).set 0 (.int (nI (0))), rfl, ⟨rfl, Or.inl ⟨i, k, by omega, by omega, vol_pos c_8, rfl, fun a b h1 h2 h3 => h3.elim (fun q => hout a b q h1 h2) (fun q => by obtain ⟨q1, q2⟩ := q; subst q1; exact heq b h1 q2)⟩⟩, by rw [ht]; exact hP9, hD9.re [h, ap, am] rfl rfl⟩, hS.F ht⟩) hS.2.2 d_M_first_44))
