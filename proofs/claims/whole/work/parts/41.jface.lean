set_option maxHeartbeats 4000000 in
set_option maxRecDepth 100000 in
theorem m_J_clear (l : Launch) (hlt : l.stackTraces = false) (g : gT) (z : Nat) (H0 : Heap) (h : Nat) (fs : List Value) (v : Int32) : vx_Met l y_J_clear w_J_clear ({ frames := 6, cells := 1, slots := 6, locals := 82 }) (va_Pc [.ref h, .int (v)] (pB g z H0 (va_P g.1 cls [(h, .inr (1, fs))] H0 ∧ va_D (zA z) [(h, .inr (1, fs))] ∧ (fs.length = 14)))) (va_Qv (fun (_ : Unit) => ¬ (v < 0 ∨ ¬ v ≤ nI 100)) (fun (_ : Unit) t => va_P g.1 cls [(h, .inr (1, fs.set 6 (.int v)))] t.heap ∧ va_D (va_A [(h, .inr (1, fs))] H0.size) [(h, .inr (1, fs.set 6 (.int v)))]) (va_A [(h, .inr (1, fs))] H0.size)) (xX (fun E => E = E_IAE ∧ (v < 0 ∨ ¬ v ≤ nI 100)) H0) 1 6 (va_A [(h, .inr (1, fs))] H0.size) := by
  refine vx_ofW (cc := c_J_clear) (maxL := 2) (ret := none) (by decide) rfl ?_
  intro p e s m args below meth c s₁ B hml htab hv
  obtain ⟨rfl, hH0, ha, hP, hD0, hlen⟩ := hv
  have hx := B.exec
  have hb := B.bytes
  have hr := B.returns
  have htB : ∀ w ∈ tB, w.before _ s = true := fun w h => atoms_spec (ws := w_J_clear) B.pre w (List.mem_cons_of_mem _ h)
  have hown : s.vm.findClass "JointSolids" = some m.cls := findClass_of_methodNamed B.named
  have hlocks := B.notSynchronized
  subst hH0
  have hD := hD0.self (sz := s.heap.size)
  have hz := aA_z hD0 ha.2.2.2.2.2
  generalize hAe : va_A [(h, .inr (1, fs))] s.heap.size = A at hD hz ⊢
  have hA : ∀ q : Nat, s.heap.size ≤ q → A q := fun q h => by rw [← hAe]; exact Or.inr h
  have hS : va_S A s.heap s.heap [] := va_S.rf
  have hl := lv_entry ([.ref h, .int (v)]) (n := 2) (Nat.le_of_ble_eq_true rfl)
  rw [lg_entry_eq]
  generalize (lg_sl ([.ref h, .int (v)]) ++ List.replicate (2 - (lg_sl ([.ref h, .int (v)])).length) Slot.unset).toArray = ls at hl ⊢
  have hl : lv_has ls 2 [(0, .ref h), (1, .int (v))] := hl
  refine lv_iload_n hx hb d_J_clear_0 rfl (lv_at hl 1 rfl) ?_
  refine lv_if_lt (tgt := 10) hx hb d_J_clear_1 (by decide) (fun c_1 => ?_) (fun c_1 => ?_)
  · exact thr_IAE hx hb hlt hown htB ha hz sB_99 hS (hl.1.trans hml.symm) htab d_J_clear_10 d_J_clear_13 d_J_clear_14 d_J_clear_16 d_J_clear_19 (Nat.le_of_ble_eq_true rfl) (Nat.le_of_ble_eq_true rfl) (Nat.le_of_ble_eq_true rfl) (Nat.le_of_ble_eq_true rfl) hlocks (fun t _ h1 h2 => ⟨(), trivial, ⟨⟨rfl, Or.inl c_1⟩, h1, h2⟩, h1, fun q hq _ => h2 q hq⟩) hS.2.2 (Nat.le_of_ble_eq_true rfl) (Nat.le_of_ble_eq_true rfl)
  · refine lv_iload_n hx hb d_J_clear_4 rfl (lv_at hl 1 rfl) ?_
    refine lv_bipush (v := (nI (100))) hx hb d_J_clear_5 (by decide) ?_
    refine lv_icmp_le (tgt := 20) hx hb d_J_clear_7 (by decide) (fun c_2 => ?_) (fun c_2 => ?_)
    · refine lv_aload_n hx hb d_J_clear_20 rfl (lv_at hl 0 rfl) ?_
      refine lv_iload_n hx hb d_J_clear_21 rfl (lv_at hl 1 rfl) ?_
      refine va_put (D := g.1) (ci := 1) (v := .int (v)) (ty := .int) (C := R_J) (T := F_J) (N := 14) hx hb htB in_J t_J t_J_ok n_J hown ha.1 hP hD hS 0 rfl rfl 6 (by decide) (htB _ kw_46) (fun _ h9 => h9) rfl (by decide +kernel) rfl rfl (by rw [hlen]; decide) d_J_clear_22 (fun H locs hP hD hS => ?_)
      have hP : va_P g.1 cls [(h, .inr (1, (fs).set 6 (.int (v))))] H := hP
      have hD : va_D A [(h, .inr (1, (fs).set 6 (.int (v))))] := hD
      have hP9 := hP.sub (ws' := [(h, .inr (1, (fs).set 6 (.int (v))))]) [0] rfl
      have hD9 := hD.sub (ws' := [(h, .inr (1, (fs).set 6 (.int (v))))]) [0] (by decide) rfl
      exact vx_ret (W.widen (k := 1) (n := 6) (Nat.le_of_ble_eq_true rfl) (Nat.le_of_ble_eq_true rfl) (W.vret hx hb hr (fun t ht hW => ⟨⟨(), rfl, (fun q => q.elim c_1 (fun q => q c_2)), by rw [ht]; exact hP9, hD9.re [h] rfl rfl⟩, hS.F ht⟩) hS.2.2 d_J_clear_25))
    · exact thr_IAE hx hb hlt hown htB ha hz sB_99 hS (hl.1.trans hml.symm) htab d_J_clear_10 d_J_clear_13 d_J_clear_14 d_J_clear_16 d_J_clear_19 (Nat.le_of_ble_eq_true rfl) (Nat.le_of_ble_eq_true rfl) (Nat.le_of_ble_eq_true rfl) (Nat.le_of_ble_eq_true rfl) hlocks (fun t _ h1 h2 => ⟨(), trivial, ⟨⟨rfl, Or.inr c_2⟩, h1, h2⟩, h1, fun q hq _ => h2 q hq⟩) hS.2.2 (Nat.le_of_ble_eq_true rfl) (Nat.le_of_ble_eq_true rfl)
