/-- all boxes of a draft in turn: how many came, how many met the tool's box, the row of boxes -/
def pA (fd : Nat → Int32) (sd : Nat) (bx md : Nat → Int32) : Nat → Nat × Nat × (Nat → Int32)
  | 0 => (0, 0, md)
  | i + 1 => if mtS fd (oM sd i) bx then ((pAl fd (oM sd i) bx ((pA fd sd bx md i).1, (pA fd sd bx md i).2.2)).1, (pA fd sd bx md i).2.1 + 1, (pAl fd (oM sd i) bx ((pA fd sd bx md i).1, (pA fd sd bx md i).2.2)).2) else ((pA fd sd bx md i).1 + 1, (pA fd sd bx md i).2.1, va_cpy fd (pA fd sd bx md i).2.2 (oM sd i) (6 * (pA fd sd bx md i).1) 6)
theorem pA_t {fd : Nat → Int32} {sd : Nat} {bx md : Nat → Int32} {i n mt : Nat} {m2 : Nat → Int32} {u : Nat × (Nat → Int32)} (e : (n, mt, m2) = pA fd sd bx md i) (h : mtS fd (oM sd i) bx) (hu : u = pAl fd (oM sd i) bx (n, m2)) : (u.1, mt + 1, u.2) = pA fd sd bx md (i + 1) := by
  refine Eq.trans ?_ (if_pos h).symm
  rw [← e, hu]
theorem pA_f {fd : Nat → Int32} {sd : Nat} {bx md : Nat → Int32} {i n mt : Nat} {m2 : Nat → Int32} (e : (n, mt, m2) = pA fd sd bx md i) (h : ¬ mtS fd (oM sd i) bx) : (n + 1, mt, va_cpy fd m2 (oM sd i) (6 * n) 6) = pA fd sd bx md (i + 1) := by
  refine Eq.trans ?_ (if_neg h).symm
  rw [← e]
theorem cpy_step0 (f g : Nat → Int32) (dp n : Nat) : upd (va_cpy f g 0 dp n) (dp + n) (f n) = va_cpy f g 0 dp (n + 1) := by
  have h := cpy_step f g 0 dp n
  rw [Nat.zero_add] at h; exact h
theorem va_three {D : va_G} {cl : List vw_C} {a b c : Nat × va_E} {H : Heap} (h1 : va_at D cl a H) (h2 : va_at D cl b H) (h3 : va_at D cl c H) : va_P D cl [a, b, c] H := fun k q hk => match k, hk with
  | 0, hk => by cases hk; exact h1
  | 1, hk => by cases hk; exact h2
  | 2, hk => by cases hk; exact h3
  | k + 3, hk => by simp at hk
set_option maxHeartbeats 4000000 in
set_option maxRecDepth 100000 in
theorem m_M_pareAll (l : Launch) (g : gT) (z : Nat) (H0 : Heap) (h : Nat) (fs : List Value) (ad adm amd ab : Nat) (fd dm md bx : Nat → Int32) (sd nd : Nat) : Met l y_M_pareAll w_M_pareAll ({ frames := 2, cells := 0, slots := 0, locals := 50 }) (va_Pc [.ref h, .int (nI (sd))] (pB g z H0 (va_P g.1 cls [(h, .inr (3, fs)), (ad, eI g 288 (fd)), (adm, eI g 2 (dm)), (amd, eI g 1008 (md)), (ab, eI g 6 (bx))] H0 ∧ va_D (zA z) [(h, .inr (3, fs)), (ad, eI g 288 (fd)), (adm, eI g 2 (dm)), (amd, eI g 1008 (md)), (ab, eI g 6 (bx))] ∧ (fs[5]? = some (.ref ad) ∧ fs[6]? = some (.ref adm) ∧ fs[7]? = some (.ref amd) ∧ fs[8]? = some (.ref ab) ∧ sd < 2 ∧ nd ≤ 24 ∧ dm sd = nI nd)))) (va_Qi (fun (rr : Int32) (u : Nat × Nat × (Nat → Int32)) => u = pA fd sd bx md nd ∧ rr = (if u.1 ≤ 24 then nI u.2.1 else -1) ∧ u.2.1 ≤ nd ∧ u.1 ≤ 6 * nd) (fun (u : Nat × Nat × (Nat → Int32)) t => va_P g.1 cls [(h, .inr (3, fs)), (ad, eI g 288 (if u.1 ≤ 24 then va_cpy u.2.2 fd 0 (144 * sd) (6 * u.1) else fd)), (adm, eI g 2 (if u.1 ≤ 24 then upd dm sd (nI u.1) else dm)), (amd, eI g 1008 (u.2.2)), (ab, eI g 6 (bx))] t.heap ∧ va_D (va_A [(h, .inr (3, fs)), (ad, eI g 288 (fd)), (adm, eI g 2 (dm)), (amd, eI g 1008 (md)), (ab, eI g 6 (bx))] H0.size) [(h, .inr (3, fs)), (ad, eI g 288 (if u.1 ≤ 24 then va_cpy u.2.2 fd 0 (144 * sd) (6 * u.1) else fd)), (adm, eI g 2 (if u.1 ≤ 24 then upd dm sd (nI u.1) else dm)), (amd, eI g 1008 (u.2.2)), (ab, eI g 6 (bx))]) (va_A [(h, .inr (3, fs)), (ad, eI g 288 (fd)), (adm, eI g 2 (dm)), (amd, eI g 1008 (md)), (ab, eI g 6 (bx))] H0.size)) 0 0 (va_A [(h, .inr (3, fs)), (ad, eI g 288 (fd)), (adm, eI g 2 (dm)), (amd, eI g 1008 (md)), (ab, eI g 6 (bx))] H0.size) := by
  refine Met.ofW (cc := c_M_pareAll) (maxL := 7) (ret := (some .int)) (by decide) rfl ?_
  intro p e s m args below meth c s₁ B hml hv
  obtain ⟨rfl, hH0, ha, hP, hD0, hf5, hf6, hf7, hf8, hsd, hnd, hdm⟩ := hv
  have hx := B.exec
  have hb := B.bytes
  have hr := B.returns
  have htB : ∀ w ∈ tB, w.before _ s = true := fun w h => atoms_spec (ws := w_M_pareAll) B.pre w (List.mem_cons_of_mem _ h)
  have hown : s.vm.findClass "JointSolidsModel" = some m.cls := findClass_of_methodNamed B.named
  have hlocks := B.notSynchronized
  subst hH0
  have hD := hD0.self (sz := s.heap.size)
  have hz := aA_z hD0 ha.2.2.2.2.2
  generalize hAe : va_A [(h, .inr (3, fs)), (ad, eI g 288 (fd)), (adm, eI g 2 (dm)), (amd, eI g 1008 (md)), (ab, eI g 6 (bx))] s.heap.size = A at hD hz ⊢
  have hA : ∀ q : Nat, s.heap.size ≤ q → A q := fun q h => by rw [← hAe]; exact Or.inr h
  have hS : va_S A s.heap s.heap [] := va_S.rf
  refine W.ofH hP hS (fun H locs hP hS => ?_)
  have hl := lv_entry ([.ref h, .int (nI (sd))]) (n := 7) (Nat.le_of_ble_eq_true rfl)
  rw [lg_entry_eq]
  generalize (lg_sl ([.ref h, .int (nI (sd))]) ++ List.replicate (7 - (lg_sl ([.ref h, .int (nI (sd))])).length) Slot.unset).toArray = ls at hl ⊢
  have hl : lv_has ls 7 [(0, .ref h), (1, .int (nI (sd)))] := hl
  refine lv_iconst (v := (nI (0))) hx hb d_M_pareAll_0 (by decide) ?_
  refine lv_istore_n (lv' := [(2, .int (nI (0))), (0, .ref h), (1, .int (nI (sd)))]) hx hb d_M_pareAll_1 rfl hl (by decide) rfl (fun ls hl => ?_)
  refine lv_iconst (v := (nI (0))) hx hb d_M_pareAll_2 (by decide) ?_
  refine lv_istore_n (lv' := [(3, .int (nI (0))), (2, .int (nI (0))), (0, .ref h), (1, .int (nI (sd)))]) hx hb d_M_pareAll_3 rfl hl (by decide) rfl (fun ls hl => ?_)
  refine lv_iconst (v := (nI (0))) hx hb d_M_pareAll_4 (by decide) ?_
  refine lv_istore (lv' := [(4, .int (nI (0))), (3, .int (nI (0))), (2, .int (nI (0))), (0, .ref h), (1, .int (nI (sd)))]) hx hb d_M_pareAll_5 hl (by decide) rfl (fun ls hl => ?_)
  refine W.loop (N := nd) (X := fun i ls locs H => i ≤ nd ∧ ∃ (n : Nat) (mt : Nat) (m2 : Nat → Int32), (n, mt, m2) = pA fd sd bx md i ∧ lv_has ls 7 [(0, .ref h), (1, .int (nI (sd))), (2, .int (nI (n))), (3, .int (nI (mt))), (4, .int (nI (i)))] ∧ va_P g.1 cls [(h, .inr (3, fs)), (ad, eI g 288 (fd)), (adm, eI g 2 (dm)), (amd, eI g 1008 (m2)), (ab, eI g 6 (bx))] H ∧ va_D A [(h, .inr (3, fs)), (ad, eI g 288 (fd)), (adm, eI g 2 (dm)), (amd, eI g 1008 (m2)), (ab, eI g 6 (bx))] ∧ va_S A s.heap H locs ∧ n ≤ 6 * i ∧ mt ≤ i) 0 ⟨Nat.zero_le _, 0, 0, md, rfl, lv_sub hl [3, 4, 2, 1, 0] rfl, hP, hD.re [h, ad, adm, amd, ab] rfl rfl, hS, Nat.le_refl _, Nat.le_refl _⟩ (fun n_1 ih_2 i ls locs H hn_i hi_i hX => ?_) (fun _ _ _ _ hX => hX.1)
  obtain ⟨-, n, mt, m2, heq, hl, hP, hD, hS, hn6, hmt⟩ := hX
  refine lv_iload hx hb d_M_pareAll_7 (lv_at hl 4 rfl) ?_
  refine lv_aload_n hx hb d_M_pareAll_9 rfl (lv_at hl 0 rfl) ?_
  refine va_get (D := g.1) (ci := 3) (v := .ref adm) (C := R_M) (T := F_M) (N := 19) hx hb htB in_M hown ha.1 hP 0 rfl rfl 6 (by decide) (htB _ kw_448) (fun _ h9 => h9) hf6 d_M_pareAll_10 ?_
  refine lv_iload_n hx hb d_M_pareAll_13 rfl (lv_at hl 1 rfl) ?_
  refine ja_ald (k := sd) hx hb ha.1 hP 2 0 rfl rfl (by omega) (by omega) d_M_pareAll_14 ?_
  rw [hdm]
  refine jv_icmp_ge (tgt := 101) hx hb (by omega) (by omega) d_M_pareAll_15 (by decide) (fun c_3 => ?_) (fun c_3 => ?_)
  · obtain rfl : i = nd := by omega
    refine lv_iload_n hx hb d_M_pareAll_101 rfl (lv_at hl 2 rfl) ?_
    refine lv_bipush (v := (nI (24))) hx hb d_M_pareAll_102 (by decide) ?_
    refine jv_icmp_le (tgt := 109) hx hb (by omega) (by omega) d_M_pareAll_104 (by decide) (fun c_4 => ?_) (fun c_4 => ?_)
    · refine lv_aload_n hx hb d_M_pareAll_109 rfl (lv_at hl 0 rfl) ?_
      refine va_get (D := g.1) (ci := 3) (v := .ref adm) (C := R_M) (T := F_M) (N := 19) hx hb htB in_M hown ha.1 hP 0 rfl rfl 6 (by decide) (htB _ kw_448) (fun _ h9 => h9) hf6 d_M_pareAll_110 ?_
      refine lv_iload_n hx hb d_M_pareAll_113 rfl (lv_at hl 1 rfl) ?_
      refine lv_iload_n hx hb d_M_pareAll_114 rfl (lv_at hl 2 rfl) ?_
      refine ja_ast (k := sd) hx hb ha.1 hP hD hS 2 0 rfl rfl (by omega) (by omega) d_M_pareAll_115 (fun H locs hP hD hS => ?_)
      have hP : va_P g.1 cls [(h, .inr (3, fs)), (ad, eI g 288 (fd)), (adm, eI g 2 (upd (dm) (sd) (nI (n)))), (amd, eI g 1008 (m2)), (ab, eI g 6 (bx))] H := hP
      have hD : va_D A [(h, .inr (3, fs)), (ad, eI g 288 (fd)), (adm, eI g 2 (upd (dm) (sd) (nI (n)))), (amd, eI g 1008 (m2)), (ab, eI g 6 (bx))] := hD
      refine lv_iconst (v := (nI (0))) hx hb d_M_pareAll_116 (by decide) ?_
      refine lv_istore (lv' := [(4, .int (nI (0))), (0, .ref h), (1, .int (nI (sd))), (2, .int (nI (n))), (3, .int (nI (mt)))]) hx hb d_M_pareAll_117 hl (by decide) rfl (fun ls hl => ?_)
      rw [← cpy_zero m2 fd 0 (144 * sd)] at hP
      have hP : va_P g.1 cls [(h, .inr (3, fs)), (ad, eI g 288 (va_cpy m2 fd 0 (144 * sd) 0)), (adm, eI g 2 (upd (dm) (sd) (nI (n)))), (amd, eI g 1008 (m2)), (ab, eI g 6 (bx))] H := hP
      refine W.loop (N := 6 * n) (X := fun k ls locs H => lv_has ls 7 [(0, .ref h), (1, .int (nI (sd))), (2, .int (nI (n))), (3, .int (nI (mt))), (4, .int (nI (k)))] ∧ k ≤ 6 * n ∧ va_P g.1 cls [(h, .inr (3, fs)), (ad, eI g 288 (va_cpy m2 fd 0 (144 * sd) k)), (adm, eI g 2 (upd (dm) (sd) (nI (n)))), (amd, eI g 1008 (m2)), (ab, eI g 6 (bx))] H ∧ va_D A [(h, .inr (3, fs)), (ad, eI g 288 (va_cpy m2 fd 0 (144 * sd) k)), (adm, eI g 2 (upd (dm) (sd) (nI (n)))), (amd, eI g 1008 (m2)), (ab, eI g 6 (bx))] ∧ va_S A s.heap H locs) 0 ⟨lv_sub hl [1, 2, 3, 4, 0] rfl, Nat.zero_le _, hP, hD.re [h, ad, adm, amd, ab] rfl rfl, hS⟩ (fun n_5 ih_6 k ls locs H hn_k hi_k hX => ?_) (fun _ _ _ _ hX => hX.2.1)
      obtain ⟨hl, -, hP, hD, hS⟩ := hX
      refine lv_iload hx hb d_M_pareAll_119 (lv_at hl 4 rfl) ?_
      refine lv_bipush (v := (nI (6))) hx hb d_M_pareAll_121 (by decide) ?_
      refine lv_iload_n hx hb d_M_pareAll_123 rfl (lv_at hl 2 rfl) ?_
      refine jv_imul hx hb d_M_pareAll_124 ?_
      refine jv_icmp_ge (tgt := 154) hx hb (by omega) (by omega) d_M_pareAll_125 (by decide) (fun c_7 => ?_) (fun c_7 => ?_)
      · obtain rfl : k = 6 * n := by omega
        refine lv_iload_n hx hb d_M_pareAll_154 rfl (lv_at hl 3 rfl) ?_
        have hP9 := hP.sub (ws' := [(h, .inr (3, fs)), (ad, eI g 288 (va_cpy m2 fd 0 (144 * sd) (6 * n))), (adm, eI g 2 (upd (dm) (sd) (nI (n)))), (amd, eI g 1008 (m2)), (ab, eI g 6 (bx))]) [0, 1, 2, 3, 4] rfl
        have hD9 := hD.sub (ws' := [(h, .inr (3, fs)), (ad, eI g 288 (va_cpy m2 fd 0 (144 * sd) (6 * n))), (adm, eI g 2 (upd (dm) (sd) (nI (n)))), (amd, eI g 1008 (m2)), (ab, eI g 6 (bx))]) [0, 1, 2, 3, 4] (by decide) rfl
        exact (W.widen (k := 0) (n := 0) (Nat.le_of_ble_eq_true rfl) (Nat.le_of_ble_eq_true rfl) (W.iret (v := (nI (mt))) hx hb hr (fun t ht hW => ⟨⟨(nI (mt)), (n, mt, m2), rfl, ⟨heq, (if_pos (by show n ≤ 24; omega)).symm, hmt, hn6⟩, by rw [ht, show (if n ≤ 24 then va_cpy m2 fd 0 (144 * sd) (6 * n) else fd) = va_cpy m2 fd 0 (144 * sd) (6 * n) from if_pos (by omega), show (if n ≤ 24 then upd dm sd (nI n) else dm) = upd dm sd (nI n) from if_pos (by omega)]; exact hP9, hD9.re [h, ad, adm, amd, ab] rfl rfl⟩, hS.F ht⟩) hS.2.2 d_M_pareAll_155))
      · refine lv_aload_n hx hb d_M_pareAll_128 rfl (lv_at hl 0 rfl) ?_
        refine va_get (D := g.1) (ci := 3) (v := .ref ad) (C := R_M) (T := F_M) (N := 19) hx hb htB in_M hown ha.1 hP 0 rfl rfl 5 (by decide) (htB _ kw_447) (fun _ h9 => h9) hf5 d_M_pareAll_129 ?_
        refine lv_sipush (v := (nI (144))) hx hb d_M_pareAll_132 (by decide) ?_
        refine lv_iload_n hx hb d_M_pareAll_135 rfl (lv_at hl 1 rfl) ?_
        refine jv_imul hx hb d_M_pareAll_136 ?_
        refine lv_iload hx hb d_M_pareAll_137 (lv_at hl 4 rfl) ?_
        refine jv_iadd hx hb d_M_pareAll_139 ?_
        refine lv_aload_n hx hb d_M_pareAll_140 rfl (lv_at hl 0 rfl) ?_
        refine va_get (D := g.1) (ci := 3) (v := .ref amd) (C := R_M) (T := F_M) (N := 19) hx hb htB in_M hown ha.1 hP 0 rfl rfl 7 (by decide) (htB _ kw_449) (fun _ h9 => h9) hf7 d_M_pareAll_141 ?_
        refine lv_iload hx hb d_M_pareAll_144 (lv_at hl 4 rfl) ?_
        refine ja_ald (k := k) hx hb ha.1 hP 3 0 rfl rfl (by omega) (by omega) d_M_pareAll_146 ?_
        refine ja_ast (k := (144 * sd) + k) hx hb ha.1 hP hD hS 1 0 rfl rfl (by omega) (by omega) d_M_pareAll_147 (fun H locs hP hD hS => ?_)
        have hP : va_P g.1 cls [(h, .inr (3, fs)), (ad, eI g 288 (upd (va_cpy m2 fd 0 (144 * sd) k) ((144 * sd) + k) (m2 (k)))), (adm, eI g 2 (upd (dm) (sd) (nI (n)))), (amd, eI g 1008 (m2)), (ab, eI g 6 (bx))] H := hP
        have hD : va_D A [(h, .inr (3, fs)), (ad, eI g 288 (upd (va_cpy m2 fd 0 (144 * sd) k) ((144 * sd) + k) (m2 (k)))), (adm, eI g 2 (upd (dm) (sd) (nI (n)))), (amd, eI g 1008 (m2)), (ab, eI g 6 (bx))] := hD
        refine lv_iinc (v := nI (k + 1)) (lv' := [(4, .int (nI (k + 1))), (0, .ref h), (1, .int (nI (sd))), (2, .int (nI (n))), (3, .int (nI (mt)))]) hx hb d_M_pareAll_148 hl (k := 4) rfl (nI_add _ 1) (by decide) rfl (fun ls hl => ?_)
        refine lv_goto (tgt := 119) hx hb d_M_pareAll_151 (by decide) ?_
        rw [cpy_step0] at hP
        have hD : va_D A [(h, .inr (3, fs)), (ad, eI g 288 (va_cpy m2 fd 0 (144 * sd) (k + 1))), (adm, eI g 2 (upd (dm) (sd) (nI (n)))), (amd, eI g 1008 (m2)), (ab, eI g 6 (bx))] := hD.re [h, ad, adm, amd, ab] rfl rfl
        exact ih_6 (k + 1) ls locs H (by omega) ⟨lv_sub (l' := [(0, .ref h), (1, .int (nI (sd))), (2, .int (nI (n))), (3, .int (nI (mt))), (4, .int (nI ((k + 1))))]) hl [1, 2, 3, 4, 0] rfl, by omega, hP.sub (ws' := [(h, .inr (3, fs)), (ad, eI g 288 (va_cpy m2 fd 0 (144 * sd) (k + 1))), (adm, eI g 2 (upd (dm) (sd) (nI (n)))), (amd, eI g 1008 (m2)), (ab, eI g 6 (bx))]) [0, 1, 2, 3, 4] rfl, (hD.sub (ws' := [(h, .inr (3, fs)), (ad, eI g 288 (va_cpy m2 fd 0 (144 * sd) (k + 1))), (adm, eI g 2 (upd (dm) (sd) (nI (n)))), (amd, eI g 1008 (m2)), (ab, eI g 6 (bx))]) [0, 1, 2, 3, 4] (by decide) rfl).re [h, ad, adm, amd, ab] rfl rfl, hS⟩
    · refine lv_iconst (v := ((-1))) hx hb d_M_pareAll_107 (by decide) ?_
      have hP9 := hP.sub (ws' := [(h, .inr (3, fs)), (ad, eI g 288 (fd)), (adm, eI g 2 (dm)), (amd, eI g 1008 (m2)), (ab, eI g 6 (bx))]) [0, 1, 2, 3, 4] rfl
      have hD9 := hD.sub (ws' := [(h, .inr (3, fs)), (ad, eI g 288 (fd)), (adm, eI g 2 (dm)), (amd, eI g 1008 (m2)), (ab, eI g 6 (bx))]) [0, 1, 2, 3, 4] (by decide) rfl
      exact (W.widen (k := 0) (n := 0) (Nat.le_of_ble_eq_true rfl) (Nat.le_of_ble_eq_true rfl) (W.iret (v := ((-1))) hx hb hr (fun t ht hW => ⟨⟨((-1)), (n, mt, m2), rfl, ⟨heq, (if_neg (by show ¬ n ≤ 24; omega)).symm, hmt, hn6⟩, by rw [ht, show (if n ≤ 24 then va_cpy m2 fd 0 (144 * sd) (6 * n) else fd) = fd from if_neg (by omega), show (if n ≤ 24 then upd dm sd (nI n) else dm) = dm from if_neg (by omega)]; exact hP9, hD9.re [h, ad, adm, amd, ab] rfl rfl⟩, hS.F ht⟩) hS.2.2 d_M_pareAll_108))
  · refine lv_sipush (v := (nI (144))) hx hb d_M_pareAll_18 (by decide) ?_
    refine lv_iload_n hx hb d_M_pareAll_21 rfl (lv_at hl 1 rfl) ?_
    refine jv_imul hx hb d_M_pareAll_22 ?_
    refine lv_bipush (v := (nI (6))) hx hb d_M_pareAll_23 (by decide) ?_
    refine lv_iload hx hb d_M_pareAll_25 (lv_at hl 4 rfl) ?_
    refine jv_imul hx hb d_M_pareAll_27 ?_
    refine jv_iadd hx hb d_M_pareAll_28 ?_
    refine lv_istore (lv' := [(5, .int (nI ((144 * sd) + (6 * i)))), (0, .ref h), (1, .int (nI (sd))), (2, .int (nI (n))), (3, .int (nI (mt))), (4, .int (nI (i)))]) hx hb d_M_pareAll_29 hl (by decide) rfl (fun ls hl => ?_)
    refine lv_aload_n hx hb d_M_pareAll_31 rfl (lv_at hl 1 rfl) ?_
    refine lv_iload hx hb d_M_pareAll_32 (lv_at hl 0 rfl) ?_
    refine va_calli (va_runV (As := [.int (nI ((144 * sd) + (6 * i)))]) (rest := []) ⟨hx, hb, hml, hown, htB⟩ (p_M_meets l g z _ h fs ad ab (fd) (bx) ((144 * sd) + (6 * i))) (cwV 1 htB (gV kw_532 kw_534 ks_1_4 kw_3 g_M_meets) rfl rfl rfl (by decide +kernel) ⟨by decide, by decide⟩) (pre_V hS hz ha (va_recv ha.1 hP (ci := 3) (q0 := 0) rfl rfl) ⟨va_three (hP 0 _ rfl) (hP 1 _ rfl) (hP 4 _ rfl), hf5, hf8, by omega⟩) rfl rfl hl.1 rfl (lv_room (Nat.le_of_ble_eq_true rfl)) d_M_pareAll_34 ⟨by decide, by decide⟩) hS (fun q _ h => h.elim) (fun q h => h.elim) (fun r_8 u t H1 locs ht hvm hw hB hz1 hk1 hS => ?_)
    obtain rfl := hB.symm.trans ht
    subst hw
    by_cases c_9 : mtS (fd) ((144 * sd) + (6 * i)) (bx)
    · rw [if_pos c_9]
      refine lv_if_eq (tgt := 54) hx hb d_M_pareAll_37 (by decide) (fun h => absurd h (by decide)) (fun _ => ?_)
      refine lv_iinc (v := nI (mt + 1)) (lv' := [(3, .int (nI (mt + 1))), (5, .int (nI ((144 * sd) + (6 * i)))), (0, .ref h), (1, .int (nI (sd))), (2, .int (nI (n))), (4, .int (nI (i)))]) hx hb d_M_pareAll_40 hl (k := 4) rfl (nI_add _ 1) (by decide) rfl (fun ls hl => ?_)
      refine lv_aload_n hx hb d_M_pareAll_43 rfl (lv_at hl 2 rfl) ?_
      refine lv_iload hx hb d_M_pareAll_44 (lv_at hl 1 rfl) ?_
      refine lv_iload_n hx hb d_M_pareAll_46 rfl (lv_at hl 4 rfl) ?_
      have hPc := hP.sub (ws' := [(h, .inr (3, fs)), (ad, eI g 288 (fd)), (amd, eI g 1008 (m2)), (ab, eI g 6 (bx))]) [0, 1, 3, 4] rfl
      have hDc := hD.sub (ws' := [(h, .inr (3, fs)), (ad, eI g 288 (fd)), (amd, eI g 1008 (m2)), (ab, eI g 6 (bx))]) [0, 1, 3, 4] (by decide) rfl
      have hFc := va_free (wc := [(h, .inr (3, fs)), (ad, eI g 288 (fd)), (amd, eI g 1008 (m2)), (ab, eI g 6 (bx))]) hD hS hA [0, 1, 3, 4] rfl
      refine va_calli (va_runV (As := [.int (nI ((144 * sd) + (6 * i))), .int (nI (n))]) (rest := []) ⟨hx, hb, hml, hown, htB⟩ (m_M_pare l g z _ h fs ad amd ab (fd) (m2) (bx) ((144 * sd) + (6 * i)) (n)) (cwV 2 htB (gV kw_536 kw_538 ks_1_5 kw_3 g_M_pare) rfl rfl rfl (by decide +kernel) ⟨Nat.le_of_ble_eq_true rfl, Nat.le_of_ble_eq_true rfl⟩) (pre_V hS hz ha (va_recv ha.1 hP (ci := 3) (q0 := 0) rfl rfl) ⟨hPc, hDc.weaken (fun _ _ _ h => hz _ h), ⟨hf5, hf7, hf8, by omega, by omega⟩⟩) rfl rfl hl.1 rfl (lv_room (Nat.le_of_ble_eq_true rfl)) d_M_pareAll_47 ⟨Nat.le_of_ble_eq_true rfl, Nat.le_of_ble_eq_true rfl⟩) hS (fun q _ h => hFc q h) hFc (fun r_11 u_12 t H1 locs ht hvm hw hB hz1 hk1 hS => ?_)
      obtain ⟨hP1, hD1⟩ := hB
      rw [ht] at hP1
      obtain ⟨hP, hD⟩ := va_join (wr := [(adm, eI g 2 (dm))]) (w1 := [(h, .inr (3, fs)), (ad, eI g 288 (fd)), (amd, eI g 1008 (u_12.2)), (ab, eI g 6 (bx))]) hP hD [0, 1, 3, 4] [2] rfl rfl (by decide) (by decide) hk1 hFc hP1 hD1
      clear hPc hDc hFc hP1 hD1 hk1 hz1 hvm ht
      generalize H1 = H at hP hS ⊢
      have hP : va_P g.1 cls [(adm, eI g 2 (dm)), (h, .inr (3, fs)), (ad, eI g 288 (fd)), (amd, eI g 1008 (u_12.2)), (ab, eI g 6 (bx))] H := hP
      have hD : va_D A [(adm, eI g 2 (dm)), (h, .inr (3, fs)), (ad, eI g 288 (fd)), (amd, eI g 1008 (u_12.2)), (ab, eI g 6 (bx))] := hD
      obtain ⟨cN, mdN⟩ := u_12
      obtain ⟨hw1, hw2, hw3⟩ := hw
      dsimp only at hw1 hw2 hw3 hP hD
      subst hw1
      have hP : va_P g.1 cls [(adm, eI g 2 (dm)), (h, .inr (3, fs)), (ad, eI g 288 (fd)), (amd, eI g 1008 (mdN)), (ab, eI g 6 (bx))] H := hP
      have hD : va_D A [(adm, eI g 2 (dm)), (h, .inr (3, fs)), (ad, eI g 288 (fd)), (amd, eI g 1008 (mdN)), (ab, eI g 6 (bx))] := hD
      refine lv_istore_n (lv' := [(2, .int (nI (cN))), (3, .int (nI (mt + 1))), (5, .int (nI ((144 * sd) + (6 * i)))), (0, .ref h), (1, .int (nI (sd))), (4, .int (nI (i)))]) hx hb d_M_pareAll_50 rfl hl (by decide) rfl (fun ls hl => ?_)
      refine lv_goto (tgt := 95) hx hb d_M_pareAll_51 (by decide) ?_
      refine lv_iinc (v := nI (i + 1)) (lv' := [(4, .int (nI (i + 1))), (2, .int (nI (cN))), (3, .int (nI (mt + 1))), (5, .int (nI ((144 * sd) + (6 * i)))), (0, .ref h), (1, .int (nI (sd)))]) hx hb d_M_pareAll_95 hl (k := 5) rfl (nI_add _ 1) (by decide) rfl (fun ls hl => ?_)
      refine lv_goto (tgt := 7) hx hb d_M_pareAll_98 (by decide) ?_
      exact ih_2 (i + 1) ls locs H (by omega) ⟨by omega, cN, mt + 1, mdN, pA_t heq c_9 hw2, lv_sub (l' := [(0, .ref h), (1, .int (nI (sd))), (2, .int (nI (cN))), (3, .int (nI (mt + 1))), (4, .int (nI (i + 1)))]) hl [4, 5, 1, 2, 0] rfl, hP.sub (ws' := [(h, .inr (3, fs)), (ad, eI g 288 (fd)), (adm, eI g 2 (dm)), (amd, eI g 1008 (mdN)), (ab, eI g 6 (bx))]) [1, 2, 0, 3, 4] rfl, (hD.sub (ws' := [(h, .inr (3, fs)), (ad, eI g 288 (fd)), (adm, eI g 2 (dm)), (amd, eI g 1008 (mdN)), (ab, eI g 6 (bx))]) [1, 2, 0, 3, 4] (by decide) rfl).re [h, ad, adm, amd, ab] rfl rfl, hS, by omega, by omega⟩
    · rw [if_neg c_9]
      refine lv_if_eq (tgt := 54) hx hb d_M_pareAll_37 (by decide) (fun _ => ?_) (fun h => absurd h (by decide))
      refine lv_iconst (v := (nI (0))) hx hb d_M_pareAll_54 (by decide) ?_
      refine lv_istore (lv' := [(6, .int (nI (0))), (5, .int (nI ((144 * sd) + (6 * i)))), (0, .ref h), (1, .int (nI (sd))), (2, .int (nI (n))), (3, .int (nI (mt))), (4, .int (nI (i)))]) hx hb d_M_pareAll_55 hl (by decide) rfl (fun ls hl => ?_)
      rw [← cpy_zero fd m2 (oM sd i) (6 * n)] at hP
      have hP : va_P g.1 cls [(h, .inr (3, fs)), (ad, eI g 288 (fd)), (adm, eI g 2 (dm)), (amd, eI g 1008 (va_cpy fd m2 (oM sd i) (6 * n) 0)), (ab, eI g 6 (bx))] H := hP
      refine W.loop (N := 6) (X := fun k ls locs H => lv_has ls 7 [(0, .ref h), (1, .int (nI (sd))), (2, .int (nI (n))), (3, .int (nI (mt))), (4, .int (nI (i))), (5, .int (nI ((144 * sd) + (6 * i)))), (6, .int (nI (k)))] ∧ k ≤ 6 ∧ va_P g.1 cls [(h, .inr (3, fs)), (ad, eI g 288 (fd)), (adm, eI g 2 (dm)), (amd, eI g 1008 (va_cpy fd m2 (oM sd i) (6 * n) k)), (ab, eI g 6 (bx))] H ∧ va_D A [(h, .inr (3, fs)), (ad, eI g 288 (fd)), (adm, eI g 2 (dm)), (amd, eI g 1008 (va_cpy fd m2 (oM sd i) (6 * n) k)), (ab, eI g 6 (bx))] ∧ va_S A s.heap H locs) 0 ⟨lv_sub hl [2, 3, 4, 5, 6, 1, 0] rfl, Nat.zero_le _, hP, hD.re [h, ad, adm, amd, ab] rfl rfl, hS⟩ (fun n_14 ih_15 k ls locs H hn_k hi_k hX => ?_) (fun _ _ _ _ hX => hX.2.1)
      obtain ⟨hl, -, hP, hD, hS⟩ := hX
      refine lv_iload hx hb d_M_pareAll_57 (lv_at hl 6 rfl) ?_
      refine lv_bipush (v := (nI (6))) hx hb d_M_pareAll_59 (by decide) ?_
      refine jv_icmp_ge (tgt := 92) hx hb (by omega) (by omega) d_M_pareAll_61 (by decide) (fun c_16 => ?_) (fun c_16 => ?_)
      · obtain rfl : k = 6 := by omega
        refine lv_iinc (v := nI (n + 1)) (lv' := [(2, .int (nI (n + 1))), (0, .ref h), (1, .int (nI (sd))), (3, .int (nI (mt))), (4, .int (nI (i))), (5, .int (nI ((144 * sd) + (6 * i)))), (6, .int (nI (6)))]) hx hb d_M_pareAll_92 hl (k := 2) rfl (nI_add _ 1) (by decide) rfl (fun ls hl => ?_)
        refine lv_iinc (v := nI (i + 1)) (lv' := [(4, .int (nI (i + 1))), (2, .int (nI (n + 1))), (0, .ref h), (1, .int (nI (sd))), (3, .int (nI (mt))), (5, .int (nI ((144 * sd) + (6 * i)))), (6, .int (nI (6)))]) hx hb d_M_pareAll_95 hl (k := 4) rfl (nI_add _ 1) (by decide) rfl (fun ls hl => ?_)
        refine lv_goto (tgt := 7) hx hb d_M_pareAll_98 (by decide) ?_
        exact ih_2 (i + 1) ls locs H (by omega) ⟨by omega, n + 1, mt, va_cpy fd m2 (oM sd i) (6 * n) 6, pA_f heq c_9, lv_sub (l' := [(0, .ref h), (1, .int (nI (sd))), (2, .int (nI (n + 1))), (3, .int (nI (mt))), (4, .int (nI (i + 1)))]) hl [2, 3, 1, 4, 0] rfl, hP.sub (ws' := [(h, .inr (3, fs)), (ad, eI g 288 (fd)), (adm, eI g 2 (dm)), (amd, eI g 1008 (va_cpy fd m2 (oM sd i) (6 * n) 6)), (ab, eI g 6 (bx))]) [0, 1, 2, 3, 4] rfl, (hD.sub (ws' := [(h, .inr (3, fs)), (ad, eI g 288 (fd)), (adm, eI g 2 (dm)), (amd, eI g 1008 (va_cpy fd m2 (oM sd i) (6 * n) 6)), (ab, eI g 6 (bx))]) [0, 1, 2, 3, 4] (by decide) rfl).re [h, ad, adm, amd, ab] rfl rfl, hS, by omega, by omega⟩
      · refine lv_aload_n hx hb d_M_pareAll_64 rfl (lv_at hl 0 rfl) ?_
        refine va_get (D := g.1) (ci := 3) (v := .ref amd) (C := R_M) (T := F_M) (N := 19) hx hb htB in_M hown ha.1 hP 0 rfl rfl 7 (by decide) (htB _ kw_449) (fun _ h9 => h9) hf7 d_M_pareAll_65 ?_
        refine lv_bipush (v := (nI (6))) hx hb d_M_pareAll_68 (by decide) ?_
        refine lv_iload_n hx hb d_M_pareAll_70 rfl (lv_at hl 2 rfl) ?_
        refine jv_imul hx hb d_M_pareAll_71 ?_
        refine lv_iload hx hb d_M_pareAll_72 (lv_at hl 6 rfl) ?_
        refine jv_iadd hx hb d_M_pareAll_74 ?_
        refine lv_aload_n hx hb d_M_pareAll_75 rfl (lv_at hl 0 rfl) ?_
        refine va_get (D := g.1) (ci := 3) (v := .ref ad) (C := R_M) (T := F_M) (N := 19) hx hb htB in_M hown ha.1 hP 0 rfl rfl 5 (by decide) (htB _ kw_447) (fun _ h9 => h9) hf5 d_M_pareAll_76 ?_
        refine lv_iload hx hb d_M_pareAll_79 (lv_at hl 5 rfl) ?_
        refine lv_iload hx hb d_M_pareAll_81 (lv_at hl 6 rfl) ?_
        refine jv_iadd hx hb d_M_pareAll_83 ?_
        refine ja_ald (k := ((144 * sd) + (6 * i)) + k) hx hb ha.1 hP 1 0 rfl rfl (by omega) (by omega) d_M_pareAll_84 ?_
        refine ja_ast (k := (6 * n) + k) hx hb ha.1 hP hD hS 3 0 rfl rfl (by omega) (by omega) d_M_pareAll_85 (fun H locs hP hD hS => ?_)
        have hP : va_P g.1 cls [(h, .inr (3, fs)), (ad, eI g 288 (fd)), (adm, eI g 2 (dm)), (amd, eI g 1008 (upd (va_cpy fd m2 (oM sd i) (6 * n) k) ((6 * n) + k) (fd (((144 * sd) + (6 * i)) + k)))), (ab, eI g 6 (bx))] H := hP
        have hD : va_D A [(h, .inr (3, fs)), (ad, eI g 288 (fd)), (adm, eI g 2 (dm)), (amd, eI g 1008 (upd (va_cpy fd m2 (oM sd i) (6 * n) k) ((6 * n) + k) (fd (((144 * sd) + (6 * i)) + k)))), (ab, eI g 6 (bx))] := hD
        refine lv_iinc (v := nI (k + 1)) (lv' := [(6, .int (nI (k + 1))), (0, .ref h), (1, .int (nI (sd))), (2, .int (nI (n))), (3, .int (nI (mt))), (4, .int (nI (i))), (5, .int (nI ((144 * sd) + (6 * i))))]) hx hb d_M_pareAll_86 hl (k := 6) rfl (nI_add _ 1) (by decide) rfl (fun ls hl => ?_)
        refine lv_goto (tgt := 57) hx hb d_M_pareAll_89 (by decide) ?_
        rw [cpy_step] at hP
        have hD : va_D A [(h, .inr (3, fs)), (ad, eI g 288 (fd)), (adm, eI g 2 (dm)), (amd, eI g 1008 (va_cpy fd m2 (oM sd i) (6 * n) (k + 1))), (ab, eI g 6 (bx))] := hD.re [h, ad, adm, amd, ab] rfl rfl
        exact ih_15 (k + 1) ls locs H (by omega) ⟨lv_sub (l' := [(0, .ref h), (1, .int (nI (sd))), (2, .int (nI (n))), (3, .int (nI (mt))), (4, .int (nI (i))), (5, .int (nI ((144 * sd) + (6 * i)))), (6, .int (nI ((k + 1))))]) hl [1, 2, 3, 4, 5, 6, 0] rfl, by omega, hP.sub (ws' := [(h, .inr (3, fs)), (ad, eI g 288 (fd)), (adm, eI g 2 (dm)), (amd, eI g 1008 (va_cpy fd m2 (oM sd i) (6 * n) (k + 1))), (ab, eI g 6 (bx))]) [0, 1, 2, 3, 4] rfl, (hD.sub (ws' := [(h, .inr (3, fs)), (ad, eI g 288 (fd)), (adm, eI g 2 (dm)), (amd, eI g 1008 (va_cpy fd m2 (oM sd i) (6 * n) (k + 1))), (ab, eI g 6 (bx))]) [0, 1, 2, 3, 4] (by decide) rfl).re [h, ad, adm, amd, ab] rfl rfl, hS⟩
