def totS (f : Nat → Int32) (n : Nat) : Int64 := sm (fun u => volS f (u * 6) f (u * 6)) n
set_option maxHeartbeats 4000000 in
set_option maxRecDepth 100000 in
theorem p_S_total (l : Launch) (g : gT) (z : Nat) (H0 : Heap) (sa ba na : Nat) (fa : Nat → Int32) : Met l y_S_total w_S_total ({ frames := 3, cells := 0, slots := 0, locals := 65 }) (va_Pc [.ref sa] (pB g z H0 (va_P g.1 cls [(sa, .inr (0, [.ref ba, .int (nI na)])), (ba, eI g 144 fa)] H0 ∧ na ≤ 24))) (qL (totS fa na) H0) 0 0 nA := by
  refine Met.ofW (cc := c_S_total) (maxL := 5) (ret := (some .long)) (by decide) rfl ?_
  intro p e s m args below meth c s₁ B hml hv
  obtain ⟨rfl, hH0, ha, hP, hna⟩ := hv
  have hx := B.exec
  have hb := B.bytes
  have hr := B.returns
  have htB : ∀ w ∈ tB, w.before _ s = true := fun w h => atoms_spec (ws := w_S_total) B.pre w (List.mem_cons_of_mem _ h)
  have hown : s.vm.findClass "JointSolids$Solid" = some m.cls := findClass_of_methodNamed B.named
  have hlocks := B.notSynchronized
  subst hH0
  have hz : ∀ q, nA q → z ≤ q := nA_z
  have hS : va_S nA s.heap s.heap [] := va_S.rf
  have hl := lv_entry ([.ref sa]) (n := 5) (Nat.le_of_ble_eq_true rfl)
  rw [lg_entry_eq]
  generalize (lg_sl ([.ref sa]) ++ List.replicate (5 - (lg_sl ([.ref sa])).length) Slot.unset).toArray = ls at hl ⊢
  have hl : lv_has ls 5 [(0, .ref sa)] := hl
  refine lv_lconst (v := 0) hx hb d_S_total_0 (by decide) ?_
  refine lv_lstore_n (lv' := [(1, .long (0)), (0, .ref sa)]) hx hb d_S_total_1 rfl hl (by decide) rfl (fun ls hl => ?_)
  refine lv_iconst (v := (nI (0))) hx hb d_S_total_2 (by decide) ?_
  refine lv_istore_n (lv' := [(3, .int (nI (0))), (1, .long (0)), (0, .ref sa)]) hx hb d_S_total_3 rfl hl (by decide) rfl (fun ls hl => ?_)
  obtain ⟨i, hinv, hi_i⟩ : ∃ i : Nat, lv_has ls 5 [(0, .ref sa), (1, .long (sm (fun u => volS fa (u * 6) fa (u * 6)) i)), (3, .int (nI (i)))] ∧ i ≤ na := ⟨0, lv_sub hl [2, 1, 0] rfl, Nat.zero_le _⟩
  obtain ⟨n_1, hn_i⟩ : ∃ n_1 : Nat, na + 1 ≤ i + n_1 := ⟨na + 1, by omega⟩
  refine W.ofL hS (fun locs hS => ?_)
  clear hl
  induction n_1 generalizing i ls locs with
  | zero => exact absurd hn_i (by omega)
  | succ n_1 ih_2 =>
    have hl := hinv
    refine lv_iload_n hx hb d_S_total_4 rfl (lv_at hl 2 rfl) ?_
    refine lv_aload_n hx hb d_S_total_5 rfl (lv_at hl 0 rfl) ?_
    refine va_get (D := g.1) (ci := 0) (v := .int (nI (na))) (C := R_S) (T := F_S) (N := 2) hx hb htB in_S hown ha.1 hP 0 rfl rfl 1 (by decide) (htB _ kw_32) (fun _ h9 => h9) rfl d_S_total_6 ?_
    refine jv_icmp_ge (tgt := 42) hx hb (by omega) (by omega) d_S_total_9 (by decide) (fun c_3 => ?_) (fun c_3 => ?_)
    · refine lv_lload_n hx hb d_S_total_42 rfl (lv_at hl 1 rfl) ?_
      exact W.lret (v := (sm (fun u => volS fa (u * 6) fa (u * 6)) i)) hx hb hr (fun t ht hW => ⟨⟨(sm (fun u => volS fa (u * 6) fa (u * 6)) i), (), rfl, by rw [show i = na from by omega]; rfl, ht⟩, hS.F ht⟩) hS.2.2 d_S_total_43
    · refine lv_iload_n hx hb d_S_total_12 rfl (lv_at hl 2 rfl) ?_
      refine lv_bipush (v := (nI (6))) hx hb d_S_total_13 (by decide) ?_
      refine jv_imul hx hb d_S_total_15 ?_
      refine lv_istore (lv' := [(4, .int (nI (i * 6))), (0, .ref sa), (1, .long (sm (fun u => volS fa (u * 6) fa (u * 6)) i)), (3, .int (nI (i)))]) hx hb d_S_total_16 hl (by decide) rfl (fun ls hl => ?_)
      refine lv_lload_n hx hb d_S_total_18 rfl (lv_at hl 2 rfl) ?_
      refine lv_aload_n hx hb d_S_total_19 rfl (lv_at hl 1 rfl) ?_
      refine va_get (D := g.1) (ci := 0) (v := .ref ba) (C := R_S) (T := F_S) (N := 2) hx hb htB in_S hown ha.1 hP 0 rfl rfl 0 (by decide) (htB _ kw_30) (fun _ h9 => h9) rfl d_S_total_20 ?_
      refine lv_iload hx hb d_S_total_23 (lv_at hl 0 rfl) ?_
      refine lv_aload_n hx hb d_S_total_25 rfl (lv_at hl 1 rfl) ?_
      refine va_get (D := g.1) (ci := 0) (v := .ref ba) (C := R_S) (T := F_S) (N := 2) hx hb htB in_S hown ha.1 hP 0 rfl rfl 0 (by decide) (htB _ kw_30) (fun _ h9 => h9) rfl d_S_total_26 ?_
      refine lv_iload hx hb d_S_total_29 (lv_at hl 0 rfl) ?_
      refine va_calll (va_runSN (As := [.ref ba, .int (nI (i * 6)), .ref ba, .int (nI (i * 6))]) (rest := [.long (sm (fun u => volS fa (u * 6) fa (u * 6)) i)]) ⟨hx, hb, hml, hown, htB⟩ (p_J_volumeShared l g z _ ba ba 144 144 fa fa (i * 6) (i * 6)) ⟨va_cnB 4 htB g_J_volumeShared rfl rfl rfl (ha.2.1 _ nb_14) (htB _ kw_1) (by decide +kernel) ⟨by decide, by decide⟩, htB _ kw_163, trivial⟩ (pre_S hS hz ha ⟨va_pair (hP 1 _ rfl) (hP 1 _ rfl), by omega, by omega, by omega, by omega⟩) rfl rfl hl.1 rfl (lv_room (Nat.le_of_ble_eq_true rfl)) d_S_total_31 ⟨by decide, by decide⟩) hS (fun q _ h => h.elim) (fun q h => h.elim) (fun r_4 u t H1 locs ht hvm hw hB hz1 hk1 hS => ?_)
      obtain rfl := hB.symm.trans ht
      subst hw
      refine lv_ladd hx hb d_S_total_34 ?_
      refine lv_lstore_n (lv' := [(1, .long ((sm (fun u => volS fa (u * 6) fa (u * 6)) i) + (volS fa (i * 6) fa (i * 6)))), (4, .int (nI (i * 6))), (0, .ref sa), (3, .int (nI (i)))]) hx hb d_S_total_35 rfl hl (by decide) rfl (fun ls hl => ?_)
      refine lv_iinc (v := nI (i + 1)) (lv' := [(3, .int (nI (i + 1))), (1, .long ((sm (fun u => volS fa (u * 6) fa (u * 6)) i) + (volS fa (i * 6) fa (i * 6)))), (4, .int (nI (i * 6))), (0, .ref sa)]) hx hb d_S_total_36 hl (k := 3) rfl (nI_add _ 1) (by decide) rfl (fun ls hl => ?_)
      refine lv_goto (tgt := 4) hx hb d_S_total_39 (by decide) ?_
      exact ih_2 (locs := locs) (ls := ls) (i := i + 1) (hS := hS) (hinv := lv_sub (l' := [(0, .ref sa), (1, .long (sm (fun u => volS fa (u * 6) fa (u * 6)) (i + 1))), (3, .int (nI ((i + 1))))]) hl [3, 1, 0] rfl) (hi_i := by omega) (hn_i := by omega)
def anyB (P : Nat → Bool) : Nat → Bool
  | 0 => false
  | n + 1 => anyB P n || P n
theorem anyB_of {P : Nat → Bool} {n i : Nat} (h : i < n) (hp : P i = true) : anyB P n = true := by
  induction n with
  | zero => omega
  | succ n ih =>
    show (anyB P n || P n) = true
    by_cases q : i = n
    · subst q; rw [hp, Bool.or_true]
    · rw [ih (by omega), Bool.true_or]
theorem anyB_no {P : Nat → Bool} {n : Nat} (h : anyB P n = false) (hp : P n = false) : anyB P (n + 1) = false := by
  show (anyB P n || P n) = false
  rw [h, hp]; rfl
/-- whether a place is inside a box or on its sides -/
def inB (f : Nat → Int32) (o : Nat) (x y z : Int32) : Bool := decide (¬ outI x (f o) (f (o + 3)) ∧ ¬ outI y (f (o + 1)) (f (o + 4)) ∧ ¬ outI z (f (o + 2)) (f (o + 5)))
theorem inB_no {f : Nat → Int32} {o : Nat} {x y z : Int32} (h : outI x (f o) (f (o + 3)) ∨ outI y (f (o + 1)) (f (o + 4)) ∨ outI z (f (o + 2)) (f (o + 5))) : inB f o x y z = false := decide_eq_false fun q => h.elim q.1 fun h => h.elim q.2.1 q.2.2
theorem inB_yes {f : Nat → Int32} {o : Nat} {x y z : Int32} (h1 : ¬ outI x (f o) (f (o + 3))) (h2 : ¬ outI y (f (o + 1)) (f (o + 4))) (h3 : ¬ outI z (f (o + 2)) (f (o + 5))) : inB f o x y z = true := decide_eq_true ⟨h1, h2, h3⟩
theorem not_out {v a b : Int32} (h1 : ¬ v < a) (h2 : ¬ b < v) : ¬ outI v a b := fun h => h.elim h1 h2
set_option maxHeartbeats 4000000 in
set_option maxRecDepth 100000 in
theorem p_S_holds (l : Launch) (g : gT) (z : Nat) (H0 : Heap) (sa ba na : Nat) (fa : Nat → Int32) (x y zz : Int32) : Met l y_S_holds w_S_holds ({ frames := 0, cells := 0, slots := 0, locals := 0 }) (va_Pc [.ref sa, .int (x), .int (y), .int (zz)] (pB g z H0 (va_P g.1 cls [(sa, .inr (0, [.ref ba, .int (nI na)])), (ba, eI g 144 fa)] H0 ∧ na ≤ 24))) (qI (if anyB (fun u => inB fa (u * 6) x y zz) na then nI 1 else nI 0) H0) 0 0 nA := by
  refine Met.ofW (cc := c_S_holds) (maxL := 6) (ret := (some .boolean)) (by decide) rfl ?_
  intro p e s m args below meth c s₁ B hml hv
  obtain ⟨rfl, hH0, ha, hP, hna⟩ := hv
  have hx := B.exec
  have hb := B.bytes
  have hr := B.returns
  have htB : ∀ w ∈ tB, w.before _ s = true := fun w h => atoms_spec (ws := w_S_holds) B.pre w (List.mem_cons_of_mem _ h)
  have hown : s.vm.findClass "JointSolids$Solid" = some m.cls := findClass_of_methodNamed B.named
  have hlocks := B.notSynchronized
  subst hH0
  have hz : ∀ q, nA q → z ≤ q := nA_z
  have hS : va_S nA s.heap s.heap [] := va_S.rf
  have hl := lv_entry ([.ref sa, .int (x), .int (y), .int (zz)]) (n := 6) (Nat.le_of_ble_eq_true rfl)
  rw [lg_entry_eq]
  generalize (lg_sl ([.ref sa, .int (x), .int (y), .int (zz)]) ++ List.replicate (6 - (lg_sl ([.ref sa, .int (x), .int (y), .int (zz)])).length) Slot.unset).toArray = ls at hl ⊢
  have hl : lv_has ls 6 [(0, .ref sa), (1, .int (x)), (2, .int (y)), (3, .int (zz))] := hl
  refine lv_iconst (v := (nI (0))) hx hb d_S_holds_0 (by decide) ?_
  refine lv_istore (lv' := [(4, .int (nI (0))), (0, .ref sa), (1, .int (x)), (2, .int (y)), (3, .int (zz))]) hx hb d_S_holds_1 hl (by decide) rfl (fun ls hl => ?_)
  have hno : anyB (fun u => inB fa (u * 6) x y zz) 0 = false := rfl
  obtain ⟨i, hinv, hi_i, hno⟩ : ∃ i : Nat, lv_has ls 6 [(0, .ref sa), (1, .int (x)), (2, .int (y)), (3, .int (zz)), (4, .int (nI (i)))] ∧ i ≤ na ∧ anyB (fun u => inB fa (u * 6) x y zz) i = false := ⟨0, lv_sub hl [1, 2, 3, 4, 0] rfl, Nat.zero_le _, rfl⟩
  obtain ⟨n_1, hn_i⟩ : ∃ n_1 : Nat, na + 1 ≤ i + n_1 := ⟨na + 1, by omega⟩
  refine W.ofL hS (fun locs hS => ?_)
  clear hl
  induction n_1 generalizing i ls locs with
  | zero => exact absurd hn_i (by omega)
  | succ n_1 ih_2 =>
    have hl := hinv
    refine lv_iload hx hb d_S_holds_3 (lv_at hl 4 rfl) ?_
    refine lv_aload_n hx hb d_S_holds_5 rfl (lv_at hl 0 rfl) ?_
    refine va_get (D := g.1) (ci := 0) (v := .int (nI (na))) (C := R_S) (T := F_S) (N := 2) hx hb htB in_S hown ha.1 hP 0 rfl rfl 1 (by decide) (htB _ kw_32) (fun _ h9 => h9) rfl d_S_holds_6 ?_
    refine jv_icmp_ge (tgt := 103) hx hb (by omega) (by omega) d_S_holds_9 (by decide) (fun c_3 => ?_) (fun c_3 => ?_)
    · refine lv_iconst (v := (nI (0))) hx hb d_S_holds_103 (by decide) ?_
      exact W.zret (v := (nI (0))) hx hb hr (by decide) (fun t ht hW => ⟨⟨(nI (0)), (), rfl, by rw [show i = na from by omega] at hno; exact (if_neg (by rw [hno]; exact Bool.false_ne_true)).symm, ht⟩, hS.F ht⟩) hS.2.2 d_S_holds_104
    · refine lv_iload hx hb d_S_holds_12 (lv_at hl 4 rfl) ?_
      refine lv_bipush (v := (nI (6))) hx hb d_S_holds_14 (by decide) ?_
      refine jv_imul hx hb d_S_holds_16 ?_
      refine lv_istore (lv' := [(5, .int (nI (i * 6))), (0, .ref sa), (1, .int (x)), (2, .int (y)), (3, .int (zz)), (4, .int (nI (i)))]) hx hb d_S_holds_17 hl (by decide) rfl (fun ls hl => ?_)
      refine lv_aload_n hx hb d_S_holds_19 rfl (lv_at hl 1 rfl) ?_
      refine va_get (D := g.1) (ci := 0) (v := .ref ba) (C := R_S) (T := F_S) (N := 2) hx hb htB in_S hown ha.1 hP 0 rfl rfl 0 (by decide) (htB _ kw_30) (fun _ h9 => h9) rfl d_S_holds_20 ?_
      refine lv_iload hx hb d_S_holds_23 (lv_at hl 0 rfl) ?_
      refine ja_ald (k := i * 6) hx hb ha.1 hP 1 0 rfl rfl (by omega) (by omega) d_S_holds_25 ?_
      refine lv_iload_n hx hb d_S_holds_26 rfl (lv_at hl 2 rfl) ?_
      refine lv_icmp_gt (tgt := 97) hx hb d_S_holds_27 (by decide) (fun c_4 => ?_) (fun c_4 => ?_)
      · refine lv_iinc (v := nI (i + 1)) (lv' := [(4, .int (nI (i + 1))), (5, .int (nI (i * 6))), (0, .ref sa), (1, .int (x)), (2, .int (y)), (3, .int (zz))]) hx hb d_S_holds_97 hl (k := 5) rfl (nI_add _ 1) (by decide) rfl (fun ls hl => ?_)
        refine lv_goto (tgt := 3) hx hb d_S_holds_100 (by decide) ?_
        exact ih_2 (locs := locs) (ls := ls) (i := i + 1) (hS := hS) (hinv := lv_sub (l' := [(0, .ref sa), (1, .int (x)), (2, .int (y)), (3, .int (zz)), (4, .int (nI ((i + 1))))]) hl [2, 3, 4, 5, 0] rfl) (hi_i := by omega) (hn_i := by omega) (hno := anyB_no hno (inB_no (Or.inl (Or.inl c_4))))
      · refine lv_iload_n hx hb d_S_holds_30 rfl (lv_at hl 2 rfl) ?_
        refine lv_aload_n hx hb d_S_holds_31 rfl (lv_at hl 1 rfl) ?_
        refine va_get (D := g.1) (ci := 0) (v := .ref ba) (C := R_S) (T := F_S) (N := 2) hx hb htB in_S hown ha.1 hP 0 rfl rfl 0 (by decide) (htB _ kw_30) (fun _ h9 => h9) rfl d_S_holds_32 ?_
        refine lv_iload hx hb d_S_holds_35 (lv_at hl 0 rfl) ?_
        refine lv_iconst (v := (nI (3))) hx hb d_S_holds_37 (by decide) ?_
        refine jv_iadd hx hb d_S_holds_38 ?_
        refine ja_ald (k := (i * 6) + 3) hx hb ha.1 hP 1 0 rfl rfl (by omega) (by omega) d_S_holds_39 ?_
        refine lv_icmp_gt (tgt := 97) hx hb d_S_holds_40 (by decide) (fun c_5 => ?_) (fun c_5 => ?_)
        · refine lv_iinc (v := nI (i + 1)) (lv' := [(4, .int (nI (i + 1))), (5, .int (nI (i * 6))), (0, .ref sa), (1, .int (x)), (2, .int (y)), (3, .int (zz))]) hx hb d_S_holds_97 hl (k := 5) rfl (nI_add _ 1) (by decide) rfl (fun ls hl => ?_)
          refine lv_goto (tgt := 3) hx hb d_S_holds_100 (by decide) ?_
          exact ih_2 (locs := locs) (ls := ls) (i := i + 1) (hS := hS) (hinv := lv_sub (l' := [(0, .ref sa), (1, .int (x)), (2, .int (y)), (3, .int (zz)), (4, .int (nI ((i + 1))))]) hl [2, 3, 4, 5, 0] rfl) (hi_i := by omega) (hn_i := by omega) (hno := anyB_no hno (inB_no (Or.inl (Or.inr c_5))))
        · refine lv_aload_n hx hb d_S_holds_43 rfl (lv_at hl 1 rfl) ?_
          refine va_get (D := g.1) (ci := 0) (v := .ref ba) (C := R_S) (T := F_S) (N := 2) hx hb htB in_S hown ha.1 hP 0 rfl rfl 0 (by decide) (htB _ kw_30) (fun _ h9 => h9) rfl d_S_holds_44 ?_
          refine lv_iload hx hb d_S_holds_47 (lv_at hl 0 rfl) ?_
          refine lv_iconst (v := (nI (1))) hx hb d_S_holds_49 (by decide) ?_
          refine jv_iadd hx hb d_S_holds_50 ?_
          refine ja_ald (k := (i * 6) + 1) hx hb ha.1 hP 1 0 rfl rfl (by omega) (by omega) d_S_holds_51 ?_
          refine lv_iload_n hx hb d_S_holds_52 rfl (lv_at hl 3 rfl) ?_
          refine lv_icmp_gt (tgt := 97) hx hb d_S_holds_53 (by decide) (fun c_6 => ?_) (fun c_6 => ?_)
          · refine lv_iinc (v := nI (i + 1)) (lv' := [(4, .int (nI (i + 1))), (5, .int (nI (i * 6))), (0, .ref sa), (1, .int (x)), (2, .int (y)), (3, .int (zz))]) hx hb d_S_holds_97 hl (k := 5) rfl (nI_add _ 1) (by decide) rfl (fun ls hl => ?_)
            refine lv_goto (tgt := 3) hx hb d_S_holds_100 (by decide) ?_
            exact ih_2 (locs := locs) (ls := ls) (i := i + 1) (hS := hS) (hinv := lv_sub (l' := [(0, .ref sa), (1, .int (x)), (2, .int (y)), (3, .int (zz)), (4, .int (nI ((i + 1))))]) hl [2, 3, 4, 5, 0] rfl) (hi_i := by omega) (hn_i := by omega) (hno := anyB_no hno (inB_no (Or.inr (Or.inl (Or.inl c_6)))))
          · refine lv_iload_n hx hb d_S_holds_56 rfl (lv_at hl 3 rfl) ?_
            refine lv_aload_n hx hb d_S_holds_57 rfl (lv_at hl 1 rfl) ?_
            refine va_get (D := g.1) (ci := 0) (v := .ref ba) (C := R_S) (T := F_S) (N := 2) hx hb htB in_S hown ha.1 hP 0 rfl rfl 0 (by decide) (htB _ kw_30) (fun _ h9 => h9) rfl d_S_holds_58 ?_
            refine lv_iload hx hb d_S_holds_61 (lv_at hl 0 rfl) ?_
            refine lv_iconst (v := (nI (4))) hx hb d_S_holds_63 (by decide) ?_
            refine jv_iadd hx hb d_S_holds_64 ?_
            refine ja_ald (k := (i * 6) + 4) hx hb ha.1 hP 1 0 rfl rfl (by omega) (by omega) d_S_holds_65 ?_
            refine lv_icmp_gt (tgt := 97) hx hb d_S_holds_66 (by decide) (fun c_7 => ?_) (fun c_7 => ?_)
            · refine lv_iinc (v := nI (i + 1)) (lv' := [(4, .int (nI (i + 1))), (5, .int (nI (i * 6))), (0, .ref sa), (1, .int (x)), (2, .int (y)), (3, .int (zz))]) hx hb d_S_holds_97 hl (k := 5) rfl (nI_add _ 1) (by decide) rfl (fun ls hl => ?_)
              refine lv_goto (tgt := 3) hx hb d_S_holds_100 (by decide) ?_
              exact ih_2 (locs := locs) (ls := ls) (i := i + 1) (hS := hS) (hinv := lv_sub (l' := [(0, .ref sa), (1, .int (x)), (2, .int (y)), (3, .int (zz)), (4, .int (nI ((i + 1))))]) hl [2, 3, 4, 5, 0] rfl) (hi_i := by omega) (hn_i := by omega) (hno := anyB_no hno (inB_no (Or.inr (Or.inl (Or.inr c_7)))))
            · refine lv_aload_n hx hb d_S_holds_69 rfl (lv_at hl 1 rfl) ?_
              refine va_get (D := g.1) (ci := 0) (v := .ref ba) (C := R_S) (T := F_S) (N := 2) hx hb htB in_S hown ha.1 hP 0 rfl rfl 0 (by decide) (htB _ kw_30) (fun _ h9 => h9) rfl d_S_holds_70 ?_
              refine lv_iload hx hb d_S_holds_73 (lv_at hl 0 rfl) ?_
              refine lv_iconst (v := (nI (2))) hx hb d_S_holds_75 (by decide) ?_
              refine jv_iadd hx hb d_S_holds_76 ?_
              refine ja_ald (k := (i * 6) + 2) hx hb ha.1 hP 1 0 rfl rfl (by omega) (by omega) d_S_holds_77 ?_
              refine lv_iload_n hx hb d_S_holds_78 rfl (lv_at hl 4 rfl) ?_
              refine lv_icmp_gt (tgt := 97) hx hb d_S_holds_79 (by decide) (fun c_8 => ?_) (fun c_8 => ?_)
              · refine lv_iinc (v := nI (i + 1)) (lv' := [(4, .int (nI (i + 1))), (5, .int (nI (i * 6))), (0, .ref sa), (1, .int (x)), (2, .int (y)), (3, .int (zz))]) hx hb d_S_holds_97 hl (k := 5) rfl (nI_add _ 1) (by decide) rfl (fun ls hl => ?_)
                refine lv_goto (tgt := 3) hx hb d_S_holds_100 (by decide) ?_
                exact ih_2 (locs := locs) (ls := ls) (i := i + 1) (hS := hS) (hinv := lv_sub (l' := [(0, .ref sa), (1, .int (x)), (2, .int (y)), (3, .int (zz)), (4, .int (nI ((i + 1))))]) hl [2, 3, 4, 5, 0] rfl) (hi_i := by omega) (hn_i := by omega) (hno := anyB_no hno (inB_no (Or.inr (Or.inr (Or.inl c_8)))))
              · refine lv_iload_n hx hb d_S_holds_82 rfl (lv_at hl 4 rfl) ?_
                refine lv_aload_n hx hb d_S_holds_83 rfl (lv_at hl 1 rfl) ?_
                refine va_get (D := g.1) (ci := 0) (v := .ref ba) (C := R_S) (T := F_S) (N := 2) hx hb htB in_S hown ha.1 hP 0 rfl rfl 0 (by decide) (htB _ kw_30) (fun _ h9 => h9) rfl d_S_holds_84 ?_
                refine lv_iload hx hb d_S_holds_87 (lv_at hl 0 rfl) ?_
                refine lv_iconst (v := (nI (5))) hx hb d_S_holds_89 (by decide) ?_
                refine jv_iadd hx hb d_S_holds_90 ?_
                refine ja_ald (k := (i * 6) + 5) hx hb ha.1 hP 1 0 rfl rfl (by omega) (by omega) d_S_holds_91 ?_
                refine lv_icmp_gt (tgt := 97) hx hb d_S_holds_92 (by decide) (fun c_9 => ?_) (fun c_9 => ?_)
                · refine lv_iinc (v := nI (i + 1)) (lv' := [(4, .int (nI (i + 1))), (5, .int (nI (i * 6))), (0, .ref sa), (1, .int (x)), (2, .int (y)), (3, .int (zz))]) hx hb d_S_holds_97 hl (k := 5) rfl (nI_add _ 1) (by decide) rfl (fun ls hl => ?_)
                  refine lv_goto (tgt := 3) hx hb d_S_holds_100 (by decide) ?_
                  exact ih_2 (locs := locs) (ls := ls) (i := i + 1) (hS := hS) (hinv := lv_sub (l' := [(0, .ref sa), (1, .int (x)), (2, .int (y)), (3, .int (zz)), (4, .int (nI ((i + 1))))]) hl [2, 3, 4, 5, 0] rfl) (hi_i := by omega) (hn_i := by omega) (hno := anyB_no hno (inB_no (Or.inr (Or.inr (Or.inr c_9)))))
                · refine lv_iconst (v := (nI (1))) hx hb d_S_holds_95 (by decide) ?_
                  exact W.zret (v := (nI (1))) hx hb hr (by decide) (fun t ht hW => ⟨⟨(nI (1)), (), rfl, (if_pos (anyB_of (P := (fun u => inB fa (u * 6) x y zz)) (i := i) (by omega) (inB_yes (not_out c_4 c_5) (not_out c_6 c_7) (not_out c_8 c_9)))).symm, ht⟩, hS.F ht⟩) hS.2.2 d_S_holds_96
