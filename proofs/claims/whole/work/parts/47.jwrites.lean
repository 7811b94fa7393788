/-! What part and cut ask of their numbers; a reference laid into a row of references. -/
abbrev bPl (r : Nat) (x y zz : Int32) : Prop := mnI x (mnI y zz) < -(nI r) ∨ ¬ mxI x (mxI y zz) ≤ nI r
abbrev bSz (r : Nat) (x y zz : Int32) : Prop := mnI x (mnI y zz) < nI 1 ∨ ¬ mxI x (mxI y zz) ≤ nI r
abbrev bad6 (lo hi x y zz w hh dd : Int32) : Prop := outI x lo hi ∨ outI y lo hi ∨ outI zz lo hi ∨ outI w (nI 1) hi ∨ outI hh (nI 1) hi ∨ outI dd (nI 1) hi
theorem mn3 (r x y zz : Int32) : mnI x (mnI y zz) < r ↔ x.toInt < r.toInt ∨ y.toInt < r.toInt ∨ zz.toInt < r.toInt := by
  rw [Int32.lt_iff_toInt_lt, mn_toInt, mn_toInt]; omega
theorem mx3 (r x y zz : Int32) : ¬ mxI x (mxI y zz) ≤ r ↔ r.toInt < x.toInt ∨ r.toInt < y.toInt ∨ r.toInt < zz.toInt := by
  rw [Int32.le_iff_toInt_le, mx_toInt, mx_toInt]; omega
theorem out_Int (v a b : Int32) : outI v a b ↔ v.toInt < a.toInt ∨ b.toInt < v.toInt := by
  show v < a ∨ b < v ↔ _
  rw [Int32.lt_iff_toInt_lt, Int32.lt_iff_toInt_lt]
theorem bad_iff {r : Nat} {x y zz w hh dd : Int32} : (bPl r x y zz ∨ bSz r w hh dd) ↔ bad6 (-(nI r)) (nI r) x y zz w hh dd := by
  show ((mnI x (mnI y zz) < -(nI r) ∨ ¬ mxI x (mxI y zz) ≤ nI r) ∨ (mnI w (mnI hh dd) < nI 1 ∨ ¬ mxI w (mxI hh dd) ≤ nI r)) ↔ (outI x (-(nI r)) (nI r) ∨ outI y (-(nI r)) (nI r) ∨ outI zz (-(nI r)) (nI r) ∨ outI w (nI 1) (nI r) ∨ outI hh (nI 1) (nI r) ∨ outI dd (nI 1) (nI r))
  rw [mn3, mx3, mn3, mx3, out_Int, out_Int, out_Int, out_Int, out_Int, out_Int]
  omega
theorem bad_1 {x y zz w hh dd : Int32} : (bPl 1000 x y zz ∨ bSz 1000 w hh dd) ↔ bad6 (-1000) (nI 1000) x y zz w hh dd := bad_iff (r := 1000)
theorem bad_2 {x y zz w hh dd : Int32} : (bPl 2000 x y zz ∨ bSz 2000 w hh dd) ↔ bad6 (-2000) (nI 2000) x y zz w hh dd := bad_iff (r := 2000)
theorem tool_ok {lo hi x y zz w hh dd : Int32} (h : ¬ bad6 lo hi x y zz w hh dd) (h1 : -2000 ≤ lo.toInt) (h2 : hi.toInt ≤ 2000) : okB (x, y, zz, x + w, y + hh, zz + dd) := by
  have h : ¬ (outI x lo hi ∨ outI y lo hi ∨ outI zz lo hi ∨ outI w (nI 1) hi ∨ outI hh (nI 1) hi ∨ outI dd (nI 1) hi) := h
  rw [out_Int, out_Int, out_Int, out_Int, out_Int, out_Int, nI_Int (by decide)] at h
  unfold okB
  dsimp only
  rw [add_toInt (by omega) (by omega), add_toInt (by omega) (by omega), add_toInt (by omega) (by omega)]
  omega
theorem cmp_ge {a b : Int64} (h : 0 ≤ lg_cmp a b) : ¬ a < b := Int64.not_lt.mpr ((lg_cmp_ge a b).mp h)
theorem cmp_lt {a b : Int64} (h : ¬ 0 ≤ lg_cmp a b) : a < b := Int64.not_le.mp fun q => h ((lg_cmp_ge a b).mpr q)
theorem kp_P {D : va_G} {cl : List vw_C} {ws : va_W} {H H1 : Heap} (h : va_P D cl ws H) (hk : ∀ q : Nat, q < H.size → H1[q]? = H[q]?) : va_P D cl ws H1 := h.kept fun k q hq => hk _ (h k q hq).lt
section JQ
variable {p : Program} {l : Launch} {e : Env} {R : Room} {s : State} {m : MethodId} {args : Array Value} {below : List Frame} {meth : Method} {c : Code} {H : Heap} {locs : List Loc} {cells slots : Nat} {Q : State → Prop}
variable {pc : Nat} {ls : Array Slot} {rest : List Value} {cc : ByteArray}
theorem ja_astq {D : va_G} {cl : List vw_C} {ws : va_W} {tys : List (ClassId × FieldType)} {a : Nat} {A : Nat → Prop} {H0 : Heap} (hexec : p.tables.exec = Jvm.exec) (hb : c.code = cc) (hK : va_K D cl tys s) (hP : va_P D cl ws H) (hD : va_D A ws) (hS : va_S A H0 H locs) (q0 t0 qk ci : Nat) {cA : ClassId} {r : vw_C} {n v : Nat} {vs : List Value} {f : Nat → Option Nat} (ha : ws[q0]? = some (a, .inl (cA, n, .inr (.inr (.inr (.inr f)))))) (ht : tys[t0]? = some (cA, .object r.1)) (hv : ws[qk]? = some (v, .inr (ci, vs))) (hc : cl[ci]? = some r) {k : Nat} (hk : k < n) (hn : n < 2 ^ 31) (hdg : decode cc pc = .ok (.aastore, 1))
    (kk : ∀ (H1 : Heap) (locs1 : List Loc), va_P D cl (ws.set q0 (a, .inl (cA, n, .inr (.inr (.inr (.inr (va_up f k (some v)))))))) H1 → va_D A (ws.set q0 (a, .inl (cA, n, .inr (.inr (.inr (.inr (va_up f k (some v)))))))) → va_S A H0 H1 locs1 → W p l e R s m args below meth c H1 locs1 cells slots Q (F0 m (pc + 1) ls rest)) : W p l e R s m args below meth c H locs cells slots Q (F0 m pc ls (.ref v :: .int (nI k) :: .ref a :: rest)) := by
  have e : (nI k).toNatClampNeg = k := nI_clamp (by omega)
  refine va_astq hexec hb hK hP hD hS q0 t0 qk ci ha ht hv hc (vp_in_nI hk hn) hdg ?_
  rw [e]; exact kk
end JQ
set_option maxHeartbeats 4000000 in
set_option maxRecDepth 100000 in
theorem m_J_part (l : Launch) (hlt : l.stackTraces = false) (g : gT) (z : Nat) (H0 : Heap) (h : Nat) (fs : List Value) (pa ak tl np : Nat) (gp : Nat → Option Nat) (sk ft : Nat → Int32) (x y zz w hh dd : Int32) : vx_Met l y_J_part w_J_part ({ frames := 7, cells := 4, slots := 158, locals := 105 }) (va_Pc [.ref h, .int (x), .int (y), .int (zz), .int (w), .int (hh), .int (dd)] (pB g z H0 (va_P g.1 cls [(h, .inr (1, fs)), (pa, ePS g 8 (gp)), (ak, eI g 48 (sk)), (tl, eI g 6 (ft))] H0 ∧ va_D (zA z) [(h, .inr (1, fs)), (pa, ePS g 8 (gp)), (ak, eI g 48 (sk)), (tl, eI g 6 (ft))] ∧ (fs.length = 14 ∧ fs[0]? = some (.ref pa) ∧ fs[1]? = some (.int (nI np)) ∧ fs[2]? = some (.ref ak) ∧ fs[10]? = some (.ref tl) ∧ np ≤ 8)))) (va_Qi (fun (rr : Int32) (u : Nat × Nat) => ¬ (bad6 (-1000) (nI 1000) x y zz w hh dd) ∧ np < 8 ∧ rr = nI np) (fun (u : Nat × Nat) t => va_P g.1 cls [(h, .inr (1, fs.set 1 (.int (nI (np + 1))))), (pa, ePS g 8 (va_up gp np (some u.1))), (ak, eI g 48 (va_cpy (st6 ft x y zz (x + w) (y + hh) (zz + dd)) sk 0 (np * 6) 6)), (tl, eI g 6 (st6 ft x y zz (x + w) (y + hh) (zz + dd))), (u.1, .inr (0, [.ref u.2, .int (nI (0 + 1))])), (u.2, eI g 144 (adB (fun _ => nI 0) 0 (st6 ft x y zz (x + w) (y + hh) (zz + dd)) 0))] t.heap ∧ va_D (va_A [(h, .inr (1, fs)), (pa, ePS g 8 (gp)), (ak, eI g 48 (sk)), (tl, eI g 6 (ft))] H0.size) [(h, .inr (1, fs.set 1 (.int (nI (np + 1))))), (pa, ePS g 8 (va_up gp np (some u.1))), (ak, eI g 48 (va_cpy (st6 ft x y zz (x + w) (y + hh) (zz + dd)) sk 0 (np * 6) 6)), (tl, eI g 6 (st6 ft x y zz (x + w) (y + hh) (zz + dd))), (u.1, .inr (0, [.ref u.2, .int (nI (0 + 1))])), (u.2, eI g 144 (adB (fun _ => nI 0) 0 (st6 ft x y zz (x + w) (y + hh) (zz + dd)) 0))]) (va_A [(h, .inr (1, fs)), (pa, ePS g 8 (gp)), (ak, eI g 48 (sk)), (tl, eI g 6 (ft))] H0.size)) (xX (fun E => E = E_IAE ∧ (bad6 (-1000) (nI 1000) x y zz w hh dd) ∨ E = E_ISE ∧ ¬ (bad6 (-1000) (nI 1000) x y zz w hh dd) ∧ np = 8) H0) 4 158 (va_A [(h, .inr (1, fs)), (pa, ePS g 8 (gp)), (ak, eI g 48 (sk)), (tl, eI g 6 (ft))] H0.size) := by
  refine vx_ofW (cc := c_J_part) (maxL := 8) (ret := (some .int)) (by decide) rfl ?_
  intro p e s m args below meth c s₁ B hml htab hv
  obtain ⟨rfl, hH0, ha, hP, hD0, hlen, hf0, hf1, hf2, hf10, hnp⟩ := hv
  have hx := B.exec
  have hb := B.bytes
  have hr := B.returns
  have htB : ∀ w ∈ tB, w.before _ s = true := fun w h => atoms_spec (ws := w_J_part) B.pre w (List.mem_cons_of_mem _ h)
  have hown : s.vm.findClass "JointSolids" = some m.cls := findClass_of_methodNamed B.named
  have hlocks := B.notSynchronized
  subst hH0
  have hD := hD0.self (sz := s.heap.size)
  have hz := aA_z hD0 ha.2.2.2.2.2
  generalize hAe : va_A [(h, .inr (1, fs)), (pa, ePS g 8 (gp)), (ak, eI g 48 (sk)), (tl, eI g 6 (ft))] s.heap.size = A at hD hz ⊢
  have hA : ∀ q : Nat, s.heap.size ≤ q → A q := fun q h => by rw [← hAe]; exact Or.inr h
  have hS : va_S A s.heap s.heap [] := va_S.rf
  have hl := lv_entry ([.ref h, .int (x), .int (y), .int (zz), .int (w), .int (hh), .int (dd)]) (n := 8) (Nat.le_of_ble_eq_true rfl)
  rw [lg_entry_eq]
  generalize (lg_sl ([.ref h, .int (x), .int (y), .int (zz), .int (w), .int (hh), .int (dd)]) ++ List.replicate (8 - (lg_sl ([.ref h, .int (x), .int (y), .int (zz), .int (w), .int (hh), .int (dd)])).length) Slot.unset).toArray = ls at hl ⊢
  have hl : lv_has ls 8 [(0, .ref h), (1, .int (x)), (2, .int (y)), (3, .int (zz)), (4, .int (w)), (5, .int (hh)), (6, .int (dd))] := hl
  refine lv_sipush (v := (nI (1000))) hx hb d_J_part_0 (by decide) ?_
  refine lv_iload_n hx hb d_J_part_3 rfl (lv_at hl 1 rfl) ?_
  refine lv_iload_n hx hb d_J_part_4 rfl (lv_at hl 2 rfl) ?_
  refine lv_iload_n hx hb d_J_part_5 rfl (lv_at hl 3 rfl) ?_
  refine vx_callv (vx_runS (As := [.int (nI (1000)), .int (x), .int (y), .int (zz)]) (rest := []) ⟨hx, hb, hml, hown, htB⟩ (x_J_needPlaces l hlt g z _ (1000) (x) (y) (zz)) (va_cwS 4 htB (gS kw_183 kw_184 kw_1 g_J_needPlaces) rfl rfl rfl (by decide +kernel) ⟨Nat.le_of_ble_eq_true rfl, Nat.le_of_ble_eq_true rfl⟩) (pre_S hS hz ha trivial) rfl rfl hl.1 rfl (lv_room (Nat.le_of_ble_eq_true rfl)) d_J_part_6 ⟨Nat.le_of_ble_eq_true rfl, Nat.le_of_ble_eq_true rfl⟩) hS (fun q _ h => h.elim) (fun q h => h.elim) (fun q h1 h2 => absurd h1 (Nat.not_lt.mpr h2)) (fun E ce q9 u t H1 locs ht hal hpx hBX hsz hk hS hce hcv hcl => ?_) (fun u t H1 locs ht hvm hw hB hz1 hk1 hS => ?_)
  · obtain ⟨hE, hkp⟩ := hBX
    exact vx_out (fun x h => (htab x h).elim) hlocks hce hcv hcl (fun t2 ht2 hal2 => ⟨(), trivial, ⟨Or.inl ⟨hE.1, bad_1.mp (Or.inl hE.2)⟩, (kpt.mv (ht.trans ht2.symm) hkp)⟩, (kpt.mv (ht.trans ht2.symm) hkp).1, fun q hq _ => (kpt.mv (ht.trans ht2.symm) hkp).2 q hq⟩) hS.2.2 (Nat.le_of_ble_eq_true rfl) (Nat.le_of_ble_eq_true rfl)
  · obtain rfl := hB.symm.trans ht
    have hpl := hw
    refine lv_sipush (v := (nI (1000))) hx hb d_J_part_9 (by decide) ?_
    refine lv_iload hx hb d_J_part_12 (lv_at hl 4 rfl) ?_
    refine lv_iload hx hb d_J_part_14 (lv_at hl 5 rfl) ?_
    refine lv_iload hx hb d_J_part_16 (lv_at hl 6 rfl) ?_
    refine vx_callv (vx_runS (As := [.int (nI (1000)), .int (w), .int (hh), .int (dd)]) (rest := []) ⟨hx, hb, hml, hown, htB⟩ (x_J_needSizes l hlt g z _ (1000) (w) (hh) (dd)) (va_cwS 4 htB (gS kw_202 kw_203 kw_1 g_J_needSizes) rfl rfl rfl (by decide +kernel) ⟨Nat.le_of_ble_eq_true rfl, Nat.le_of_ble_eq_true rfl⟩) (pre_S hS hz ha trivial) rfl rfl hl.1 rfl (lv_room (Nat.le_of_ble_eq_true rfl)) d_J_part_18 ⟨Nat.le_of_ble_eq_true rfl, Nat.le_of_ble_eq_true rfl⟩) hS (fun q _ h => h.elim) (fun q h => h.elim) (fun q h1 h2 => absurd h1 (Nat.not_lt.mpr h2)) (fun E ce q9 u t H1 locs ht hal hpx hBX hsz hk hS hce hcv hcl => ?_) (fun u t H1 locs ht hvm hw hB hz1 hk1 hS => ?_)
    · obtain ⟨hE, hkp⟩ := hBX
      exact vx_out (fun x h => (htab x h).elim) hlocks hce hcv hcl (fun t2 ht2 hal2 => ⟨(), trivial, ⟨Or.inl ⟨hE.1, bad_1.mp (Or.inr hE.2)⟩, (kpt.mv (ht.trans ht2.symm) hkp)⟩, (kpt.mv (ht.trans ht2.symm) hkp).1, fun q hq _ => (kpt.mv (ht.trans ht2.symm) hkp).2 q hq⟩) hS.2.2 (Nat.le_of_ble_eq_true rfl) (Nat.le_of_ble_eq_true rfl)
    · obtain rfl := hB.symm.trans ht
      have hnb : ¬ (bad6 (-1000) (nI 1000) x y zz w hh dd) := fun q => (bad_1.mpr q).elim hpl hw
      refine lv_aload_n hx hb d_J_part_21 rfl (lv_at hl 0 rfl) ?_
      refine va_get (D := g.1) (ci := 1) (v := .int (nI (np))) (C := R_J) (T := F_J) (N := 14) hx hb htB in_J hown ha.1 hP 0 rfl rfl 1 (by decide) (htB _ kw_41) (fun _ h9 => h9) hf1 d_J_part_22 ?_
      refine lv_bipush (v := (nI (8))) hx hb d_J_part_25 (by decide) ?_
      refine jv_icmp_lt (tgt := 40) hx hb (by omega) (by omega) d_J_part_27 (by decide) (fun c_3 => ?_) (fun c_3 => ?_)
      · refine lv_aload_n hx hb d_J_part_40 rfl (lv_at hl 0 rfl) ?_
        refine lv_iload_n hx hb d_J_part_41 rfl (lv_at hl 1 rfl) ?_
        refine lv_iload_n hx hb d_J_part_42 rfl (lv_at hl 2 rfl) ?_
        refine lv_iload_n hx hb d_J_part_43 rfl (lv_at hl 3 rfl) ?_
        refine lv_iload hx hb d_J_part_44 (lv_at hl 4 rfl) ?_
        refine lv_iload hx hb d_J_part_46 (lv_at hl 5 rfl) ?_
        refine lv_iload hx hb d_J_part_48 (lv_at hl 6 rfl) ?_
        have hPc := hP.sub (ws' := [(h, .inr (1, fs)), (tl, eI g 6 (ft))]) [0, 3] rfl
        have hDc := hD.sub (ws' := [(h, .inr (1, fs)), (tl, eI g 6 (ft))]) [0, 3] (by decide) rfl
        have hFc := va_free (wc := [(h, .inr (1, fs)), (tl, eI g 6 (ft))]) hD hS hA [0, 3] rfl
        refine va_callv (va_runV (As := [.int (x), .int (y), .int (zz), .int (w), .int (hh), .int (dd)]) (rest := []) ⟨hx, hb, hml, hown, htB⟩ (m_J_setTool l g z _ h (fs) tl (ft) (x) (y) (zz) (w) (hh) (dd)) (cwV 6 htB (gV kw_222 kw_224 ks_0_2 kw_1 g_J_setTool) rfl rfl rfl (by decide +kernel) ⟨Nat.le_of_ble_eq_true rfl, Nat.le_of_ble_eq_true rfl⟩) (pre_V hS hz ha (va_recv ha.1 hP (ci := 1) (q0 := 0) rfl rfl) ⟨hPc, hDc.weaken (fun _ _ _ h => hz _ h), hf10⟩) rfl rfl hl.1 rfl (lv_room (Nat.le_of_ble_eq_true rfl)) d_J_part_50 ⟨Nat.le_of_ble_eq_true rfl, Nat.le_of_ble_eq_true rfl⟩) hS (fun q _ h => hFc q h) hFc (fun u_5 t H1 locs ht hvm hw hB hz1 hk1 hS => ?_)
        obtain ⟨hP1, hD1⟩ := hB
        rw [ht] at hP1
        obtain ⟨hP, hD⟩ := va_join (wr := [(pa, ePS g 8 (gp)), (ak, eI g 48 (sk))]) (w1 := [(h, .inr (1, fs)), (tl, eI g 6 (st6 (ft) (x) (y) (zz) ((x) + (w)) ((y) + (hh)) ((zz) + (dd))))]) hP hD [0, 3] [1, 2] rfl rfl (by decide) (by decide) hk1 hFc hP1 hD1
        clear hPc hDc hFc hP1 hD1 hk1 hz1 hvm ht
        generalize H1 = H at hP hS ⊢
        have hP : va_P g.1 cls [(pa, ePS g 8 (gp)), (ak, eI g 48 (sk)), (h, .inr (1, fs)), (tl, eI g 6 (st6 (ft) (x) (y) (zz) ((x) + (w)) ((y) + (hh)) ((zz) + (dd))))] H := hP
        have hD : va_D A [(pa, ePS g 8 (gp)), (ak, eI g 48 (sk)), (h, .inr (1, fs)), (tl, eI g 6 (st6 (ft) (x) (y) (zz) ((x) + (w)) ((y) + (hh)) ((zz) + (dd))))] := hD
        refine lv_aload_n hx hb d_J_part_53 rfl (lv_at hl 0 rfl) ?_
        refine va_get (D := g.1) (ci := 1) (v := .ref tl) (C := R_J) (T := F_J) (N := 14) hx hb htB in_J hown ha.1 hP 2 rfl rfl 10 (by decide) (htB _ kw_50) (fun _ h9 => h9) hf10 d_J_part_54 ?_
        refine lv_iconst (v := (nI (0))) hx hb d_J_part_57 (by decide) ?_
        refine lv_aload_n hx hb d_J_part_58 rfl (lv_at hl 0 rfl) ?_
        refine va_get (D := g.1) (ci := 1) (v := .ref ak) (C := R_J) (T := F_J) (N := 14) hx hb htB in_J hown ha.1 hP 2 rfl rfl 2 (by decide) (htB _ kw_42) (fun _ h9 => h9) hf2 d_J_part_59 ?_
        refine lv_aload_n hx hb d_J_part_62 rfl (lv_at hl 0 rfl) ?_
        refine va_get (D := g.1) (ci := 1) (v := .int (nI (np))) (C := R_J) (T := F_J) (N := 14) hx hb htB in_J hown ha.1 hP 2 rfl rfl 1 (by decide) (htB _ kw_41) (fun _ h9 => h9) hf1 d_J_part_63 ?_
        refine lv_bipush (v := (nI (6))) hx hb d_J_part_66 (by decide) ?_
        refine jv_imul hx hb d_J_part_68 ?_
        refine lv_bipush (v := (nI (6))) hx hb d_J_part_69 (by decide) ?_
        refine ja_copy (sp := 0) (dp := np * 6) (n := 6) (own := "JointSolids") hx hb (hml.trans hl.1.symm) hown (htB _ kw_226) (htB _ kw_228) (htB _ kw_227) (htB _ kw_10) ha.1 hP hD hS 3 1 0 0 rfl rfl rfl rfl (by omega) (by omega) (by omega) (by omega) (Nat.le_of_ble_eq_true rfl) (Nat.le_of_ble_eq_true rfl) d_J_part_71 (fun H locs hP hD hS => ?_)
        have hP : va_P g.1 cls [(pa, ePS g 8 (gp)), (ak, eI g 48 (va_cpy (st6 (ft) (x) (y) (zz) ((x) + (w)) ((y) + (hh)) ((zz) + (dd))) (sk) (0) (np * 6) (6))), (h, .inr (1, fs)), (tl, eI g 6 (st6 (ft) (x) (y) (zz) ((x) + (w)) ((y) + (hh)) ((zz) + (dd))))] H := hP
        have hD : va_D A [(pa, ePS g 8 (gp)), (ak, eI g 48 (va_cpy (st6 (ft) (x) (y) (zz) ((x) + (w)) ((y) + (hh)) ((zz) + (dd))) (sk) (0) (np * 6) (6))), (h, .inr (1, fs)), (tl, eI g 6 (st6 (ft) (x) (y) (zz) ((x) + (w)) ((y) + (hh)) ((zz) + (dd))))] := hD
        refine va_new (D := g.1) (ci := 0) (fs := [.null, .int (nI (0))]) (C := R_S) (T := F_S) (N := 2) hx hb htB in_S t_S t_S_ok hown (htB _ kw_21) (htB _ kw_25) (htB _ kw_2) ha.1 hP hD hS hA rfl (fun j hj => by rcases (show j = 0 ∨ j = 1 by omega) with rfl | rfl <;> rfl) (Nat.le_of_ble_eq_true rfl) (Nat.le_of_ble_eq_true rfl) d_J_part_74 (fun q74 H hP hD hS => ?_)
        have hP : va_P g.1 cls [(pa, ePS g 8 (gp)), (ak, eI g 48 (va_cpy (st6 (ft) (x) (y) (zz) ((x) + (w)) ((y) + (hh)) ((zz) + (dd))) (sk) (0) (np * 6) (6))), (h, .inr (1, fs)), (tl, eI g 6 (st6 (ft) (x) (y) (zz) ((x) + (w)) ((y) + (hh)) ((zz) + (dd)))), (q74, .inr (0, [.null, .int (nI (0))]))] H := hP
        have hD : va_D A [(pa, ePS g 8 (gp)), (ak, eI g 48 (va_cpy (st6 (ft) (x) (y) (zz) ((x) + (w)) ((y) + (hh)) ((zz) + (dd))) (sk) (0) (np * 6) (6))), (h, .inr (1, fs)), (tl, eI g 6 (st6 (ft) (x) (y) (zz) ((x) + (w)) ((y) + (hh)) ((zz) + (dd)))), (q74, .inr (0, [.null, .int (nI (0))]))] := hD
        refine lv_dup hx hb d_J_part_77 rfl ?_
        have hPc := hP.sub (ws' := [(q74, .inr (0, [.null, .int (nI (0))]))]) [4] rfl
        have hDc := hD.sub (ws' := [(q74, .inr (0, [.null, .int (nI (0))]))]) [4] (by decide) rfl
        have hFc := va_free (wc := [(q74, .inr (0, [.null, .int (nI (0))]))]) hD hS hA [4] rfl
        refine va_callv (va_runIN (As := []) (rest := [.ref q74]) ⟨hx, hb, hml, hown, htB⟩ (m_S_init l g z _ q74) ⟨va_cnB 0 htB g_S_init rfl rfl rfl (ha.2.1 _ nb_0) (htB _ kw_2) (by decide +kernel) ⟨Nat.le_of_ble_eq_true rfl, Nat.le_of_ble_eq_true rfl⟩, rfl, htB _ kw_27⟩ (pre_S hS hz ha ⟨hPc, hDc.weaken (fun _ _ _ h => hz _ h), trivial⟩) rfl rfl hl.1 rfl (lv_room (Nat.le_of_ble_eq_true rfl)) d_J_part_78 ⟨Nat.le_of_ble_eq_true rfl, Nat.le_of_ble_eq_true rfl⟩) hS (fun q _ h => hFc q h) hFc (fun u_7 t H1 locs ht hvm hw hB hz1 hk1 hS => ?_)
        obtain ⟨hP1, hD1⟩ := hB
        rw [ht] at hP1
        obtain ⟨hP, hD⟩ := va_join (wr := [(pa, ePS g 8 (gp)), (ak, eI g 48 (va_cpy (st6 (ft) (x) (y) (zz) ((x) + (w)) ((y) + (hh)) ((zz) + (dd))) (sk) (0) (np * 6) (6))), (h, .inr (1, fs)), (tl, eI g 6 (st6 (ft) (x) (y) (zz) ((x) + (w)) ((y) + (hh)) ((zz) + (dd))))]) (w1 := [(q74, .inr (0, [.ref u_7, .int (nI (0))])), (u_7, eI g 144 (fun _ => nI 0))]) hP hD [4] [0, 1, 2, 3] rfl rfl (by decide) (by decide) hk1 hFc hP1 hD1
        clear hPc hDc hFc hP1 hD1 hk1 hz1 hvm ht
        generalize H1 = H at hP hS ⊢
        have hP : va_P g.1 cls [(pa, ePS g 8 (gp)), (ak, eI g 48 (va_cpy (st6 (ft) (x) (y) (zz) ((x) + (w)) ((y) + (hh)) ((zz) + (dd))) (sk) (0) (np * 6) (6))), (h, .inr (1, fs)), (tl, eI g 6 (st6 (ft) (x) (y) (zz) ((x) + (w)) ((y) + (hh)) ((zz) + (dd)))), (q74, .inr (0, [.ref u_7, .int (nI (0))])), (u_7, eI g 144 (fun _ => nI 0))] H := hP
        have hD : va_D A [(pa, ePS g 8 (gp)), (ak, eI g 48 (va_cpy (st6 (ft) (x) (y) (zz) ((x) + (w)) ((y) + (hh)) ((zz) + (dd))) (sk) (0) (np * 6) (6))), (h, .inr (1, fs)), (tl, eI g 6 (st6 (ft) (x) (y) (zz) ((x) + (w)) ((y) + (hh)) ((zz) + (dd)))), (q74, .inr (0, [.ref u_7, .int (nI (0))])), (u_7, eI g 144 (fun _ => nI 0))] := hD
        refine lv_astore (lv' := [(7, .ref q74), (0, .ref h), (1, .int (x)), (2, .int (y)), (3, .int (zz)), (4, .int (w)), (5, .int (hh)), (6, .int (dd))]) hx hb d_J_part_81 hl (by decide) rfl (fun ls hl => ?_)
        refine lv_aload hx hb d_J_part_83 (lv_at hl 0 rfl) ?_
        refine lv_aload_n hx hb d_J_part_85 rfl (lv_at hl 1 rfl) ?_
        refine va_get (D := g.1) (ci := 1) (v := .ref tl) (C := R_J) (T := F_J) (N := 14) hx hb htB in_J hown ha.1 hP 2 rfl rfl 10 (by decide) (htB _ kw_50) (fun _ h9 => h9) hf10 d_J_part_86 ?_
        refine lv_iconst (v := (nI (0))) hx hb d_J_part_89 (by decide) ?_
        have hPc := hP.sub (ws' := [(q74, .inr (0, [.ref u_7, .int (nI (0))])), (u_7, eI g 144 (fun _ => nI 0)), (tl, eI g 6 (st6 (ft) (x) (y) (zz) ((x) + (w)) ((y) + (hh)) ((zz) + (dd))))]) [4, 5, 3] rfl
        have hDc := hD.sub (ws' := [(q74, .inr (0, [.ref u_7, .int (nI (0))])), (u_7, eI g 144 (fun _ => nI 0)), (tl, eI g 6 (st6 (ft) (x) (y) (zz) ((x) + (w)) ((y) + (hh)) ((zz) + (dd))))]) [4, 5, 3] (by decide) rfl
        have hFc := va_free (wc := [(q74, .inr (0, [.ref u_7, .int (nI (0))])), (u_7, eI g 144 (fun _ => nI 0)), (tl, eI g 6 (st6 (ft) (x) (y) (zz) ((x) + (w)) ((y) + (hh)) ((zz) + (dd))))]) hD hS hA [4, 5, 3] rfl
        refine va_callv (va_runVN (As := [.ref tl, .int (nI (0))]) (rest := []) ⟨hx, hb, hml, hown, htB⟩ (m_S_add l g z _ q74 u_7 (0) tl 6 (0) (fun _ => nI 0) (st6 (ft) (x) (y) (zz) ((x) + (w)) ((y) + (hh)) ((zz) + (dd)))) ⟨va_cnB 2 htB g_S_add rfl rfl rfl (ha.2.1 _ nb_12) (htB _ kw_2) (by decide +kernel) ⟨Nat.le_of_ble_eq_true rfl, Nat.le_of_ble_eq_true rfl⟩, htB _ kw_231, htB _ ks_0_3⟩ (pre_V hS hz ha (va_recv ha.1 hP (ci := 0) (q0 := 4) rfl rfl) ⟨hPc, hDc.weaken (fun _ _ _ h => hz _ h), ⟨by omega, by omega, by omega⟩⟩) rfl rfl hl.1 rfl (lv_room (Nat.le_of_ble_eq_true rfl)) d_J_part_90 ⟨Nat.le_of_ble_eq_true rfl, Nat.le_of_ble_eq_true rfl⟩) hS (fun q _ h => hFc q h) hFc (fun u_9 t H1 locs ht hvm hw hB hz1 hk1 hS => ?_)
        obtain ⟨hP1, hD1⟩ := hB
        rw [ht] at hP1
        obtain ⟨hP, hD⟩ := va_join (wr := [(pa, ePS g 8 (gp)), (ak, eI g 48 (va_cpy (st6 (ft) (x) (y) (zz) ((x) + (w)) ((y) + (hh)) ((zz) + (dd))) (sk) (0) (np * 6) (6))), (h, .inr (1, fs))]) (w1 := [(q74, .inr (0, [.ref u_7, .int (nI ((0) + 1))])), (u_7, eI g 144 (adB (fun _ => nI 0) (0) (st6 (ft) (x) (y) (zz) ((x) + (w)) ((y) + (hh)) ((zz) + (dd))) (0))), (tl, eI g 6 (st6 (ft) (x) (y) (zz) ((x) + (w)) ((y) + (hh)) ((zz) + (dd))))]) hP hD [4, 5, 3] [0, 1, 2] rfl rfl (by decide) (by decide) hk1 hFc hP1 hD1
        clear hPc hDc hFc hP1 hD1 hk1 hz1 hvm ht
        generalize H1 = H at hP hS ⊢
        have hP : va_P g.1 cls [(pa, ePS g 8 (gp)), (ak, eI g 48 (va_cpy (st6 (ft) (x) (y) (zz) ((x) + (w)) ((y) + (hh)) ((zz) + (dd))) (sk) (0) (np * 6) (6))), (h, .inr (1, fs)), (q74, .inr (0, [.ref u_7, .int (nI ((0) + 1))])), (u_7, eI g 144 (adB (fun _ => nI 0) (0) (st6 (ft) (x) (y) (zz) ((x) + (w)) ((y) + (hh)) ((zz) + (dd))) (0))), (tl, eI g 6 (st6 (ft) (x) (y) (zz) ((x) + (w)) ((y) + (hh)) ((zz) + (dd))))] H := hP
        have hD : va_D A [(pa, ePS g 8 (gp)), (ak, eI g 48 (va_cpy (st6 (ft) (x) (y) (zz) ((x) + (w)) ((y) + (hh)) ((zz) + (dd))) (sk) (0) (np * 6) (6))), (h, .inr (1, fs)), (q74, .inr (0, [.ref u_7, .int (nI ((0) + 1))])), (u_7, eI g 144 (adB (fun _ => nI 0) (0) (st6 (ft) (x) (y) (zz) ((x) + (w)) ((y) + (hh)) ((zz) + (dd))) (0))), (tl, eI g 6 (st6 (ft) (x) (y) (zz) ((x) + (w)) ((y) + (hh)) ((zz) + (dd))))] := hD
        refine lv_aload_n hx hb d_J_part_93 rfl (lv_at hl 1 rfl) ?_
        refine va_get (D := g.1) (ci := 1) (v := .ref pa) (C := R_J) (T := F_J) (N := 14) hx hb htB in_J hown ha.1 hP 2 rfl rfl 0 (by decide) (htB _ kw_40) (fun _ h9 => h9) hf0 d_J_part_94 ?_
        refine lv_aload_n hx hb d_J_part_97 rfl (lv_at hl 1 rfl) ?_
        refine va_get (D := g.1) (ci := 1) (v := .int (nI (np))) (C := R_J) (T := F_J) (N := 14) hx hb htB in_J hown ha.1 hP 2 rfl rfl 1 (by decide) (htB _ kw_41) (fun _ h9 => h9) hf1 d_J_part_98 ?_
        refine lv_aload hx hb d_J_part_101 (lv_at hl 0 rfl) ?_
        refine ja_astq (k := np) hx hb ha.1 hP hD hS 0 2 3 0 rfl rfl rfl rfl (by omega) (by omega) d_J_part_103 (fun H locs hP hD hS => ?_)
        have hP : va_P g.1 cls [(pa, ePS g 8 (va_up (gp) (np) (some q74))), (ak, eI g 48 (va_cpy (st6 (ft) (x) (y) (zz) ((x) + (w)) ((y) + (hh)) ((zz) + (dd))) (sk) (0) (np * 6) (6))), (h, .inr (1, fs)), (q74, .inr (0, [.ref u_7, .int (nI ((0) + 1))])), (u_7, eI g 144 (adB (fun _ => nI 0) (0) (st6 (ft) (x) (y) (zz) ((x) + (w)) ((y) + (hh)) ((zz) + (dd))) (0))), (tl, eI g 6 (st6 (ft) (x) (y) (zz) ((x) + (w)) ((y) + (hh)) ((zz) + (dd))))] H := hP
        have hD : va_D A [(pa, ePS g 8 (va_up (gp) (np) (some q74))), (ak, eI g 48 (va_cpy (st6 (ft) (x) (y) (zz) ((x) + (w)) ((y) + (hh)) ((zz) + (dd))) (sk) (0) (np * 6) (6))), (h, .inr (1, fs)), (q74, .inr (0, [.ref u_7, .int (nI ((0) + 1))])), (u_7, eI g 144 (adB (fun _ => nI 0) (0) (st6 (ft) (x) (y) (zz) ((x) + (w)) ((y) + (hh)) ((zz) + (dd))) (0))), (tl, eI g 6 (st6 (ft) (x) (y) (zz) ((x) + (w)) ((y) + (hh)) ((zz) + (dd))))] := hD
        refine lv_aload_n hx hb d_J_part_104 rfl (lv_at hl 1 rfl) ?_
        refine lv_dup hx hb d_J_part_105 rfl ?_
        refine va_get (D := g.1) (ci := 1) (v := .int (nI (np))) (C := R_J) (T := F_J) (N := 14) hx hb htB in_J hown ha.1 hP 2 rfl rfl 1 (by decide) (htB _ kw_41) (fun _ h9 => h9) hf1 d_J_part_106 ?_
        refine lv_iconst (v := (nI (1))) hx hb d_J_part_109 (by decide) ?_
        refine jv_iadd hx hb d_J_part_110 ?_
        refine va_put (D := g.1) (ci := 1) (v := .int (nI (np + 1))) (ty := .int) (C := R_J) (T := F_J) (N := 14) hx hb htB in_J t_J t_J_ok n_J hown ha.1 hP hD hS 2 rfl rfl 1 (by decide) (htB _ kw_41) (fun _ h9 => h9) rfl (by decide +kernel) rfl rfl (by rw [hlen]; decide) d_J_part_111 (fun H locs hP hD hS => ?_)
        have hP : va_P g.1 cls [(pa, ePS g 8 (va_up (gp) (np) (some q74))), (ak, eI g 48 (va_cpy (st6 (ft) (x) (y) (zz) ((x) + (w)) ((y) + (hh)) ((zz) + (dd))) (sk) (0) (np * 6) (6))), (h, .inr (1, (fs).set 1 (.int (nI (np + 1))))), (q74, .inr (0, [.ref u_7, .int (nI ((0) + 1))])), (u_7, eI g 144 (adB (fun _ => nI 0) (0) (st6 (ft) (x) (y) (zz) ((x) + (w)) ((y) + (hh)) ((zz) + (dd))) (0))), (tl, eI g 6 (st6 (ft) (x) (y) (zz) ((x) + (w)) ((y) + (hh)) ((zz) + (dd))))] H := hP
        have hD : va_D A [(pa, ePS g 8 (va_up (gp) (np) (some q74))), (ak, eI g 48 (va_cpy (st6 (ft) (x) (y) (zz) ((x) + (w)) ((y) + (hh)) ((zz) + (dd))) (sk) (0) (np * 6) (6))), (h, .inr (1, (fs).set 1 (.int (nI (np + 1))))), (q74, .inr (0, [.ref u_7, .int (nI ((0) + 1))])), (u_7, eI g 144 (adB (fun _ => nI 0) (0) (st6 (ft) (x) (y) (zz) ((x) + (w)) ((y) + (hh)) ((zz) + (dd))) (0))), (tl, eI g 6 (st6 (ft) (x) (y) (zz) ((x) + (w)) ((y) + (hh)) ((zz) + (dd))))] := hD
        refine lv_aload_n hx hb d_J_part_114 rfl (lv_at hl 1 rfl) ?_
        refine va_get (D := g.1) (ci := 1) (v := .int (nI (np + 1))) (C := R_J) (T := F_J) (N := 14) hx hb htB in_J hown ha.1 hP 2 rfl rfl 1 (by decide) (htB _ kw_41) (fun _ h9 => h9) (gset_eq hlen (by decide)) d_J_part_115 ?_
        refine lv_iconst (v := (nI (1))) hx hb d_J_part_118 (by decide) ?_
        refine jv_isub hx hb (by omega) d_J_part_119 ?_
        have hP9 := hP.sub (ws' := [(h, .inr (1, (fs).set 1 (.int (nI (np + 1))))), (pa, ePS g 8 (va_up (gp) (np) (some q74))), (ak, eI g 48 (va_cpy (st6 (ft) (x) (y) (zz) ((x) + (w)) ((y) + (hh)) ((zz) + (dd))) (sk) (0) (np * 6) (6))), (tl, eI g 6 (st6 (ft) (x) (y) (zz) ((x) + (w)) ((y) + (hh)) ((zz) + (dd)))), (q74, .inr (0, [.ref u_7, .int (nI ((0) + 1))])), (u_7, eI g 144 (adB (fun _ => nI 0) (0) (st6 (ft) (x) (y) (zz) ((x) + (w)) ((y) + (hh)) ((zz) + (dd))) (0)))]) [2, 0, 1, 5, 3, 4] rfl
        have hD9 := hD.sub (ws' := [(h, .inr (1, (fs).set 1 (.int (nI (np + 1))))), (pa, ePS g 8 (va_up (gp) (np) (some q74))), (ak, eI g 48 (va_cpy (st6 (ft) (x) (y) (zz) ((x) + (w)) ((y) + (hh)) ((zz) + (dd))) (sk) (0) (np * 6) (6))), (tl, eI g 6 (st6 (ft) (x) (y) (zz) ((x) + (w)) ((y) + (hh)) ((zz) + (dd)))), (q74, .inr (0, [.ref u_7, .int (nI ((0) + 1))])), (u_7, eI g 144 (adB (fun _ => nI 0) (0) (st6 (ft) (x) (y) (zz) ((x) + (w)) ((y) + (hh)) ((zz) + (dd))) (0)))]) [2, 0, 1, 5, 3, 4] (by decide) rfl
        exact vx_ret (W.widen (k := 4) (n := 158) (Nat.le_of_ble_eq_true rfl) (Nat.le_of_ble_eq_true rfl) (W.iret (v := (nI ((np + 1) - 1))) hx hb hr (fun t ht hW => ⟨⟨(nI ((np + 1) - 1)), (q74, u_7), rfl, ⟨hnb, by omega, by rw [Nat.add_sub_cancel]⟩, by rw [ht]; exact hP9, hD9.re [h, pa, ak, tl, q74, u_7] rfl rfl⟩, hS.F ht⟩) hS.2.2 d_J_part_120))
      · exact thr_ISE hx hb hlt hown htB ha hz sB_64 hS (hl.1.trans hml.symm) htab d_J_part_30 d_J_part_33 d_J_part_34 d_J_part_36 d_J_part_39 (Nat.le_of_ble_eq_true rfl) (Nat.le_of_ble_eq_true rfl) (Nat.le_of_ble_eq_true rfl) (Nat.le_of_ble_eq_true rfl) hlocks (fun t _ h1 h2 => ⟨(), trivial, ⟨Or.inr ⟨rfl, hnb, by omega⟩, h1, h2⟩, h1, fun q hq _ => h2 q hq⟩) hS.2.2 (Nat.le_of_ble_eq_true rfl) (Nat.le_of_ble_eq_true rfl)
theorem cut_falls {f f2 : Nat → Int32} {n n2 : Nat} {L : List Bx} {T : Bx} (hR : sR f n L) (hok : okL L) (hT : okB T) (hR2 : sR f2 n2 (cutL T L)) : totS f2 n2 < totS f n ↔ ∃ b ∈ L, mt b T := by
  rw [totS_L, totS_L, hR.2.2, hR2.2.2]
  exact tot_falls hT hok (by rw [← hR.1]; have := hR.2.1; omega) (by rw [← hR2.1]; have := hR2.2.1; omega)
set_option maxHeartbeats 4000000 in
set_option maxRecDepth 100000 in
theorem m_J_cut (l : Launch) (hlt : l.stackTraces = false) (g : gT) (z : Nat) (H0 : Heap) (h : Nat) (fs : List Value) (pa tl re sp bs so bo j ns no : Nat) (gp : Nat → Option Nat) (ft r fsp fo : Nat → Int32) (L : List Bx) (x y zz w hh dd : Int32) : vx_Met l y_J_cut w_J_cut ({ frames := 7, cells := 3, slots := 18, locals := 134 }) (va_Pc [.ref h, .int (nI (j)), .int (x), .int (y), .int (zz), .int (w), .int (hh), .int (dd)] (pB g z H0 (va_P g.1 cls [(h, .inr (1, fs)), (pa, ePS g 8 (gp)), (tl, eI g 6 (ft)), (re, eI g 6 (r)), (sp, .inr (0, [.ref bs, .int (nI (ns))])), (bs, eI g 144 (fsp)), (so, .inr (0, [.ref bo, .int (nI (no))])), (bo, eI g 144 (fo))] H0 ∧ va_D (zA z) [(h, .inr (1, fs)), (pa, ePS g 8 (gp)), (tl, eI g 6 (ft)), (re, eI g 6 (r)), (sp, .inr (0, [.ref bs, .int (nI (ns))])), (bs, eI g 144 (fsp)), (so, .inr (0, [.ref bo, .int (nI (no))])), (bo, eI g 144 (fo))] ∧ (fs[0]? = some (.ref pa) ∧ fs[9]? = some (.ref sp) ∧ fs[10]? = some (.ref tl) ∧ fs[11]? = some (.ref re) ∧ j < 8 ∧ gp j = some so ∧ sR fo no L ∧ okL L)))) (va_Qi (fun (rr : Int32) (u : Nat × Nat × (Nat → Int32) × (Nat → Int32) × (Nat → Int32) × (Nat → Int32)) => ¬ (bad6 (-2000) (nI 2000) x y zz w hh dd) ∧ (cutL (x, y, zz, x + w, y + hh, zz + dd) L).length ≤ 24 ∧ sR u.2.2.2.2.2 u.2.1 (cutL (x, y, zz, x + w, y + hh, zz + dd) L) ∧ (rr = nI 1 ∧ (∃ b ∈ L, mt b (x, y, zz, x + w, y + hh, zz + dd)) ∨ rr = nI 0 ∧ ¬ ∃ b ∈ L, mt b (x, y, zz, x + w, y + hh, zz + dd))) (fun (u : Nat × Nat × (Nat → Int32) × (Nat → Int32) × (Nat → Int32) × (Nat → Int32)) t => va_P g.1 cls [(h, .inr (1, fs)), (pa, ePS g 8 (gp)), (tl, eI g 6 (u.2.2.1)), (re, eI g 6 (u.2.2.2.1)), (sp, .inr (0, [.ref bs, .int (nI (u.1))])), (bs, eI g 144 (u.2.2.2.2.1)), (so, .inr (0, [.ref bo, .int (nI (u.2.1))])), (bo, eI g 144 (u.2.2.2.2.2))] t.heap ∧ va_D (va_A [(h, .inr (1, fs)), (pa, ePS g 8 (gp)), (tl, eI g 6 (ft)), (re, eI g 6 (r)), (sp, .inr (0, [.ref bs, .int (nI (ns))])), (bs, eI g 144 (fsp)), (so, .inr (0, [.ref bo, .int (nI (no))])), (bo, eI g 144 (fo))] H0.size) [(h, .inr (1, fs)), (pa, ePS g 8 (gp)), (tl, eI g 6 (u.2.2.1)), (re, eI g 6 (u.2.2.2.1)), (sp, .inr (0, [.ref bs, .int (nI (u.1))])), (bs, eI g 144 (u.2.2.2.2.1)), (so, .inr (0, [.ref bo, .int (nI (u.2.1))])), (bo, eI g 144 (u.2.2.2.2.2))]) (va_A [(h, .inr (1, fs)), (pa, ePS g 8 (gp)), (tl, eI g 6 (ft)), (re, eI g 6 (r)), (sp, .inr (0, [.ref bs, .int (nI (ns))])), (bs, eI g 144 (fsp)), (so, .inr (0, [.ref bo, .int (nI (no))])), (bo, eI g 144 (fo))] H0.size)) (vx_X (fun (_ : Nat × (Nat → Int32) × (Nat → Int32) × (Nat → Int32)) => True) (fun E (u : Nat × (Nat → Int32) × (Nat → Int32) × (Nat → Int32)) t => (E = E_IAE ∧ (bad6 (-2000) (nI 2000) x y zz w hh dd) ∨ E = E_ISE ∧ ¬ (bad6 (-2000) (nI 2000) x y zz w hh dd) ∧ ¬ (cutL (x, y, zz, x + w, y + hh, zz + dd) L).length ≤ 24) ∧ va_P g.1 cls [(h, .inr (1, fs)), (pa, ePS g 8 (gp)), (tl, eI g 6 (u.2.1)), (re, eI g 6 (u.2.2.1)), (sp, .inr (0, [.ref bs, .int (nI (u.1))])), (bs, eI g 144 (u.2.2.2)), (so, .inr (0, [.ref bo, .int (nI (no))])), (bo, eI g 144 (fo))] t.heap ∧ va_D (va_A [(h, .inr (1, fs)), (pa, ePS g 8 (gp)), (tl, eI g 6 (ft)), (re, eI g 6 (r)), (sp, .inr (0, [.ref bs, .int (nI (ns))])), (bs, eI g 144 (fsp)), (so, .inr (0, [.ref bo, .int (nI (no))])), (bo, eI g 144 (fo))] H0.size) [(h, .inr (1, fs)), (pa, ePS g 8 (gp)), (tl, eI g 6 (u.2.1)), (re, eI g 6 (u.2.2.1)), (sp, .inr (0, [.ref bs, .int (nI (u.1))])), (bs, eI g 144 (u.2.2.2)), (so, .inr (0, [.ref bo, .int (nI (no))])), (bo, eI g 144 (fo))]) (va_A [(h, .inr (1, fs)), (pa, ePS g 8 (gp)), (tl, eI g 6 (ft)), (re, eI g 6 (r)), (sp, .inr (0, [.ref bs, .int (nI (ns))])), (bs, eI g 144 (fsp)), (so, .inr (0, [.ref bo, .int (nI (no))])), (bo, eI g 144 (fo))] H0.size)) 3 18 (va_A [(h, .inr (1, fs)), (pa, ePS g 8 (gp)), (tl, eI g 6 (ft)), (re, eI g 6 (r)), (sp, .inr (0, [.ref bs, .int (nI (ns))])), (bs, eI g 144 (fsp)), (so, .inr (0, [.ref bo, .int (nI (no))])), (bo, eI g 144 (fo))] H0.size) := by
  refine vx_ofW (cc := c_J_cut) (maxL := 11) (ret := (some .boolean)) (by decide) rfl ?_
  intro p e s m args below meth c s₁ B hml htab hv
  obtain ⟨rfl, hH0, ha, hP, hD0, hf0, hf9, hf10, hf11, hj8, hgj, hR, hok⟩ := hv
  have hx := B.exec
  have hb := B.bytes
  have hr := B.returns
  have htB : ∀ w ∈ tB, w.before _ s = true := fun w h => atoms_spec (ws := w_J_cut) B.pre w (List.mem_cons_of_mem _ h)
  have hown : s.vm.findClass "JointSolids" = some m.cls := findClass_of_methodNamed B.named
  have hlocks := B.notSynchronized
  subst hH0
  have hD := hD0.self (sz := s.heap.size)
  have hz := aA_z hD0 ha.2.2.2.2.2
  generalize hAe : va_A [(h, .inr (1, fs)), (pa, ePS g 8 (gp)), (tl, eI g 6 (ft)), (re, eI g 6 (r)), (sp, .inr (0, [.ref bs, .int (nI (ns))])), (bs, eI g 144 (fsp)), (so, .inr (0, [.ref bo, .int (nI (no))])), (bo, eI g 144 (fo))] s.heap.size = A at hD hz ⊢
  have hA : ∀ q : Nat, s.heap.size ≤ q → A q := fun q h => by rw [← hAe]; exact Or.inr h
  have hS : va_S A s.heap s.heap [] := va_S.rf
  have hno := hR.2.1
  have hl := lv_entry ([.ref h, .int (nI (j)), .int (x), .int (y), .int (zz), .int (w), .int (hh), .int (dd)]) (n := 11) (Nat.le_of_ble_eq_true rfl)
  rw [lg_entry_eq]
  generalize (lg_sl ([.ref h, .int (nI (j)), .int (x), .int (y), .int (zz), .int (w), .int (hh), .int (dd)]) ++ List.replicate (11 - (lg_sl ([.ref h, .int (nI (j)), .int (x), .int (y), .int (zz), .int (w), .int (hh), .int (dd)])).length) Slot.unset).toArray = ls at hl ⊢
  have hl : lv_has ls 11 [(0, .ref h), (1, .int (nI (j))), (2, .int (x)), (3, .int (y)), (4, .int (zz)), (5, .int (w)), (6, .int (hh)), (7, .int (dd))] := hl
  refine lv_aload_n hx hb d_J_cut_0 rfl (lv_at hl 0 rfl) ?_
  refine lv_iload_n hx hb d_J_cut_1 rfl (lv_at hl 1 rfl) ?_
  refine va_callr (va_runV (As := [.int (nI (j))]) (rest := []) ⟨hx, hb, hml, hown, htB⟩ (p_J_solidOf l g z _ h fs pa gp (j) so) (cwV 1 htB (gV kw_87 kw_89 ks_0_0 kw_1 g_J_solidOf) rfl rfl rfl (by decide +kernel) ⟨by decide, by decide⟩) (pre_V hS hz ha (va_recv ha.1 hP (ci := 1) (q0 := 0) rfl rfl) ⟨va_pair (hP 0 _ rfl) (hP 1 _ rfl), hf0, hj8, hgj⟩) rfl rfl hl.1 rfl (lv_room (Nat.le_of_ble_eq_true rfl)) d_J_cut_2 ⟨by decide, by decide⟩) hS (fun q _ h => h.elim) (fun q h => h.elim) (fun u r_1 t H1 locs ht hvm hw hB hz1 hk1 hS => ?_)
  obtain ⟨hans, hB⟩ := hB
  rw [hans]
  obtain rfl := hB.symm.trans ht
  refine lv_astore (lv' := [(8, .ref so), (0, .ref h), (1, .int (nI (j))), (2, .int (x)), (3, .int (y)), (4, .int (zz)), (5, .int (w)), (6, .int (hh)), (7, .int (dd))]) hx hb d_J_cut_5 hl (by decide) rfl (fun ls hl => ?_)
  refine lv_sipush (v := (nI (2000))) hx hb d_J_cut_7 (by decide) ?_
  refine lv_iload_n hx hb d_J_cut_10 rfl (lv_at hl 3 rfl) ?_
  refine lv_iload_n hx hb d_J_cut_11 rfl (lv_at hl 4 rfl) ?_
  refine lv_iload hx hb d_J_cut_12 (lv_at hl 5 rfl) ?_
  refine vx_callv (vx_runS (As := [.int (nI (2000)), .int (x), .int (y), .int (zz)]) (rest := []) ⟨hx, hb, hml, hown, htB⟩ (x_J_needPlaces l hlt g z _ (2000) (x) (y) (zz)) (va_cwS 4 htB (gS kw_183 kw_184 kw_1 g_J_needPlaces) rfl rfl rfl (by decide +kernel) ⟨Nat.le_of_ble_eq_true rfl, Nat.le_of_ble_eq_true rfl⟩) (pre_S hS hz ha trivial) rfl rfl hl.1 rfl (lv_room (Nat.le_of_ble_eq_true rfl)) d_J_cut_14 ⟨Nat.le_of_ble_eq_true rfl, Nat.le_of_ble_eq_true rfl⟩) hS (fun q _ h => h.elim) (fun q h => h.elim) (fun q h1 h2 => absurd h1 (Nat.not_lt.mpr h2)) (fun E ce q9 u t H1 locs ht hal hpx hBX hsz hk hS hce hcv hcl => ?_) (fun u t H1 locs ht hvm hw hB hz1 hk1 hS => ?_)
  · obtain ⟨hE, hkp⟩ := hBX
    exact vx_out (fun x h => (htab x h).elim) hlocks hce hcv hcl (fun t2 ht2 hal2 => ⟨(ns, ft, r, fsp), trivial, ⟨Or.inl ⟨hE.1, bad_2.mp (Or.inl hE.2)⟩, kp_P hP (kpt.mv (ht.trans ht2.symm) hkp).2, hD.re [h, pa, tl, re, sp, bs, so, bo] rfl rfl⟩, (kpt.mv (ht.trans ht2.symm) hkp).1, fun q hq _ => (kpt.mv (ht.trans ht2.symm) hkp).2 q hq⟩) hS.2.2 (Nat.le_of_ble_eq_true rfl) (Nat.le_of_ble_eq_true rfl)
  · obtain rfl := hB.symm.trans ht
    have hpl := hw
    refine lv_sipush (v := (nI (2000))) hx hb d_J_cut_17 (by decide) ?_
    refine lv_iload hx hb d_J_cut_20 (lv_at hl 6 rfl) ?_
    refine lv_iload hx hb d_J_cut_22 (lv_at hl 7 rfl) ?_
    refine lv_iload hx hb d_J_cut_24 (lv_at hl 8 rfl) ?_
    refine vx_callv (vx_runS (As := [.int (nI (2000)), .int (w), .int (hh), .int (dd)]) (rest := []) ⟨hx, hb, hml, hown, htB⟩ (x_J_needSizes l hlt g z _ (2000) (w) (hh) (dd)) (va_cwS 4 htB (gS kw_202 kw_203 kw_1 g_J_needSizes) rfl rfl rfl (by decide +kernel) ⟨Nat.le_of_ble_eq_true rfl, Nat.le_of_ble_eq_true rfl⟩) (pre_S hS hz ha trivial) rfl rfl hl.1 rfl (lv_room (Nat.le_of_ble_eq_true rfl)) d_J_cut_26 ⟨Nat.le_of_ble_eq_true rfl, Nat.le_of_ble_eq_true rfl⟩) hS (fun q _ h => h.elim) (fun q h => h.elim) (fun q h1 h2 => absurd h1 (Nat.not_lt.mpr h2)) (fun E ce q9 u t H1 locs ht hal hpx hBX hsz hk hS hce hcv hcl => ?_) (fun u t H1 locs ht hvm hw hB hz1 hk1 hS => ?_)
    · obtain ⟨hE, hkp⟩ := hBX
      exact vx_out (fun x h => (htab x h).elim) hlocks hce hcv hcl (fun t2 ht2 hal2 => ⟨(ns, ft, r, fsp), trivial, ⟨Or.inl ⟨hE.1, bad_2.mp (Or.inr hE.2)⟩, kp_P hP (kpt.mv (ht.trans ht2.symm) hkp).2, hD.re [h, pa, tl, re, sp, bs, so, bo] rfl rfl⟩, (kpt.mv (ht.trans ht2.symm) hkp).1, fun q hq _ => (kpt.mv (ht.trans ht2.symm) hkp).2 q hq⟩) hS.2.2 (Nat.le_of_ble_eq_true rfl) (Nat.le_of_ble_eq_true rfl)
    · obtain rfl := hB.symm.trans ht
      have hnb : ¬ (bad6 (-2000) (nI 2000) x y zz w hh dd) := fun q => (bad_2.mpr q).elim hpl hw
      refine lv_aload_n hx hb d_J_cut_29 rfl (lv_at hl 1 rfl) ?_
      refine lv_iload_n hx hb d_J_cut_30 rfl (lv_at hl 3 rfl) ?_
      refine lv_iload_n hx hb d_J_cut_31 rfl (lv_at hl 4 rfl) ?_
      refine lv_iload hx hb d_J_cut_32 (lv_at hl 5 rfl) ?_
      refine lv_iload hx hb d_J_cut_34 (lv_at hl 6 rfl) ?_
      refine lv_iload hx hb d_J_cut_36 (lv_at hl 7 rfl) ?_
      refine lv_iload hx hb d_J_cut_38 (lv_at hl 8 rfl) ?_
      have hPc := hP.sub (ws' := [(h, .inr (1, fs)), (tl, eI g 6 (ft))]) [0, 2] rfl
      have hDc := hD.sub (ws' := [(h, .inr (1, fs)), (tl, eI g 6 (ft))]) [0, 2] (by decide) rfl
      have hFc := va_free (wc := [(h, .inr (1, fs)), (tl, eI g 6 (ft))]) hD hS hA [0, 2] rfl
      refine va_callv (va_runV (As := [.int (x), .int (y), .int (zz), .int (w), .int (hh), .int (dd)]) (rest := []) ⟨hx, hb, hml, hown, htB⟩ (m_J_setTool l g z _ h (fs) tl (ft) (x) (y) (zz) (w) (hh) (dd)) (cwV 6 htB (gV kw_222 kw_224 ks_0_2 kw_1 g_J_setTool) rfl rfl rfl (by decide +kernel) ⟨Nat.le_of_ble_eq_true rfl, Nat.le_of_ble_eq_true rfl⟩) (pre_V hS hz ha (va_recv ha.1 hP (ci := 1) (q0 := 0) rfl rfl) ⟨hPc, hDc.weaken (fun _ _ _ h => hz _ h), hf10⟩) rfl rfl hl.1 rfl (lv_room (Nat.le_of_ble_eq_true rfl)) d_J_cut_40 ⟨Nat.le_of_ble_eq_true rfl, Nat.le_of_ble_eq_true rfl⟩) hS (fun q _ h => hFc q h) hFc (fun u_5 t H1 locs ht hvm hw hB hz1 hk1 hS => ?_)
      obtain ⟨hP1, hD1⟩ := hB
      rw [ht] at hP1
      obtain ⟨hP, hD⟩ := va_join (wr := [(pa, ePS g 8 (gp)), (re, eI g 6 (r)), (sp, .inr (0, [.ref bs, .int (nI (ns))])), (bs, eI g 144 (fsp)), (so, .inr (0, [.ref bo, .int (nI (no))])), (bo, eI g 144 (fo))]) (w1 := [(h, .inr (1, fs)), (tl, eI g 6 (st6 (ft) (x) (y) (zz) ((x) + (w)) ((y) + (hh)) ((zz) + (dd))))]) hP hD [0, 2] [1, 3, 4, 5, 6, 7] rfl rfl (by decide) (by decide) hk1 hFc hP1 hD1
      clear hPc hDc hFc hP1 hD1 hk1 hz1 hvm ht
      generalize H1 = H at hP hS ⊢
      have hP : va_P g.1 cls [(pa, ePS g 8 (gp)), (re, eI g 6 (r)), (sp, .inr (0, [.ref bs, .int (nI (ns))])), (bs, eI g 144 (fsp)), (so, .inr (0, [.ref bo, .int (nI (no))])), (bo, eI g 144 (fo)), (h, .inr (1, fs)), (tl, eI g 6 (st6 (ft) (x) (y) (zz) ((x) + (w)) ((y) + (hh)) ((zz) + (dd))))] H := hP
      have hD : va_D A [(pa, ePS g 8 (gp)), (re, eI g 6 (r)), (sp, .inr (0, [.ref bs, .int (nI (ns))])), (bs, eI g 144 (fsp)), (so, .inr (0, [.ref bo, .int (nI (no))])), (bo, eI g 144 (fo)), (h, .inr (1, fs)), (tl, eI g 6 (st6 (ft) (x) (y) (zz) ((x) + (w)) ((y) + (hh)) ((zz) + (dd))))] := hD
      refine lv_aload hx hb d_J_cut_43 (lv_at hl 0 rfl) ?_
      refine va_calll (va_runVN (As := []) (rest := []) ⟨hx, hb, hml, hown, htB⟩ (p_S_total l g z _ so bo (no) (fo)) ⟨va_cnB 0 htB g_S_total rfl rfl rfl (ha.2.1 _ nb_13) (htB _ kw_2) (by decide +kernel) ⟨by decide, by decide⟩, htB _ kw_244, htB _ ks_0_4⟩ (pre_V hS hz ha (va_recv ha.1 hP (ci := 0) (q0 := 4) rfl rfl) ⟨va_pair (hP 4 _ rfl) (hP 5 _ rfl), by omega⟩) rfl rfl hl.1 rfl (lv_room (Nat.le_of_ble_eq_true rfl)) d_J_cut_45 ⟨by decide, by decide⟩) hS (fun q _ h => h.elim) (fun q h => h.elim) (fun r_6 u t H1 locs ht hvm hw hB hz1 hk1 hS => ?_)
      obtain rfl := hB.symm.trans ht
      subst hw
      refine lv_lstore (lv' := [(9, .long (totS (fo) (no))), (8, .ref so), (0, .ref h), (1, .int (nI (j))), (2, .int (x)), (3, .int (y)), (4, .int (zz)), (5, .int (w)), (6, .int (hh)), (7, .int (dd))]) hx hb d_J_cut_48 hl (by decide) rfl (fun ls hl => ?_)
      refine lv_aload_n hx hb d_J_cut_50 rfl (lv_at hl 2 rfl) ?_
      refine lv_aload hx hb d_J_cut_51 (lv_at hl 1 rfl) ?_
      have hPc := hP.sub (ws' := [(h, .inr (1, fs)), (tl, eI g 6 (st6 (ft) (x) (y) (zz) ((x) + (w)) ((y) + (hh)) ((zz) + (dd)))), (re, eI g 6 (r)), (sp, .inr (0, [.ref bs, .int (nI (ns))])), (bs, eI g 144 (fsp)), (so, .inr (0, [.ref bo, .int (nI (no))])), (bo, eI g 144 (fo))]) [6, 7, 1, 2, 3, 4, 5] rfl
      have hDc := hD.sub (ws' := [(h, .inr (1, fs)), (tl, eI g 6 (st6 (ft) (x) (y) (zz) ((x) + (w)) ((y) + (hh)) ((zz) + (dd)))), (re, eI g 6 (r)), (sp, .inr (0, [.ref bs, .int (nI (ns))])), (bs, eI g 144 (fsp)), (so, .inr (0, [.ref bo, .int (nI (no))])), (bo, eI g 144 (fo))]) [6, 7, 1, 2, 3, 4, 5] (by decide) rfl
      have hFc := va_free (wc := [(h, .inr (1, fs)), (tl, eI g 6 (st6 (ft) (x) (y) (zz) ((x) + (w)) ((y) + (hh)) ((zz) + (dd)))), (re, eI g 6 (r)), (sp, .inr (0, [.ref bs, .int (nI (ns))])), (bs, eI g 144 (fsp)), (so, .inr (0, [.ref bo, .int (nI (no))])), (bo, eI g 144 (fo))]) hD hS hA [6, 7, 1, 2, 3, 4, 5] rfl
      refine va_calli (va_runV (As := [.ref so]) (rest := []) ⟨hx, hb, hml, hown, htB⟩ (m_J_carve l g z _ h fs tl re sp bs (ns) so bo (no) (st6 (ft) (x) (y) (zz) ((x) + (w)) ((y) + (hh)) ((zz) + (dd))) (r) (fsp) (fo)) (cwV 1 htB (gV kw_247 kw_249 ks_0_5 kw_1 g_J_carve) rfl rfl rfl (by decide +kernel) ⟨Nat.le_of_ble_eq_true rfl, Nat.le_of_ble_eq_true rfl⟩) (pre_V hS hz ha (va_recv ha.1 hP (ci := 1) (q0 := 6) rfl rfl) ⟨hPc, hDc.weaken (fun _ _ _ h => hz _ h), ⟨hf9, hf10, hf11, by omega⟩⟩) rfl rfl hl.1 rfl (lv_room (Nat.le_of_ble_eq_true rfl)) d_J_cut_53 ⟨Nat.le_of_ble_eq_true rfl, Nat.le_of_ble_eq_true rfl⟩) hS (fun q _ h => hFc q h) hFc (fun r_7 u_8 t H1 locs ht hvm hw hB hz1 hk1 hS => ?_)
      obtain ⟨hP1, hD1⟩ := hB
      rw [ht] at hP1
      obtain ⟨hP, hD⟩ := va_join (wr := [(pa, ePS g 8 (gp))]) (w1 := [(h, .inr (1, fs)), (tl, eI g 6 (st6 (ft) (x) (y) (zz) ((x) + (w)) ((y) + (hh)) ((zz) + (dd)))), (re, eI g 6 ((cv (fo) (st6 (ft) (x) (y) (zz) ((x) + (w)) ((y) + (hh)) ((zz) + (dd))) (r) (fsp) (no)).1)), (sp, .inr (0, [.ref bs, .int (nI ((cv (fo) (st6 (ft) (x) (y) (zz) ((x) + (w)) ((y) + (hh)) ((zz) + (dd))) (r) (fsp) (no)).2.1))])), (bs, eI g 144 ((cv (fo) (st6 (ft) (x) (y) (zz) ((x) + (w)) ((y) + (hh)) ((zz) + (dd))) (r) (fsp) (no)).2.2)), (so, .inr (0, [.ref bo, .int (nI (if (cv (fo) (st6 (ft) (x) (y) (zz) ((x) + (w)) ((y) + (hh)) ((zz) + (dd))) (r) (fsp) (no)).2.1 ≤ 24 then (cv (fo) (st6 (ft) (x) (y) (zz) ((x) + (w)) ((y) + (hh)) ((zz) + (dd))) (r) (fsp) (no)).2.1 else no))])), (bo, eI g 144 (if (cv (fo) (st6 (ft) (x) (y) (zz) ((x) + (w)) ((y) + (hh)) ((zz) + (dd))) (r) (fsp) (no)).2.1 ≤ 24 then va_cpy (cv (fo) (st6 (ft) (x) (y) (zz) ((x) + (w)) ((y) + (hh)) ((zz) + (dd))) (r) (fsp) (no)).2.2 (fo) 0 0 ((cv (fo) (st6 (ft) (x) (y) (zz) ((x) + (w)) ((y) + (hh)) ((zz) + (dd))) (r) (fsp) (no)).2.1 * 6) else (fo)))]) hP hD [6, 7, 1, 2, 3, 4, 5] [0] rfl rfl (by decide) (by decide) hk1 hFc hP1 hD1
      clear hPc hDc hFc hP1 hD1 hk1 hz1 hvm ht
      generalize H1 = H at hP hS ⊢
      have hP : va_P g.1 cls [(pa, ePS g 8 (gp)), (h, .inr (1, fs)), (tl, eI g 6 (st6 (ft) (x) (y) (zz) ((x) + (w)) ((y) + (hh)) ((zz) + (dd)))), (re, eI g 6 ((cv (fo) (st6 (ft) (x) (y) (zz) ((x) + (w)) ((y) + (hh)) ((zz) + (dd))) (r) (fsp) (no)).1)), (sp, .inr (0, [.ref bs, .int (nI ((cv (fo) (st6 (ft) (x) (y) (zz) ((x) + (w)) ((y) + (hh)) ((zz) + (dd))) (r) (fsp) (no)).2.1))])), (bs, eI g 144 ((cv (fo) (st6 (ft) (x) (y) (zz) ((x) + (w)) ((y) + (hh)) ((zz) + (dd))) (r) (fsp) (no)).2.2)), (so, .inr (0, [.ref bo, .int (nI (if (cv (fo) (st6 (ft) (x) (y) (zz) ((x) + (w)) ((y) + (hh)) ((zz) + (dd))) (r) (fsp) (no)).2.1 ≤ 24 then (cv (fo) (st6 (ft) (x) (y) (zz) ((x) + (w)) ((y) + (hh)) ((zz) + (dd))) (r) (fsp) (no)).2.1 else no))])), (bo, eI g 144 (if (cv (fo) (st6 (ft) (x) (y) (zz) ((x) + (w)) ((y) + (hh)) ((zz) + (dd))) (r) (fsp) (no)).2.1 ≤ 24 then va_cpy (cv (fo) (st6 (ft) (x) (y) (zz) ((x) + (w)) ((y) + (hh)) ((zz) + (dd))) (r) (fsp) (no)).2.2 (fo) 0 0 ((cv (fo) (st6 (ft) (x) (y) (zz) ((x) + (w)) ((y) + (hh)) ((zz) + (dd))) (r) (fsp) (no)).2.1 * 6) else (fo)))] H := hP
      have hD : va_D A [(pa, ePS g 8 (gp)), (h, .inr (1, fs)), (tl, eI g 6 (st6 (ft) (x) (y) (zz) ((x) + (w)) ((y) + (hh)) ((zz) + (dd)))), (re, eI g 6 ((cv (fo) (st6 (ft) (x) (y) (zz) ((x) + (w)) ((y) + (hh)) ((zz) + (dd))) (r) (fsp) (no)).1)), (sp, .inr (0, [.ref bs, .int (nI ((cv (fo) (st6 (ft) (x) (y) (zz) ((x) + (w)) ((y) + (hh)) ((zz) + (dd))) (r) (fsp) (no)).2.1))])), (bs, eI g 144 ((cv (fo) (st6 (ft) (x) (y) (zz) ((x) + (w)) ((y) + (hh)) ((zz) + (dd))) (r) (fsp) (no)).2.2)), (so, .inr (0, [.ref bo, .int (nI (if (cv (fo) (st6 (ft) (x) (y) (zz) ((x) + (w)) ((y) + (hh)) ((zz) + (dd))) (r) (fsp) (no)).2.1 ≤ 24 then (cv (fo) (st6 (ft) (x) (y) (zz) ((x) + (w)) ((y) + (hh)) ((zz) + (dd))) (r) (fsp) (no)).2.1 else no))])), (bo, eI g 144 (if (cv (fo) (st6 (ft) (x) (y) (zz) ((x) + (w)) ((y) + (hh)) ((zz) + (dd))) (r) (fsp) (no)).2.1 ≤ 24 then va_cpy (cv (fo) (st6 (ft) (x) (y) (zz) ((x) + (w)) ((y) + (hh)) ((zz) + (dd))) (r) (fsp) (no)).2.2 (fo) 0 0 ((cv (fo) (st6 (ft) (x) (y) (zz) ((x) + (w)) ((y) + (hh)) ((zz) + (dd))) (r) (fsp) (no)).2.1 * 6) else (fo)))] := hD
      obtain ⟨ftn, hftn⟩ : ∃ xq : Nat → Int32, xq = st6 (ft) (x) (y) (zz) ((x) + (w)) ((y) + (hh)) ((zz) + (dd)) := ⟨_, rfl⟩
      rw [← hftn] at hP hD hw
      have hTg : gb ftn 0 = (x, y, zz, x + w, y + hh, zz + dd) := by rw [hftn]; rfl
      have hTl : okB (x, y, zz, x + w, y + hh, zz + dd) := tool_ok hnb (by decide) (by decide)
      obtain ⟨e1, e2⟩ := carve_R (r0 := r) (b0 := fsp) hR hok (by rw [hTg]; exact hTl)
      rw [hTg] at e1 e2
      obtain ⟨r2, n2, b2, hcv⟩ : ∃ (r2 : Nat → Int32) (n2 : Nat) (b2 : Nat → Int32), (r2, n2, b2) = cv (fo) (ftn) (r) (fsp) (no) := ⟨_, _, _, rfl⟩
      rw [← hcv] at hP hD hw e1 e2
      dsimp only at hP hD hw e1 e2
      by_cases c_9 : n2 ≤ 24
      · rw [if_pos c_9, if_pos c_9] at hP hD
        rw [if_pos c_9] at hw
        subst hw
        have hN := c_9
        have hR2 := e2 c_9
        obtain ⟨fo2, hfo⟩ : ∃ xq : Nat → Int32, xq = va_cpy b2 (fo) 0 0 (n2 * 6) := ⟨_, rfl⟩
        rw [← hfo] at hP hD hR2
        have hP : va_P g.1 cls [(pa, ePS g 8 (gp)), (h, .inr (1, fs)), (tl, eI g 6 (ftn)), (re, eI g 6 (r2)), (sp, .inr (0, [.ref bs, .int (nI (n2))])), (bs, eI g 144 (b2)), (so, .inr (0, [.ref bo, .int (nI (n2))])), (bo, eI g 144 (fo2))] H := hP
        have hD : va_D A [(pa, ePS g 8 (gp)), (h, .inr (1, fs)), (tl, eI g 6 (ftn)), (re, eI g 6 (r2)), (sp, .inr (0, [.ref bs, .int (nI (n2))])), (bs, eI g 144 (b2)), (so, .inr (0, [.ref bo, .int (nI (n2))])), (bo, eI g 144 (fo2))] := hD
        refine lv_if_ne (tgt := 69) hx hb d_J_cut_56 (by decide) (fun _ => ?_) (fun h => absurd h (by decide))
        refine lv_aload hx hb d_J_cut_69 (lv_at hl 1 rfl) ?_
        refine va_calll (va_runVN (As := []) (rest := []) ⟨hx, hb, hml, hown, htB⟩ (p_S_total l g z _ so bo (n2) (fo2)) ⟨va_cnB 0 htB g_S_total rfl rfl rfl (ha.2.1 _ nb_13) (htB _ kw_2) (by decide +kernel) ⟨by decide, by decide⟩, htB _ kw_244, htB _ ks_0_4⟩ (pre_V hS hz ha (va_recv ha.1 hP (ci := 0) (q0 := 6) rfl rfl) ⟨va_pair (hP 6 _ rfl) (hP 7 _ rfl), by omega⟩) rfl rfl hl.1 rfl (lv_room (Nat.le_of_ble_eq_true rfl)) d_J_cut_71 ⟨by decide, by decide⟩) hS (fun q _ h => h.elim) (fun q h => h.elim) (fun r_11 u t H1 locs ht hvm hw hB hz1 hk1 hS => ?_)
        obtain rfl := hB.symm.trans ht
        subst hw
        refine lv_lload hx hb d_J_cut_74 (lv_at hl 0 rfl) ?_
        refine W.lcmp hx hb d_J_cut_76 ?_
        refine lv_if_ge (tgt := 84) hx hb d_J_cut_77 (by decide) (fun c_12 => ?_) (fun c_12 => ?_)
        · refine lv_iconst (v := (nI (0))) hx hb d_J_cut_84 (by decide) ?_
          have hP9 := hP.sub (ws' := [(h, .inr (1, fs)), (pa, ePS g 8 (gp)), (tl, eI g 6 (ftn)), (re, eI g 6 (r2)), (sp, .inr (0, [.ref bs, .int (nI (n2))])), (bs, eI g 144 (b2)), (so, .inr (0, [.ref bo, .int (nI (n2))])), (bo, eI g 144 (fo2))]) [1, 0, 2, 3, 4, 5, 6, 7] rfl
          have hD9 := hD.sub (ws' := [(h, .inr (1, fs)), (pa, ePS g 8 (gp)), (tl, eI g 6 (ftn)), (re, eI g 6 (r2)), (sp, .inr (0, [.ref bs, .int (nI (n2))])), (bs, eI g 144 (b2)), (so, .inr (0, [.ref bo, .int (nI (n2))])), (bo, eI g 144 (fo2))]) [1, 0, 2, 3, 4, 5, 6, 7] (by decide) rfl
          exact vx_ret (W.widen (k := 3) (n := 18) (Nat.le_of_ble_eq_true rfl) (Nat.le_of_ble_eq_true rfl) (W.zret (v := (nI (0))) hx hb hr (by decide) (fun t ht hW => ⟨⟨(nI (0)), (n2, n2, ftn, r2, b2, fo2), rfl, ⟨hnb, by rw [← e1]; exact hN, hR2, Or.inr ⟨rfl, fun q => cmp_ge c_12 ((cut_falls hR hok hTl hR2).mpr q)⟩⟩, by rw [ht]; exact hP9, hD9.re [h, pa, tl, re, sp, bs, so, bo] rfl rfl⟩, hS.F ht⟩) hS.2.2 d_J_cut_85))
        · refine lv_iconst (v := (nI (1))) hx hb d_J_cut_80 (by decide) ?_
          refine lv_goto (tgt := 85) hx hb d_J_cut_81 (by decide) ?_
          have hP9 := hP.sub (ws' := [(h, .inr (1, fs)), (pa, ePS g 8 (gp)), (tl, eI g 6 (ftn)), (re, eI g 6 (r2)), (sp, .inr (0, [.ref bs, .int (nI (n2))])), (bs, eI g 144 (b2)), (so, .inr (0, [.ref bo, .int (nI (n2))])), (bo, eI g 144 (fo2))]) [1, 0, 2, 3, 4, 5, 6, 7] rfl
          have hD9 := hD.sub (ws' := [(h, .inr (1, fs)), (pa, ePS g 8 (gp)), (tl, eI g 6 (ftn)), (re, eI g 6 (r2)), (sp, .inr (0, [.ref bs, .int (nI (n2))])), (bs, eI g 144 (b2)), (so, .inr (0, [.ref bo, .int (nI (n2))])), (bo, eI g 144 (fo2))]) [1, 0, 2, 3, 4, 5, 6, 7] (by decide) rfl
          exact vx_ret (W.widen (k := 3) (n := 18) (Nat.le_of_ble_eq_true rfl) (Nat.le_of_ble_eq_true rfl) (W.zret (v := (nI (1))) hx hb hr (by decide) (fun t ht hW => ⟨⟨(nI (1)), (n2, n2, ftn, r2, b2, fo2), rfl, ⟨hnb, by rw [← e1]; exact hN, hR2, Or.inl ⟨rfl, (cut_falls hR hok hTl hR2).mp (cmp_lt c_12)⟩⟩, by rw [ht]; exact hP9, hD9.re [h, pa, tl, re, sp, bs, so, bo] rfl rfl⟩, hS.F ht⟩) hS.2.2 d_J_cut_85))
      · rw [if_neg c_9, if_neg c_9] at hP hD
        rw [if_neg c_9] at hw
        subst hw
        have hN := c_9
        have hP : va_P g.1 cls [(pa, ePS g 8 (gp)), (h, .inr (1, fs)), (tl, eI g 6 (ftn)), (re, eI g 6 (r2)), (sp, .inr (0, [.ref bs, .int (nI (n2))])), (bs, eI g 144 (b2)), (so, .inr (0, [.ref bo, .int (nI (no))])), (bo, eI g 144 (fo))] H := hP
        have hD : va_D A [(pa, ePS g 8 (gp)), (h, .inr (1, fs)), (tl, eI g 6 (ftn)), (re, eI g 6 (r2)), (sp, .inr (0, [.ref bs, .int (nI (n2))])), (bs, eI g 144 (b2)), (so, .inr (0, [.ref bo, .int (nI (no))])), (bo, eI g 144 (fo))] := hD
        refine lv_if_ne (tgt := 69) hx hb d_J_cut_56 (by decide) (fun h => absurd h (by decide)) (fun _ => ?_)
        exact thr_ISE hx hb hlt hown htB ha hz sB_95 hS (hl.1.trans hml.symm) htab d_J_cut_59 d_J_cut_62 d_J_cut_63 d_J_cut_65 d_J_cut_68 (Nat.le_of_ble_eq_true rfl) (Nat.le_of_ble_eq_true rfl) (Nat.le_of_ble_eq_true rfl) (Nat.le_of_ble_eq_true rfl) hlocks (fun t _ h1 h2 => ⟨(n2, ftn, r2, b2), trivial, ⟨Or.inr ⟨rfl, hnb, by rw [← e1]; exact hN⟩, kp_P (hP.sub (ws' := [(h, .inr (1, fs)), (pa, ePS g 8 (gp)), (tl, eI g 6 (ftn)), (re, eI g 6 (r2)), (sp, .inr (0, [.ref bs, .int (nI (n2))])), (bs, eI g 144 (b2)), (so, .inr (0, [.ref bo, .int (nI (no))])), (bo, eI g 144 (fo))]) [1, 0, 2, 3, 4, 5, 6, 7] rfl) h2, hAe.symm ▸ (hD.sub (ws' := [(h, .inr (1, fs)), (pa, ePS g 8 (gp)), (tl, eI g 6 (ftn)), (re, eI g 6 (r2)), (sp, .inr (0, [.ref bs, .int (nI (n2))])), (bs, eI g 144 (b2)), (so, .inr (0, [.ref bo, .int (nI (no))])), (bo, eI g 144 (fo))]) [1, 0, 2, 3, 4, 5, 6, 7] (by decide) rfl).re [h, pa, tl, re, sp, bs, so, bo] rfl rfl⟩, Nat.le_trans hS.1 h1, fun q hq hn => (h2 q (Nat.lt_of_lt_of_le hq hS.1)).trans (hS.2.1 q hq (hAe ▸ hn))⟩) hS.2.2 (Nat.le_of_ble_eq_true rfl) (Nat.le_of_ble_eq_true rfl)
set_option maxHeartbeats 4000000 in
set_option maxRecDepth 100000 in
theorem x_J_cut (l : Launch) (hlt : l.stackTraces = false) (g : gT) (z : Nat) (H0 : Heap) (h : Nat) (fs : List Value) (pa np : Nat) (gp : Nat → Option Nat) (PA : Nat → Nat) (v : Int32) (x y zz w hh dd : Int32) : vx_Met l y_J_cut w_J_cut ({ frames := 7, cells := 1, slots := 6, locals := 103 }) (va_Pc [.ref h, .int (v), .int (x), .int (y), .int (zz), .int (w), .int (hh), .int (dd)] (pB g z H0 (va_P g.1 cls [(h, .inr (1, fs)), (pa, ePS g 8 gp)] H0 ∧ fs[0]? = some (.ref pa) ∧ np ≤ 8 ∧ (∀ j, j < np → gp j = some (PA j)) ∧ (∀ j, np ≤ j → j < 8 → gp j = none) ∧ noP v np))) (va_Qi (fun (rr : Int32) (_ : Unit) => False) (fun _ t => t.heap = H0) nA) (xX (fun E => E = E_IOB) H0) 1 6 nA := by
  refine vx_ofW (cc := c_J_cut) (maxL := 11) (ret := (some .boolean)) (by decide) rfl ?_
  intro p e s m args below meth c s₁ B hml htab hv
  obtain ⟨rfl, hH0, ha, hP, hf0, hnp, hg1, hg2, hbad⟩ := hv
  have hx := B.exec
  have hb := B.bytes
  have hr := B.returns
  have htB : ∀ w ∈ tB, w.before _ s = true := fun w h => atoms_spec (ws := w_J_cut) B.pre w (List.mem_cons_of_mem _ h)
  have hown : s.vm.findClass "JointSolids" = some m.cls := findClass_of_methodNamed B.named
  have hlocks := B.notSynchronized
  subst hH0
  have hz : ∀ q, nA q → z ≤ q := nA_z
  have hS : va_S nA s.heap s.heap [] := va_S.rf
  have hl := lv_entry ([.ref h, .int (v), .int (x), .int (y), .int (zz), .int (w), .int (hh), .int (dd)]) (n := 11) (Nat.le_of_ble_eq_true rfl)
  rw [lg_entry_eq]
  generalize (lg_sl ([.ref h, .int (v), .int (x), .int (y), .int (zz), .int (w), .int (hh), .int (dd)]) ++ List.replicate (11 - (lg_sl ([.ref h, .int (v), .int (x), .int (y), .int (zz), .int (w), .int (hh), .int (dd)])).length) Slot.unset).toArray = ls at hl ⊢
  have hl : lv_has ls 11 [(0, .ref h), (1, .int (v)), (2, .int (x)), (3, .int (y)), (4, .int (zz)), (5, .int (w)), (6, .int (hh)), (7, .int (dd))] := hl
  refine lv_aload_n hx hb d_J_cut_0 rfl (lv_at hl 0 rfl) ?_
  refine lv_iload_n hx hb d_J_cut_1 rfl (lv_at hl 1 rfl) ?_
  refine vx_callr (vx_runV (As := [.int (v)]) (rest := []) ⟨hx, hb, hml, hown, htB⟩ (x_J_solidOf l hlt g z _ h fs pa gp (v)) (cwV 1 htB (gV kw_87 kw_89 ks_0_0 kw_1 g_J_solidOf) rfl rfl rfl (by decide +kernel) ⟨Nat.le_of_ble_eq_true rfl, Nat.le_of_ble_eq_true rfl⟩) (pre_V hS hz ha (va_recv ha.1 hP (ci := 1) (q0 := 0) rfl rfl) ⟨va_pair (hP 0 _ rfl) (hP 1 _ rfl), hf0⟩) rfl rfl hl.1 rfl (lv_room (Nat.le_of_ble_eq_true rfl)) d_J_cut_2 ⟨Nat.le_of_ble_eq_true rfl, Nat.le_of_ble_eq_true rfl⟩) hS (fun q _ h => h.elim) (fun q h => h.elim) (fun q h1 h2 => absurd h1 (Nat.not_lt.mpr h2)) (fun E ce q9 u t H1 locs ht hal hpx hBX hsz hk hS hce hcv hcl => ?_) (fun r_1 u t H1 locs ht hvm hw hB hz1 hk1 hS => ?_)
  · obtain ⟨hE, hkp⟩ := hBX
    exact vx_out (fun x h => (htab x h).elim) hlocks hce hcv hcl (fun t2 ht2 hal2 => ⟨(), trivial, ⟨hE.1, (kpt.mv (ht.trans ht2.symm) hkp)⟩, (kpt.mv (ht.trans ht2.symm) hkp).1, fun q hq _ => (kpt.mv (ht.trans ht2.symm) hkp).2 q hq⟩) hS.2.2 (Nat.le_of_ble_eq_true rfl) (Nat.le_of_ble_eq_true rfl)
  · obtain ⟨hans, hB⟩ := hB
    obtain rfl := hB.symm.trans ht
    exact absurd (gp_some hg1 hg2 hans) (fun ⟨i, h1, h2, _⟩ => noP_in h1 (by omega) (h2 ▸ hbad))
