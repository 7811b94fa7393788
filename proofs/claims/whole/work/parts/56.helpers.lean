/-! The law's helpers: a call of the class, and which exception it threw. -/
def nC (U : State) : Prop := va_Nc E_ISE E_IAE U ∧ va_Nc E_IAE E_IOB U ∧ va_Nc E_ISE E_IOB U
theorem nC.mv {u U : State} (hv : u.vm.Alike U.vm) (h : nC u) : nC U := ⟨va_Nc.moved hv h.1, va_Nc.moved hv h.2.1, va_Nc.moved hv h.2.2⟩
def pBL (g : gT) (z : Nat) (H0 : Heap) (F : Prop) (U : State) : Prop := pB g z H0 F U ∧ nC U
theorem pBL.blind {av : List Value} {g : gT} {z : Nat} {H0 : Heap} {F : Prop} : FrameBlind (va_Pc av (pBL g z H0 F)) := fun a U fr mk h => ⟨h.1, ⟨h.2.1.1, aM.same (u := U) (U := U.calling fr mk a) rfl rfl h.2.1.2.1, h.2.1.2.2⟩, nC.mv (u := U) (Vm.Alike.refl U.vm) h.2.2⟩
theorem pre_SL {av : List Value} {g : gT} {z : Nat} {s : State} {A : Nat → Prop} {H : Heap} {locs : List Loc} {F : Prop} (hS : va_S A s.heap H locs) (hz : ∀ q, A q → z ≤ q) (ha : aM g z s) (hn : nC s) (hF : F) : PreS s H (va_Pc av (pBL g z H F)) av := ⟨pBL.blind, fun U hU hW => ⟨rfl, ⟨hU, aM.warm hS hz hU hW ha, hF⟩, hn.mv hW.alike⟩⟩
theorem jI_recv {g : gT} {h : Nat} {σ : sT} {ws : va_W} (hj : jI g h σ ws) : ∃ fs, ws[0]? = some (h, .inr (1, fs)) := by
  obtain ⟨fs, ad, gp, gk, sk, nn, ff, PA, PB, PF, KA, hw, -⟩ := hj
  exact ⟨fs, by rw [hw]; rfl⟩
theorem jI_ok {g : gT} {h : Nat} {σ : sT} {ws : va_W} (hj : jI g h σ ws) : sOk σ := by
  obtain ⟨fs, ad, gp, gk, sk, nn, ff, PA, PB, PF, KA, hw, -, -, hO⟩ := hj
  exact hO
theorem mI_recv {g : gT} {m : Nat} {σ : sT} {th : Nat} {ws : va_W} (hj : mI g m σ th ws) : ∃ fs, ws[0]? = some (m, .inr (3, fs)) := by
  obtain ⟨fs, ad, ff, gl, hw, -⟩ := hj
  exact ⟨fs, by rw [hw]; rfl⟩
theorem tl_P {D : va_G} {cl : List vw_C} {o : Nat × va_E} {ws : va_W} {H : Heap} (h : va_P D cl (o :: ws) H) : va_P D cl ws H := va_P_mem h fun _ hq => List.mem_cons_of_mem _ hq
theorem tl_D {A : Nat → Prop} {o : Nat × va_E} {ws : va_W} (h : va_D A (o :: ws)) : va_D A ws := perm_D (List.perm_append_singleton o ws).symm h
theorem tl_A {o : Nat × va_E} {ws : va_W} {n : Nat} : ∀ q, va_A ws n q → va_A (o :: ws) n q := sub_A (List.perm_append_singleton o ws).symm
theorem wj1 {A0 : Nat → Prop} {D : va_G} {cl : List vw_C} {o : Nat × va_E} {ws ws' : va_W} {H H1 : Heap} (hP : va_P D cl (o :: ws) H) (hD : va_D A0 (o :: ws)) (hk : ∀ q : Nat, q < H.size → ¬ va_A ws H.size q → H1[q]? = H[q]?) (hF : ∀ q, va_A ws H.size q → A0 q) (hP1 : va_P D cl ws' H1) (hD1 : va_D (va_A ws H.size) ws') : va_P D cl (o :: ws') H1 ∧ va_D A0 (o :: ws') := by
  obtain ⟨k1, k2⟩ := jn (List.perm_append_singleton o ws).symm hP hD hk hF hP1 hD1
  exact ⟨va_P_perm k1 (List.perm_append_singleton o ws').symm, va_D_perm k2 (List.perm_append_singleton o ws').symm⟩
abbrev hQ1 (g : gT) (h ou : Nat) (ws : va_W) (fo : Nat → Int64) (H0 : Heap) (S : oT) := va_Qi (fun rr (u : va_W × (Nat → Int64)) => S.1 < 4 ∧ rr = nI S.1 ∧ (S.1 = 0 → u.2 0 = S.2.1) ∧ jI g h S.2.2 u.1) (fun u t => va_P g.1 cls ((ou, eL g 1 u.2) :: u.1) t.heap ∧ va_D (va_A ((ou, eL g 1 fo) :: ws) H0.size) ((ou, eL g 1 u.2) :: u.1)) (va_A ((ou, eL g 1 fo) :: ws) H0.size)
abbrev hQ0 (g : gT) (h : Nat) (ws : va_W) (H0 : Heap) (S : oT) := va_Qi (fun rr (u : va_W) => S.1 < 4 ∧ rr = nI S.1 ∧ jI g h S.2.2 u) (fun u t => va_P g.1 cls u t.heap ∧ va_D (va_A ws H0.size) u) (va_A ws H0.size)
abbrev xNo := vx_X (fun (_ : Unit) => False) (fun _ _ _ => False) nA
theorem b_01 {rr : Int32} {x : Int64} (h : x = rr.toInt64) (hz : rr = nI 0 ∨ rr = nI 1) : (rr = 0 → (0 : Int64) = x) ∧ (¬ rr = 0 → (1 : Int64) = x) := by
  rcases hz with rfl | rfl
  · exact ⟨fun _ => h.symm, fun q => absurd rfl q⟩
  · exact ⟨fun q => absurd q (by decide), fun _ => h.symm⟩
set_option maxHeartbeats 4000000 in
set_option maxRecDepth 100000 in
theorem h_pieces (l : Launch) (hlt : l.stackTraces = false) (g : gT) (z : Nat) (H0 : Heap) (h : Nat) (σ : sT) (ws : va_W) (hj : jI g h σ ws) (ou : Nat) (fo : Nat → Int64) (p0 : Int32) : vx_Met l y_L_pieces w_L_pieces ({ frames := 8, cells := 1, slots := 6, locals := 124 }) (va_Pc [.ref h, .int (p0), .ref ou] (pBL g z H0 (va_P g.1 cls ((ou, eL g 1 fo) :: ws) H0 ∧ va_D (zA z) ((ou, eL g 1 fo) :: ws)))) (hQ1 g h ou ws fo H0 (s_pieces σ p0)) xNo 1 6 (va_A ((ou, eL g 1 fo) :: ws) H0.size) := by
  refine vx_ofWH (cc := c_L_pieces) (maxL := 4) (ret := (some .int)) (hh := [(0, 9, 12, 21)]) (by decide) rfl ?_
  intro p e s m args below meth c s₁ B hml hv
  obtain ⟨rfl, ⟨hH0, ha, hP, hD0⟩, hnc⟩ := hv
  have hx := B.exec
  have hb := B.bytes
  have hr := B.returns
  have htB : ∀ w ∈ tB, w.before _ s = true := fun w h => atoms_spec (ws := w_L_pieces) B.pre w (List.mem_cons_of_mem _ h)
  have htabl := vx_table (x := y_L_pieces) B (atoms_spec (ws := w_L_pieces) B.pre _ List.mem_cons_self)
  have hown : s.vm.findClass R_L = some m.cls := findClass_of_methodNamed B.named
  have hlocks := B.notSynchronized
  subst hH0
  have hD := hD0.self (sz := s.heap.size)
  have hz := aA_z hD0 ha.2.2.2.2.2
  have hDw : va_D (zA z) ws := tl_D hD0
  have hPw : va_P g.1 cls ws s.heap := tl_P hP
  obtain ⟨fsR, hrec⟩ := jI_recv hj
  have hnp := (jI_ok hj).1
  unfold hQ1
  generalize hAe : va_A ((ou, eL g 1 fo) :: ws) s.heap.size = A at hD hz ⊢
  have hFw : ∀ q, va_A ws s.heap.size q → A q := fun q h => by rw [← hAe]; exact tl_A q h
  have hS : va_S A s.heap s.heap [] := va_S.rf
  have hl := lv_entry ([.ref h, .int (p0), .ref ou]) (n := 4) (Nat.le_of_ble_eq_true rfl)
  rw [lg_entry_eq]
  generalize (lg_sl ([.ref h, .int (p0), .ref ou]) ++ List.replicate (4 - (lg_sl ([.ref h, .int (p0), .ref ou])).length) Slot.unset).toArray = ls at hl ⊢
  have hl : lv_has ls 4 [(0, .ref h), (1, .int (p0)), (2, .ref ou)] := hl
  refine lv_aload_n hx hb d_L_pieces_0 rfl (lv_at hl 2 rfl) ?_
  refine lv_iconst (v := (nI (0))) hx hb d_L_pieces_1 (by decide) ?_
  refine lv_aload_n hx hb d_L_pieces_2 rfl (lv_at hl 0 rfl) ?_
  refine lv_iload_n hx hb d_L_pieces_3 rfl (lv_at hl 1 rfl) ?_
  refine vx_calli (vx_runV (As := [.int (p0)]) (rest := [.int (nI (0)), .ref ou]) ⟨hx, hb, hml, hown, htB⟩ (s_J_pieces l hlt g z _ h σ ws hj p0) (cwV 1 htB (gV kw_356 kw_357 kw_358 kw_1 g_J_pieces) rfl rfl rfl (by decide +kernel) ⟨Nat.le_of_ble_eq_true rfl, Nat.le_of_ble_eq_true rfl⟩) (pre_V hS hz ha (va_recv ha.1 hPw (ci := 1) (q0 := 0) rfl hrec) ⟨hPw, hDw⟩) rfl rfl hl.1 rfl (lv_room (Nat.le_of_ble_eq_true rfl)) d_L_pieces_4 ⟨Nat.le_of_ble_eq_true rfl, Nat.le_of_ble_eq_true rfl⟩) hS (fun q _ h => hFw q h) hFw (fun q _ h => hFw q h) (fun E ce q9 wn t H1 locs ht hal hpx hBX hsz hk hS hce hcv hcl => ?_) (fun rr wn t H1 locs ht hvm hw hB hz1 hk1 hS => ?_)
  · obtain ⟨hE, hj', hP1, hD1⟩ := hBX
    rw [ht] at hP1
    obtain ⟨hP, hD⟩ := wj1 hP hD hk hFw hP1 hD1
    obtain ⟨rfl, hn⟩ := hE
    refine vx_catch (own := R_L) (name := E_IOB) hown [] (⟨0, 9, 12, 21⟩ : ExceptionTableEntry) [] (htabl.trans rfl) (fun _ h => absurd h List.not_mem_nil) (by decide) (by decide) (htB _ kw_237) (va_Nw.use rfl (ha.2.1 _ nb_3)) hce hcv hcl ?_
    refine W.eq (g2 := F0 m 12 ls [.ref q9]) rfl ?_
    refine lv_astore_n (lv' := [(3, .ref q9), (0, .ref h), (1, .int (p0)), (2, .ref ou)]) hx hb d_L_pieces_12 rfl hl (by decide) rfl (fun ls hl => ?_)
    refine lv_iconst (v := (nI (1))) hx hb d_L_pieces_13 (by decide) ?_
    exact vx_ret (W.widen (k := 1) (n := 6) (Nat.le_of_ble_eq_true rfl) (Nat.le_of_ble_eq_true rfl) (W.iret (v := (nI (1))) hx hb hr (fun t ht hW => ⟨⟨(nI (1)), (wn, fo), rfl, ⟨(by rw [hn]; decide), (by rw [hn]), fun q => absurd (hn.symm.trans q) (by decide), hj'⟩, by rw [ht]; exact hP, hD⟩, hS.F ht⟩) hS.2.2 d_L_pieces_14))
  · obtain ⟨hj', hP1, hD1⟩ := hB
    rw [ht] at hP1
    obtain ⟨hP, hD⟩ := wj1 hP hD hk1 hFw hP1 hD1
    obtain ⟨h1, h2⟩ := hw
    refine lv_i2l (v := ((rr)).toInt64) hx hb d_L_pieces_7 rfl ?_
    refine ja_last (k := 0) (x := ((rr)).toInt64) hx hb ha.1 hP hD hS 0 1 rfl rfl (by decide) (by decide) d_L_pieces_8 (fun H locs hP hD hS => ?_)
    have hP : va_P g.1 cls ((ou, eL g 1 (vp_updL fo 0 (((rr)).toInt64))) :: wn) H := hP
    have hD : va_D A ((ou, eL g 1 (vp_updL fo 0 (((rr)).toInt64))) :: wn) := hD
    refine lv_goto (tgt := 15) hx hb d_L_pieces_9 (by decide) ?_
    refine lv_iconst (v := (nI (0))) hx hb d_L_pieces_15 (by decide) ?_
    exact vx_ret (W.widen (k := 1) (n := 6) (Nat.le_of_ble_eq_true rfl) (Nat.le_of_ble_eq_true rfl) (W.iret (v := (nI (0))) hx hb hr (fun t ht hW => ⟨⟨(nI (0)), (wn, (vp_updL fo 0 (((rr)).toInt64))), rfl, ⟨(by rw [h1]; decide), (by rw [h1]), fun _ => h2.symm, hj'⟩, by rw [ht]; exact hP, hD⟩, hS.F ht⟩) hS.2.2 d_L_pieces_16))
set_option maxHeartbeats 4000000 in
set_option maxRecDepth 100000 in
theorem h_corner (l : Launch) (hlt : l.stackTraces = false) (g : gT) (z : Nat) (H0 : Heap) (h : Nat) (σ : sT) (ws : va_W) (hj : jI g h σ ws) (ou : Nat) (fo : Nat → Int64) (p0 p1 p2 : Int32) : vx_Met l y_L_corner w_L_corner ({ frames := 8, cells := 2, slots := 12, locals := 127 }) (va_Pc [.ref h, .int (p0), .int (p1), .int (p2), .ref ou] (pBL g z H0 (va_P g.1 cls ((ou, eL g 1 fo) :: ws) H0 ∧ va_D (zA z) ((ou, eL g 1 fo) :: ws)))) (hQ1 g h ou ws fo H0 (s_corner σ p0 p1 p2)) xNo 2 12 (va_A ((ou, eL g 1 fo) :: ws) H0.size) := by
  refine vx_ofWH (cc := c_L_corner) (maxL := 6) (ret := (some .int)) (hh := [(0, 12, 15, 21)]) (by decide) rfl ?_
  intro p e s m args below meth c s₁ B hml hv
  obtain ⟨rfl, ⟨hH0, ha, hP, hD0⟩, hnc⟩ := hv
  have hx := B.exec
  have hb := B.bytes
  have hr := B.returns
  have htB : ∀ w ∈ tB, w.before _ s = true := fun w h => atoms_spec (ws := w_L_corner) B.pre w (List.mem_cons_of_mem _ h)
  have htabl := vx_table (x := y_L_corner) B (atoms_spec (ws := w_L_corner) B.pre _ List.mem_cons_self)
  have hown : s.vm.findClass R_L = some m.cls := findClass_of_methodNamed B.named
  have hlocks := B.notSynchronized
  subst hH0
  have hD := hD0.self (sz := s.heap.size)
  have hz := aA_z hD0 ha.2.2.2.2.2
  have hDw : va_D (zA z) ws := tl_D hD0
  have hPw : va_P g.1 cls ws s.heap := tl_P hP
  obtain ⟨fsR, hrec⟩ := jI_recv hj
  have hnp := (jI_ok hj).1
  unfold hQ1
  generalize hAe : va_A ((ou, eL g 1 fo) :: ws) s.heap.size = A at hD hz ⊢
  have hFw : ∀ q, va_A ws s.heap.size q → A q := fun q h => by rw [← hAe]; exact tl_A q h
  have hS : va_S A s.heap s.heap [] := va_S.rf
  have hl := lv_entry ([.ref h, .int (p0), .int (p1), .int (p2), .ref ou]) (n := 6) (Nat.le_of_ble_eq_true rfl)
  rw [lg_entry_eq]
  generalize (lg_sl ([.ref h, .int (p0), .int (p1), .int (p2), .ref ou]) ++ List.replicate (6 - (lg_sl ([.ref h, .int (p0), .int (p1), .int (p2), .ref ou])).length) Slot.unset).toArray = ls at hl ⊢
  have hl : lv_has ls 6 [(0, .ref h), (1, .int (p0)), (2, .int (p1)), (3, .int (p2)), (4, .ref ou)] := hl
  refine lv_aload hx hb d_L_corner_0 (lv_at hl 4 rfl) ?_
  refine lv_iconst (v := (nI (0))) hx hb d_L_corner_2 (by decide) ?_
  refine lv_aload_n hx hb d_L_corner_3 rfl (lv_at hl 0 rfl) ?_
  refine lv_iload_n hx hb d_L_corner_4 rfl (lv_at hl 1 rfl) ?_
  refine lv_iload_n hx hb d_L_corner_5 rfl (lv_at hl 2 rfl) ?_
  refine lv_iload_n hx hb d_L_corner_6 rfl (lv_at hl 3 rfl) ?_
  refine vx_calli (vx_runV (As := [.int (p0), .int (p1), .int (p2)]) (rest := [.int (nI (0)), .ref ou]) ⟨hx, hb, hml, hown, htB⟩ (s_J_corner l hlt g z _ h σ ws hj p0 p1 p2) (cwV 3 htB (gV kw_363 kw_364 kw_365 kw_1 g_J_corner) rfl rfl rfl (by decide +kernel) ⟨Nat.le_of_ble_eq_true rfl, Nat.le_of_ble_eq_true rfl⟩) (pre_V hS hz ha (va_recv ha.1 hPw (ci := 1) (q0 := 0) rfl hrec) ⟨hPw, hDw⟩) rfl rfl hl.1 rfl (lv_room (Nat.le_of_ble_eq_true rfl)) d_L_corner_7 ⟨Nat.le_of_ble_eq_true rfl, Nat.le_of_ble_eq_true rfl⟩) hS (fun q _ h => hFw q h) hFw (fun q _ h => hFw q h) (fun E ce q9 wn t H1 locs ht hal hpx hBX hsz hk hS hce hcv hcl => ?_) (fun rr wn t H1 locs ht hvm hw hB hz1 hk1 hS => ?_)
  · obtain ⟨hE, hj', hP1, hD1⟩ := hBX
    rw [ht] at hP1
    obtain ⟨hP, hD⟩ := wj1 hP hD hk hFw hP1 hD1
    obtain ⟨rfl, hn⟩ := hE
    refine vx_catch (own := R_L) (name := E_IOB) hown [] (⟨0, 12, 15, 21⟩ : ExceptionTableEntry) [] (htabl.trans rfl) (fun _ h => absurd h List.not_mem_nil) (by decide) (by decide) (htB _ kw_237) (va_Nw.use rfl (ha.2.1 _ nb_3)) hce hcv hcl ?_
    refine W.eq (g2 := F0 m 15 ls [.ref q9]) rfl ?_
    refine lv_astore (lv' := [(5, .ref q9), (0, .ref h), (1, .int (p0)), (2, .int (p1)), (3, .int (p2)), (4, .ref ou)]) hx hb d_L_corner_15 hl (by decide) rfl (fun ls hl => ?_)
    refine lv_iconst (v := (nI (1))) hx hb d_L_corner_17 (by decide) ?_
    exact vx_ret (W.widen (k := 2) (n := 12) (Nat.le_of_ble_eq_true rfl) (Nat.le_of_ble_eq_true rfl) (W.iret (v := (nI (1))) hx hb hr (fun t ht hW => ⟨⟨(nI (1)), (wn, fo), rfl, ⟨(by rw [hn]; decide), (by rw [hn]), fun q => absurd (hn.symm.trans q) (by decide), hj'⟩, by rw [ht]; exact hP, hD⟩, hS.F ht⟩) hS.2.2 d_L_corner_18))
  · obtain ⟨hj', hP1, hD1⟩ := hB
    rw [ht] at hP1
    obtain ⟨hP, hD⟩ := wj1 hP hD hk1 hFw hP1 hD1
    obtain ⟨h1, h2⟩ := hw
    refine lv_i2l (v := ((rr)).toInt64) hx hb d_L_corner_10 rfl ?_
    refine ja_last (k := 0) (x := ((rr)).toInt64) hx hb ha.1 hP hD hS 0 1 rfl rfl (by decide) (by decide) d_L_corner_11 (fun H locs hP hD hS => ?_)
    have hP : va_P g.1 cls ((ou, eL g 1 (vp_updL fo 0 (((rr)).toInt64))) :: wn) H := hP
    have hD : va_D A ((ou, eL g 1 (vp_updL fo 0 (((rr)).toInt64))) :: wn) := hD
    refine lv_goto (tgt := 19) hx hb d_L_corner_12 (by decide) ?_
    refine lv_iconst (v := (nI (0))) hx hb d_L_corner_19 (by decide) ?_
    exact vx_ret (W.widen (k := 2) (n := 12) (Nat.le_of_ble_eq_true rfl) (Nat.le_of_ble_eq_true rfl) (W.iret (v := (nI (0))) hx hb hr (fun t ht hW => ⟨⟨(nI (0)), (wn, (vp_updL fo 0 (((rr)).toInt64))), rfl, ⟨(by rw [h1]; decide), (by rw [h1]), fun _ => h2.symm, hj'⟩, by rw [ht]; exact hP, hD⟩, hS.F ht⟩) hS.2.2 d_L_corner_20))
set_option maxHeartbeats 4000000 in
set_option maxRecDepth 100000 in
theorem h_volume (l : Launch) (hlt : l.stackTraces = false) (g : gT) (z : Nat) (H0 : Heap) (h : Nat) (σ : sT) (ws : va_W) (hj : jI g h σ ws) (ou : Nat) (fo : Nat → Int64) (p0 : Int32) : vx_Met l y_L_volume w_L_volume ({ frames := 8, cells := 1, slots := 6, locals := 124 }) (va_Pc [.ref h, .int (p0), .ref ou] (pBL g z H0 (va_P g.1 cls ((ou, eL g 1 fo) :: ws) H0 ∧ va_D (zA z) ((ou, eL g 1 fo) :: ws)))) (hQ1 g h ou ws fo H0 (s_volume σ p0)) xNo 1 6 (va_A ((ou, eL g 1 fo) :: ws) H0.size) := by
  refine vx_ofWH (cc := c_L_volume) (maxL := 4) (ret := (some .int)) (hh := [(0, 8, 11, 21)]) (by decide) rfl ?_
  intro p e s m args below meth c s₁ B hml hv
  obtain ⟨rfl, ⟨hH0, ha, hP, hD0⟩, hnc⟩ := hv
  have hx := B.exec
  have hb := B.bytes
  have hr := B.returns
  have htB : ∀ w ∈ tB, w.before _ s = true := fun w h => atoms_spec (ws := w_L_volume) B.pre w (List.mem_cons_of_mem _ h)
  have htabl := vx_table (x := y_L_volume) B (atoms_spec (ws := w_L_volume) B.pre _ List.mem_cons_self)
  have hown : s.vm.findClass R_L = some m.cls := findClass_of_methodNamed B.named
  have hlocks := B.notSynchronized
  subst hH0
  have hD := hD0.self (sz := s.heap.size)
  have hz := aA_z hD0 ha.2.2.2.2.2
  have hDw : va_D (zA z) ws := tl_D hD0
  have hPw : va_P g.1 cls ws s.heap := tl_P hP
  obtain ⟨fsR, hrec⟩ := jI_recv hj
  have hnp := (jI_ok hj).1
  unfold hQ1
  generalize hAe : va_A ((ou, eL g 1 fo) :: ws) s.heap.size = A at hD hz ⊢
  have hFw : ∀ q, va_A ws s.heap.size q → A q := fun q h => by rw [← hAe]; exact tl_A q h
  have hS : va_S A s.heap s.heap [] := va_S.rf
  have hl := lv_entry ([.ref h, .int (p0), .ref ou]) (n := 4) (Nat.le_of_ble_eq_true rfl)
  rw [lg_entry_eq]
  generalize (lg_sl ([.ref h, .int (p0), .ref ou]) ++ List.replicate (4 - (lg_sl ([.ref h, .int (p0), .ref ou])).length) Slot.unset).toArray = ls at hl ⊢
  have hl : lv_has ls 4 [(0, .ref h), (1, .int (p0)), (2, .ref ou)] := hl
  refine lv_aload_n hx hb d_L_volume_0 rfl (lv_at hl 2 rfl) ?_
  refine lv_iconst (v := (nI (0))) hx hb d_L_volume_1 (by decide) ?_
  refine lv_aload_n hx hb d_L_volume_2 rfl (lv_at hl 0 rfl) ?_
  refine lv_iload_n hx hb d_L_volume_3 rfl (lv_at hl 1 rfl) ?_
  refine vx_calll (vx_runV (As := [.int (p0)]) (rest := [.int (nI (0)), .ref ou]) ⟨hx, hb, hml, hown, htB⟩ (s_J_volume l hlt g z _ h σ ws hj p0) (cwV 1 htB (gV kw_372 kw_373 kw_374 kw_1 g_J_volume) rfl rfl rfl (by decide +kernel) ⟨Nat.le_of_ble_eq_true rfl, Nat.le_of_ble_eq_true rfl⟩) (pre_V hS hz ha (va_recv ha.1 hPw (ci := 1) (q0 := 0) rfl hrec) ⟨hPw, hDw⟩) rfl rfl hl.1 rfl (lv_room (Nat.le_of_ble_eq_true rfl)) d_L_volume_4 ⟨Nat.le_of_ble_eq_true rfl, Nat.le_of_ble_eq_true rfl⟩) hS (fun q _ h => hFw q h) hFw (fun q _ h => hFw q h) (fun E ce q9 wn t H1 locs ht hal hpx hBX hsz hk hS hce hcv hcl => ?_) (fun rr wn t H1 locs ht hvm hw hB hz1 hk1 hS => ?_)
  · obtain ⟨hE, hj', hP1, hD1⟩ := hBX
    rw [ht] at hP1
    obtain ⟨hP, hD⟩ := wj1 hP hD hk hFw hP1 hD1
    obtain ⟨rfl, hn⟩ := hE
    refine vx_catch (own := R_L) (name := E_IOB) hown [] (⟨0, 8, 11, 21⟩ : ExceptionTableEntry) [] (htabl.trans rfl) (fun _ h => absurd h List.not_mem_nil) (by decide) (by decide) (htB _ kw_237) (va_Nw.use rfl (ha.2.1 _ nb_3)) hce hcv hcl ?_
    refine W.eq (g2 := F0 m 11 ls [.ref q9]) rfl ?_
    refine lv_astore_n (lv' := [(3, .ref q9), (0, .ref h), (1, .int (p0)), (2, .ref ou)]) hx hb d_L_volume_11 rfl hl (by decide) rfl (fun ls hl => ?_)
    refine lv_iconst (v := (nI (1))) hx hb d_L_volume_12 (by decide) ?_
    exact vx_ret (W.widen (k := 1) (n := 6) (Nat.le_of_ble_eq_true rfl) (Nat.le_of_ble_eq_true rfl) (W.iret (v := (nI (1))) hx hb hr (fun t ht hW => ⟨⟨(nI (1)), (wn, fo), rfl, ⟨(by rw [hn]; decide), (by rw [hn]), fun q => absurd (hn.symm.trans q) (by decide), hj'⟩, by rw [ht]; exact hP, hD⟩, hS.F ht⟩) hS.2.2 d_L_volume_13))
  · obtain ⟨hj', hP1, hD1⟩ := hB
    rw [ht] at hP1
    obtain ⟨hP, hD⟩ := wj1 hP hD hk1 hFw hP1 hD1
    obtain ⟨h1, h2⟩ := hw
    refine ja_last (k := 0) (x := rr) hx hb ha.1 hP hD hS 0 1 rfl rfl (by decide) (by decide) d_L_volume_7 (fun H locs hP hD hS => ?_)
    have hP : va_P g.1 cls ((ou, eL g 1 (vp_updL fo 0 (rr))) :: wn) H := hP
    have hD : va_D A ((ou, eL g 1 (vp_updL fo 0 (rr))) :: wn) := hD
    refine lv_goto (tgt := 14) hx hb d_L_volume_8 (by decide) ?_
    refine lv_iconst (v := (nI (0))) hx hb d_L_volume_14 (by decide) ?_
    exact vx_ret (W.widen (k := 1) (n := 6) (Nat.le_of_ble_eq_true rfl) (Nat.le_of_ble_eq_true rfl) (W.iret (v := (nI (0))) hx hb hr (fun t ht hW => ⟨⟨(nI (0)), (wn, (vp_updL fo 0 (rr))), rfl, ⟨(by rw [h1]; decide), (by rw [h1]), fun _ => h2.symm, hj'⟩, by rw [ht]; exact hP, hD⟩, hS.F ht⟩) hS.2.2 d_L_volume_15))
set_option maxHeartbeats 4000000 in
set_option maxRecDepth 100000 in
theorem h_overlap (l : Launch) (hlt : l.stackTraces = false) (g : gT) (z : Nat) (H0 : Heap) (h : Nat) (σ : sT) (ws : va_W) (hj : jI g h σ ws) (ou : Nat) (fo : Nat → Int64) (p0 p1 : Int32) : vx_Met l y_L_overlap w_L_overlap ({ frames := 8, cells := 3, slots := 18, locals := 127 }) (va_Pc [.ref h, .int (p0), .int (p1), .ref ou] (pBL g z H0 (va_P g.1 cls ((ou, eL g 1 fo) :: ws) H0 ∧ va_D (zA z) ((ou, eL g 1 fo) :: ws)))) (hQ1 g h ou ws fo H0 (s_two ovL σ p0 p1)) xNo 3 18 (va_A ((ou, eL g 1 fo) :: ws) H0.size) := by
  refine vx_ofWH (cc := c_L_overlap) (maxL := 5) (ret := (some .int)) (hh := [(0, 9, 12, 21), (0, 9, 16, 13)]) (by decide) rfl ?_
  intro p e s m args below meth c s₁ B hml hv
  obtain ⟨rfl, ⟨hH0, ha, hP, hD0⟩, hnc⟩ := hv
  have hx := B.exec
  have hb := B.bytes
  have hr := B.returns
  have htB : ∀ w ∈ tB, w.before _ s = true := fun w h => atoms_spec (ws := w_L_overlap) B.pre w (List.mem_cons_of_mem _ h)
  have htabl := vx_table (x := y_L_overlap) B (atoms_spec (ws := w_L_overlap) B.pre _ List.mem_cons_self)
  have hown : s.vm.findClass R_L = some m.cls := findClass_of_methodNamed B.named
  have hlocks := B.notSynchronized
  subst hH0
  have hD := hD0.self (sz := s.heap.size)
  have hz := aA_z hD0 ha.2.2.2.2.2
  have hDw : va_D (zA z) ws := tl_D hD0
  have hPw : va_P g.1 cls ws s.heap := tl_P hP
  obtain ⟨fsR, hrec⟩ := jI_recv hj
  have hnp := (jI_ok hj).1
  unfold hQ1
  generalize hAe : va_A ((ou, eL g 1 fo) :: ws) s.heap.size = A at hD hz ⊢
  have hFw : ∀ q, va_A ws s.heap.size q → A q := fun q h => by rw [← hAe]; exact tl_A q h
  have hS : va_S A s.heap s.heap [] := va_S.rf
  have hl := lv_entry ([.ref h, .int (p0), .int (p1), .ref ou]) (n := 5) (Nat.le_of_ble_eq_true rfl)
  rw [lg_entry_eq]
  generalize (lg_sl ([.ref h, .int (p0), .int (p1), .ref ou]) ++ List.replicate (5 - (lg_sl ([.ref h, .int (p0), .int (p1), .ref ou])).length) Slot.unset).toArray = ls at hl ⊢
  have hl : lv_has ls 5 [(0, .ref h), (1, .int (p0)), (2, .int (p1)), (3, .ref ou)] := hl
  refine lv_aload_n hx hb d_L_overlap_0 rfl (lv_at hl 3 rfl) ?_
  refine lv_iconst (v := (nI (0))) hx hb d_L_overlap_1 (by decide) ?_
  refine lv_aload_n hx hb d_L_overlap_2 rfl (lv_at hl 0 rfl) ?_
  refine lv_iload_n hx hb d_L_overlap_3 rfl (lv_at hl 1 rfl) ?_
  refine lv_iload_n hx hb d_L_overlap_4 rfl (lv_at hl 2 rfl) ?_
  refine vx_calll (vx_runV (As := [.int (p0), .int (p1)]) (rest := [.int (nI (0)), .ref ou]) ⟨hx, hb, hml, hown, htB⟩ (s_J_overlap l hlt g z _ h σ ws hj p0 p1) (cwV 2 htB (gV kw_379 kw_380 kw_381 kw_1 g_J_overlap) rfl rfl rfl (by decide +kernel) ⟨Nat.le_of_ble_eq_true rfl, Nat.le_of_ble_eq_true rfl⟩) (pre_V hS hz ha (va_recv ha.1 hPw (ci := 1) (q0 := 0) rfl hrec) ⟨hPw, hDw⟩) rfl rfl hl.1 rfl (lv_room (Nat.le_of_ble_eq_true rfl)) d_L_overlap_5 ⟨Nat.le_of_ble_eq_true rfl, Nat.le_of_ble_eq_true rfl⟩) hS (fun q _ h => hFw q h) hFw (fun q _ h => hFw q h) (fun E ce q9 wn t H1 locs ht hal hpx hBX hsz hk hS hce hcv hcl => ?_) (fun rr wn t H1 locs ht hvm hw hB hz1 hk1 hS => ?_)
  · obtain ⟨hE, hj', hP1, hD1⟩ := hBX
    rw [ht] at hP1
    obtain ⟨hP, hD⟩ := wj1 hP hD hk hFw hP1 hD1
    rcases hE with ⟨rfl, hn⟩ | ⟨rfl, hn⟩
    · refine vx_catch (own := R_L) (name := E_IOB) hown [] (⟨0, 9, 12, 21⟩ : ExceptionTableEntry) [(⟨0, 9, 16, 13⟩ : ExceptionTableEntry)] (htabl.trans rfl) (fun _ h => absurd h List.not_mem_nil) (by decide) (by decide) (htB _ kw_237) (va_Nw.use rfl (ha.2.1 _ nb_3)) hce hcv hcl ?_
      refine W.eq (g2 := F0 m 12 ls [.ref q9]) rfl ?_
      refine lv_astore (lv' := [(4, .ref q9), (0, .ref h), (1, .int (p0)), (2, .int (p1)), (3, .ref ou)]) hx hb d_L_overlap_12 hl (by decide) rfl (fun ls hl => ?_)
      refine lv_iconst (v := (nI (1))) hx hb d_L_overlap_14 (by decide) ?_
      exact vx_ret (W.widen (k := 3) (n := 18) (Nat.le_of_ble_eq_true rfl) (Nat.le_of_ble_eq_true rfl) (W.iret (v := (nI (1))) hx hb hr (fun t ht hW => ⟨⟨(nI (1)), (wn, fo), rfl, ⟨(by rw [hn]; decide), (by rw [hn]), fun q => absurd (hn.symm.trans q) (by decide), hj'⟩, by rw [ht]; exact hP, hD⟩, hS.F ht⟩) hS.2.2 d_L_overlap_15))
    · refine vx_catch (own := R_L) (name := E_IAE) hown [(⟨0, 9, 12, 21⟩ : ExceptionTableEntry)] (⟨0, 9, 16, 13⟩ : ExceptionTableEntry) [] (htabl.trans rfl) (fun z9 h9 => by rw [List.mem_singleton.mp h9]; exact Or.inr ⟨by decide, E_IOB, htB _ kw_237, hnc.2.1⟩) (by decide) (by decide) (htB _ kw_177) (va_Nw.use rfl (ha.2.1 _ nb_10)) hce hcv hcl ?_
      refine W.eq (g2 := F0 m 16 ls [.ref q9]) rfl ?_
      refine lv_astore (lv' := [(4, .ref q9), (0, .ref h), (1, .int (p0)), (2, .int (p1)), (3, .ref ou)]) hx hb d_L_overlap_16 hl (by decide) rfl (fun ls hl => ?_)
      refine lv_iconst (v := (nI (2))) hx hb d_L_overlap_18 (by decide) ?_
      exact vx_ret (W.widen (k := 3) (n := 18) (Nat.le_of_ble_eq_true rfl) (Nat.le_of_ble_eq_true rfl) (W.iret (v := (nI (2))) hx hb hr (fun t ht hW => ⟨⟨(nI (2)), (wn, fo), rfl, ⟨(by rw [hn]; decide), (by rw [hn]), fun q => absurd (hn.symm.trans q) (by decide), hj'⟩, by rw [ht]; exact hP, hD⟩, hS.F ht⟩) hS.2.2 d_L_overlap_19))
  · obtain ⟨hj', hP1, hD1⟩ := hB
    rw [ht] at hP1
    obtain ⟨hP, hD⟩ := wj1 hP hD hk1 hFw hP1 hD1
    obtain ⟨h1, h2⟩ := hw
    refine ja_last (k := 0) (x := rr) hx hb ha.1 hP hD hS 0 1 rfl rfl (by decide) (by decide) d_L_overlap_8 (fun H locs hP hD hS => ?_)
    have hP : va_P g.1 cls ((ou, eL g 1 (vp_updL fo 0 (rr))) :: wn) H := hP
    have hD : va_D A ((ou, eL g 1 (vp_updL fo 0 (rr))) :: wn) := hD
    refine lv_goto (tgt := 20) hx hb d_L_overlap_9 (by decide) ?_
    refine lv_iconst (v := (nI (0))) hx hb d_L_overlap_20 (by decide) ?_
    exact vx_ret (W.widen (k := 3) (n := 18) (Nat.le_of_ble_eq_true rfl) (Nat.le_of_ble_eq_true rfl) (W.iret (v := (nI (0))) hx hb hr (fun t ht hW => ⟨⟨(nI (0)), (wn, (vp_updL fo 0 (rr))), rfl, ⟨(by rw [h1]; decide), (by rw [h1]), fun _ => h2.symm, hj'⟩, by rw [ht]; exact hP, hD⟩, hS.F ht⟩) hS.2.2 d_L_overlap_21))
set_option maxHeartbeats 4000000 in
set_option maxRecDepth 100000 in
theorem h_touch (l : Launch) (hlt : l.stackTraces = false) (g : gT) (z : Nat) (H0 : Heap) (h : Nat) (σ : sT) (ws : va_W) (hj : jI g h σ ws) (ou : Nat) (fo : Nat → Int64) (p0 p1 : Int32) : vx_Met l y_L_touch w_L_touch ({ frames := 8, cells := 3, slots := 18, locals := 127 }) (va_Pc [.ref h, .int (p0), .int (p1), .ref ou] (pBL g z H0 (va_P g.1 cls ((ou, eL g 1 fo) :: ws) H0 ∧ va_D (zA z) ((ou, eL g 1 fo) :: ws)))) (hQ1 g h ou ws fo H0 (s_two toL σ p0 p1)) xNo 3 18 (va_A ((ou, eL g 1 fo) :: ws) H0.size) := by
  refine vx_ofWH (cc := c_L_touch) (maxL := 5) (ret := (some .int)) (hh := [(0, 9, 12, 21), (0, 9, 16, 13)]) (by decide) rfl ?_
  intro p e s m args below meth c s₁ B hml hv
  obtain ⟨rfl, ⟨hH0, ha, hP, hD0⟩, hnc⟩ := hv
  have hx := B.exec
  have hb := B.bytes
  have hr := B.returns
  have htB : ∀ w ∈ tB, w.before _ s = true := fun w h => atoms_spec (ws := w_L_touch) B.pre w (List.mem_cons_of_mem _ h)
  have htabl := vx_table (x := y_L_touch) B (atoms_spec (ws := w_L_touch) B.pre _ List.mem_cons_self)
  have hown : s.vm.findClass R_L = some m.cls := findClass_of_methodNamed B.named
  have hlocks := B.notSynchronized
  subst hH0
  have hD := hD0.self (sz := s.heap.size)
  have hz := aA_z hD0 ha.2.2.2.2.2
  have hDw : va_D (zA z) ws := tl_D hD0
  have hPw : va_P g.1 cls ws s.heap := tl_P hP
  obtain ⟨fsR, hrec⟩ := jI_recv hj
  have hnp := (jI_ok hj).1
  unfold hQ1
  generalize hAe : va_A ((ou, eL g 1 fo) :: ws) s.heap.size = A at hD hz ⊢
  have hFw : ∀ q, va_A ws s.heap.size q → A q := fun q h => by rw [← hAe]; exact tl_A q h
  have hS : va_S A s.heap s.heap [] := va_S.rf
  have hl := lv_entry ([.ref h, .int (p0), .int (p1), .ref ou]) (n := 5) (Nat.le_of_ble_eq_true rfl)
  rw [lg_entry_eq]
  generalize (lg_sl ([.ref h, .int (p0), .int (p1), .ref ou]) ++ List.replicate (5 - (lg_sl ([.ref h, .int (p0), .int (p1), .ref ou])).length) Slot.unset).toArray = ls at hl ⊢
  have hl : lv_has ls 5 [(0, .ref h), (1, .int (p0)), (2, .int (p1)), (3, .ref ou)] := hl
  refine lv_aload_n hx hb d_L_touch_0 rfl (lv_at hl 3 rfl) ?_
  refine lv_iconst (v := (nI (0))) hx hb d_L_touch_1 (by decide) ?_
  refine lv_aload_n hx hb d_L_touch_2 rfl (lv_at hl 0 rfl) ?_
  refine lv_iload_n hx hb d_L_touch_3 rfl (lv_at hl 1 rfl) ?_
  refine lv_iload_n hx hb d_L_touch_4 rfl (lv_at hl 2 rfl) ?_
  refine vx_calll (vx_runV (As := [.int (p0), .int (p1)]) (rest := [.int (nI (0)), .ref ou]) ⟨hx, hb, hml, hown, htB⟩ (s_J_touch l hlt g z _ h σ ws hj p0 p1) (cwV 2 htB (gV kw_386 kw_387 kw_388 kw_1 g_J_touch) rfl rfl rfl (by decide +kernel) ⟨Nat.le_of_ble_eq_true rfl, Nat.le_of_ble_eq_true rfl⟩) (pre_V hS hz ha (va_recv ha.1 hPw (ci := 1) (q0 := 0) rfl hrec) ⟨hPw, hDw⟩) rfl rfl hl.1 rfl (lv_room (Nat.le_of_ble_eq_true rfl)) d_L_touch_5 ⟨Nat.le_of_ble_eq_true rfl, Nat.le_of_ble_eq_true rfl⟩) hS (fun q _ h => hFw q h) hFw (fun q _ h => hFw q h) (fun E ce q9 wn t H1 locs ht hal hpx hBX hsz hk hS hce hcv hcl => ?_) (fun rr wn t H1 locs ht hvm hw hB hz1 hk1 hS => ?_)
  · obtain ⟨hE, hj', hP1, hD1⟩ := hBX
    rw [ht] at hP1
    obtain ⟨hP, hD⟩ := wj1 hP hD hk hFw hP1 hD1
    rcases hE with ⟨rfl, hn⟩ | ⟨rfl, hn⟩
    · refine vx_catch (own := R_L) (name := E_IOB) hown [] (⟨0, 9, 12, 21⟩ : ExceptionTableEntry) [(⟨0, 9, 16, 13⟩ : ExceptionTableEntry)] (htabl.trans rfl) (fun _ h => absurd h List.not_mem_nil) (by decide) (by decide) (htB _ kw_237) (va_Nw.use rfl (ha.2.1 _ nb_3)) hce hcv hcl ?_
      refine W.eq (g2 := F0 m 12 ls [.ref q9]) rfl ?_
      refine lv_astore (lv' := [(4, .ref q9), (0, .ref h), (1, .int (p0)), (2, .int (p1)), (3, .ref ou)]) hx hb d_L_touch_12 hl (by decide) rfl (fun ls hl => ?_)
      refine lv_iconst (v := (nI (1))) hx hb d_L_touch_14 (by decide) ?_
      exact vx_ret (W.widen (k := 3) (n := 18) (Nat.le_of_ble_eq_true rfl) (Nat.le_of_ble_eq_true rfl) (W.iret (v := (nI (1))) hx hb hr (fun t ht hW => ⟨⟨(nI (1)), (wn, fo), rfl, ⟨(by rw [hn]; decide), (by rw [hn]), fun q => absurd (hn.symm.trans q) (by decide), hj'⟩, by rw [ht]; exact hP, hD⟩, hS.F ht⟩) hS.2.2 d_L_touch_15))
    · refine vx_catch (own := R_L) (name := E_IAE) hown [(⟨0, 9, 12, 21⟩ : ExceptionTableEntry)] (⟨0, 9, 16, 13⟩ : ExceptionTableEntry) [] (htabl.trans rfl) (fun z9 h9 => by rw [List.mem_singleton.mp h9]; exact Or.inr ⟨by decide, E_IOB, htB _ kw_237, hnc.2.1⟩) (by decide) (by decide) (htB _ kw_177) (va_Nw.use rfl (ha.2.1 _ nb_10)) hce hcv hcl ?_
      refine W.eq (g2 := F0 m 16 ls [.ref q9]) rfl ?_
      refine lv_astore (lv' := [(4, .ref q9), (0, .ref h), (1, .int (p0)), (2, .int (p1)), (3, .ref ou)]) hx hb d_L_touch_16 hl (by decide) rfl (fun ls hl => ?_)
      refine lv_iconst (v := (nI (2))) hx hb d_L_touch_18 (by decide) ?_
      exact vx_ret (W.widen (k := 3) (n := 18) (Nat.le_of_ble_eq_true rfl) (Nat.le_of_ble_eq_true rfl) (W.iret (v := (nI (2))) hx hb hr (fun t ht hW => ⟨⟨(nI (2)), (wn, fo), rfl, ⟨(by rw [hn]; decide), (by rw [hn]), fun q => absurd (hn.symm.trans q) (by decide), hj'⟩, by rw [ht]; exact hP, hD⟩, hS.F ht⟩) hS.2.2 d_L_touch_19))
  · obtain ⟨hj', hP1, hD1⟩ := hB
    rw [ht] at hP1
    obtain ⟨hP, hD⟩ := wj1 hP hD hk1 hFw hP1 hD1
    obtain ⟨h1, h2⟩ := hw
    refine ja_last (k := 0) (x := rr) hx hb ha.1 hP hD hS 0 1 rfl rfl (by decide) (by decide) d_L_touch_8 (fun H locs hP hD hS => ?_)
    have hP : va_P g.1 cls ((ou, eL g 1 (vp_updL fo 0 (rr))) :: wn) H := hP
    have hD : va_D A ((ou, eL g 1 (vp_updL fo 0 (rr))) :: wn) := hD
    refine lv_goto (tgt := 20) hx hb d_L_touch_9 (by decide) ?_
    refine lv_iconst (v := (nI (0))) hx hb d_L_touch_20 (by decide) ?_
    exact vx_ret (W.widen (k := 3) (n := 18) (Nat.le_of_ble_eq_true rfl) (Nat.le_of_ble_eq_true rfl) (W.iret (v := (nI (0))) hx hb hr (fun t ht hW => ⟨⟨(nI (0)), (wn, (vp_updL fo 0 (rr))), rfl, ⟨(by rw [h1]; decide), (by rw [h1]), fun _ => h2.symm, hj'⟩, by rw [ht]; exact hP, hD⟩, hS.F ht⟩) hS.2.2 d_L_touch_21))
set_option maxHeartbeats 4000000 in
set_option maxRecDepth 100000 in
theorem h_has (l : Launch) (hlt : l.stackTraces = false) (g : gT) (z : Nat) (H0 : Heap) (h : Nat) (σ : sT) (ws : va_W) (hj : jI g h σ ws) (ou : Nat) (fo : Nat → Int64) (p0 p1 p2 p3 : Int32) : vx_Met l y_L_has w_L_has ({ frames := 8, cells := 1, slots := 6, locals := 127 }) (va_Pc [.ref h, .int (p0), .int (p1), .int (p2), .int (p3), .ref ou] (pBL g z H0 (va_P g.1 cls ((ou, eL g 1 fo) :: ws) H0 ∧ va_D (zA z) ((ou, eL g 1 fo) :: ws)))) (hQ1 g h ou ws fo H0 (s_has σ p0 p1 p2 p3)) xNo 1 6 (va_A ((ou, eL g 1 fo) :: ws) H0.size) := by
  refine vx_ofWH (cc := c_L_has) (maxL := 7) (ret := (some .int)) (hh := [(0, 21, 24, 21)]) (by decide) rfl ?_
  intro p e s m args below meth c s₁ B hml hv
  obtain ⟨rfl, ⟨hH0, ha, hP, hD0⟩, hnc⟩ := hv
  have hx := B.exec
  have hb := B.bytes
  have hr := B.returns
  have htB : ∀ w ∈ tB, w.before _ s = true := fun w h => atoms_spec (ws := w_L_has) B.pre w (List.mem_cons_of_mem _ h)
  have htabl := vx_table (x := y_L_has) B (atoms_spec (ws := w_L_has) B.pre _ List.mem_cons_self)
  have hown : s.vm.findClass R_L = some m.cls := findClass_of_methodNamed B.named
  have hlocks := B.notSynchronized
  subst hH0
  have hD := hD0.self (sz := s.heap.size)
  have hz := aA_z hD0 ha.2.2.2.2.2
  have hDw : va_D (zA z) ws := tl_D hD0
  have hPw : va_P g.1 cls ws s.heap := tl_P hP
  obtain ⟨fsR, hrec⟩ := jI_recv hj
  have hnp := (jI_ok hj).1
  unfold hQ1
  generalize hAe : va_A ((ou, eL g 1 fo) :: ws) s.heap.size = A at hD hz ⊢
  have hFw : ∀ q, va_A ws s.heap.size q → A q := fun q h => by rw [← hAe]; exact tl_A q h
  have hS : va_S A s.heap s.heap [] := va_S.rf
  have hl := lv_entry ([.ref h, .int (p0), .int (p1), .int (p2), .int (p3), .ref ou]) (n := 7) (Nat.le_of_ble_eq_true rfl)
  rw [lg_entry_eq]
  generalize (lg_sl ([.ref h, .int (p0), .int (p1), .int (p2), .int (p3), .ref ou]) ++ List.replicate (7 - (lg_sl ([.ref h, .int (p0), .int (p1), .int (p2), .int (p3), .ref ou])).length) Slot.unset).toArray = ls at hl ⊢
  have hl : lv_has ls 7 [(0, .ref h), (1, .int (p0)), (2, .int (p1)), (3, .int (p2)), (4, .int (p3)), (5, .ref ou)] := hl
  refine lv_aload hx hb d_L_has_0 (lv_at hl 5 rfl) ?_
  refine lv_iconst (v := (nI (0))) hx hb d_L_has_2 (by decide) ?_
  refine lv_aload_n hx hb d_L_has_3 rfl (lv_at hl 0 rfl) ?_
  refine lv_iload_n hx hb d_L_has_4 rfl (lv_at hl 1 rfl) ?_
  refine lv_iload_n hx hb d_L_has_5 rfl (lv_at hl 2 rfl) ?_
  refine lv_iload_n hx hb d_L_has_6 rfl (lv_at hl 3 rfl) ?_
  refine lv_iload hx hb d_L_has_7 (lv_at hl 4 rfl) ?_
  refine vx_calli (vx_runV (As := [.int (p0), .int (p1), .int (p2), .int (p3)]) (rest := [.int (nI (0)), .ref ou]) ⟨hx, hb, hml, hown, htB⟩ (s_J_has l hlt g z _ h σ ws hj p0 p1 p2 p3) (cwV 4 htB (gV kw_399 kw_400 kw_401 kw_1 g_J_has) rfl rfl rfl (by decide +kernel) ⟨Nat.le_of_ble_eq_true rfl, Nat.le_of_ble_eq_true rfl⟩) (pre_V hS hz ha (va_recv ha.1 hPw (ci := 1) (q0 := 0) rfl hrec) ⟨hPw, hDw⟩) rfl rfl hl.1 rfl (lv_room (Nat.le_of_ble_eq_true rfl)) d_L_has_9 ⟨Nat.le_of_ble_eq_true rfl, Nat.le_of_ble_eq_true rfl⟩) hS (fun q _ h => hFw q h) hFw (fun q _ h => hFw q h) (fun E ce q9 wn t H1 locs ht hal hpx hBX hsz hk hS hce hcv hcl => ?_) (fun rr wn t H1 locs ht hvm hw hB hz1 hk1 hS => ?_)
  · obtain ⟨hE, hj', hP1, hD1⟩ := hBX
    rw [ht] at hP1
    obtain ⟨hP, hD⟩ := wj1 hP hD hk hFw hP1 hD1
    obtain ⟨rfl, hn⟩ := hE
    refine vx_catch (own := R_L) (name := E_IOB) hown [] (⟨0, 21, 24, 21⟩ : ExceptionTableEntry) [] (htabl.trans rfl) (fun _ h => absurd h List.not_mem_nil) (by decide) (by decide) (htB _ kw_237) (va_Nw.use rfl (ha.2.1 _ nb_3)) hce hcv hcl ?_
    refine W.eq (g2 := F0 m 24 ls [.ref q9]) rfl ?_
    refine lv_astore (lv' := [(6, .ref q9), (0, .ref h), (1, .int (p0)), (2, .int (p1)), (3, .int (p2)), (4, .int (p3)), (5, .ref ou)]) hx hb d_L_has_24 hl (by decide) rfl (fun ls hl => ?_)
    refine lv_iconst (v := (nI (1))) hx hb d_L_has_26 (by decide) ?_
    exact vx_ret (W.widen (k := 1) (n := 6) (Nat.le_of_ble_eq_true rfl) (Nat.le_of_ble_eq_true rfl) (W.iret (v := (nI (1))) hx hb hr (fun t ht hW => ⟨⟨(nI (1)), (wn, fo), rfl, ⟨(by rw [hn]; decide), (by rw [hn]), fun q => absurd (hn.symm.trans q) (by decide), hj'⟩, by rw [ht]; exact hP, hD⟩, hS.F ht⟩) hS.2.2 d_L_has_27))
  · obtain ⟨hj', hP1, hD1⟩ := hB
    rw [ht] at hP1
    obtain ⟨hP, hD⟩ := wj1 hP hD hk1 hFw hP1 hD1
    obtain ⟨h1, h2, h3⟩ := hw
    refine lv_if_eq (tgt := 19) hx hb d_L_has_12 (by decide) (fun c_1 => ?_) (fun c_1 => ?_)
    · refine lv_lconst (v := 0) hx hb d_L_has_19 (by decide) ?_
      refine ja_last (k := 0) (x := 0) hx hb ha.1 hP hD hS 0 1 rfl rfl (by decide) (by decide) d_L_has_20 (fun H locs hP hD hS => ?_)
      have hP : va_P g.1 cls ((ou, eL g 1 (vp_updL fo 0 (0))) :: wn) H := hP
      have hD : va_D A ((ou, eL g 1 (vp_updL fo 0 (0))) :: wn) := hD
      refine lv_goto (tgt := 28) hx hb d_L_has_21 (by decide) ?_
      refine lv_iconst (v := (nI (0))) hx hb d_L_has_28 (by decide) ?_
      exact vx_ret (W.widen (k := 1) (n := 6) (Nat.le_of_ble_eq_true rfl) (Nat.le_of_ble_eq_true rfl) (W.iret (v := (nI (0))) hx hb hr (fun t ht hW => ⟨⟨(nI (0)), (wn, (vp_updL fo 0 (0))), rfl, ⟨(by rw [h1]; decide), (by rw [h1]), fun _ => (b_01 h2 h3).1 c_1, hj'⟩, by rw [ht]; exact hP, hD⟩, hS.F ht⟩) hS.2.2 d_L_has_29))
    · refine lv_lconst (v := 1) hx hb d_L_has_15 (by decide) ?_
      refine lv_goto (tgt := 20) hx hb d_L_has_16 (by decide) ?_
      refine ja_last (k := 0) (x := 1) hx hb ha.1 hP hD hS 0 1 rfl rfl (by decide) (by decide) d_L_has_20 (fun H locs hP hD hS => ?_)
      have hP : va_P g.1 cls ((ou, eL g 1 (vp_updL fo 0 (1))) :: wn) H := hP
      have hD : va_D A ((ou, eL g 1 (vp_updL fo 0 (1))) :: wn) := hD
      refine lv_goto (tgt := 28) hx hb d_L_has_21 (by decide) ?_
      refine lv_iconst (v := (nI (0))) hx hb d_L_has_28 (by decide) ?_
      exact vx_ret (W.widen (k := 1) (n := 6) (Nat.le_of_ble_eq_true rfl) (Nat.le_of_ble_eq_true rfl) (W.iret (v := (nI (0))) hx hb hr (fun t ht hW => ⟨⟨(nI (0)), (wn, (vp_updL fo 0 (1))), rfl, ⟨(by rw [h1]; decide), (by rw [h1]), fun _ => (b_01 h2 h3).2 c_1, hj'⟩, by rw [ht]; exact hP, hD⟩, hS.F ht⟩) hS.2.2 d_L_has_29))
set_option maxHeartbeats 4000000 in
set_option maxRecDepth 100000 in
theorem h_strength (l : Launch) (hlt : l.stackTraces = false) (g : gT) (z : Nat) (H0 : Heap) (h : Nat) (σ : sT) (ws : va_W) (hj : jI g h σ ws) (ou : Nat) (fo : Nat → Int64) (p0 : Int32) : vx_Met l y_L_strength w_L_strength ({ frames := 8, cells := 1, slots := 6, locals := 125 }) (va_Pc [.ref h, .int (p0), .ref ou] (pBL g z H0 (va_P g.1 cls ((ou, eL g 1 fo) :: ws) H0 ∧ va_D (zA z) ((ou, eL g 1 fo) :: ws)))) (hQ1 g h ou ws fo H0 (s_strength σ p0)) xNo 1 6 (va_A ((ou, eL g 1 fo) :: ws) H0.size) := by
  refine vx_ofWH (cc := c_L_strength) (maxL := 4) (ret := (some .int)) (hh := [(0, 8, 11, 21)]) (by decide) rfl ?_
  intro p e s m args below meth c s₁ B hml hv
  obtain ⟨rfl, ⟨hH0, ha, hP, hD0⟩, hnc⟩ := hv
  have hx := B.exec
  have hb := B.bytes
  have hr := B.returns
  have htB : ∀ w ∈ tB, w.before _ s = true := fun w h => atoms_spec (ws := w_L_strength) B.pre w (List.mem_cons_of_mem _ h)
  have htabl := vx_table (x := y_L_strength) B (atoms_spec (ws := w_L_strength) B.pre _ List.mem_cons_self)
  have hown : s.vm.findClass R_L = some m.cls := findClass_of_methodNamed B.named
  have hlocks := B.notSynchronized
  subst hH0
  have hD := hD0.self (sz := s.heap.size)
  have hz := aA_z hD0 ha.2.2.2.2.2
  have hDw : va_D (zA z) ws := tl_D hD0
  have hPw : va_P g.1 cls ws s.heap := tl_P hP
  obtain ⟨fsR, hrec⟩ := jI_recv hj
  have hnp := (jI_ok hj).1
  unfold hQ1
  generalize hAe : va_A ((ou, eL g 1 fo) :: ws) s.heap.size = A at hD hz ⊢
  have hFw : ∀ q, va_A ws s.heap.size q → A q := fun q h => by rw [← hAe]; exact tl_A q h
  have hS : va_S A s.heap s.heap [] := va_S.rf
  have hl := lv_entry ([.ref h, .int (p0), .ref ou]) (n := 4) (Nat.le_of_ble_eq_true rfl)
  rw [lg_entry_eq]
  generalize (lg_sl ([.ref h, .int (p0), .ref ou]) ++ List.replicate (4 - (lg_sl ([.ref h, .int (p0), .ref ou])).length) Slot.unset).toArray = ls at hl ⊢
  have hl : lv_has ls 4 [(0, .ref h), (1, .int (p0)), (2, .ref ou)] := hl
  refine lv_aload_n hx hb d_L_strength_0 rfl (lv_at hl 2 rfl) ?_
  refine lv_iconst (v := (nI (0))) hx hb d_L_strength_1 (by decide) ?_
  refine lv_aload_n hx hb d_L_strength_2 rfl (lv_at hl 0 rfl) ?_
  refine lv_iload_n hx hb d_L_strength_3 rfl (lv_at hl 1 rfl) ?_
  refine vx_calll (vx_runV (As := [.int (p0)]) (rest := [.int (nI (0)), .ref ou]) ⟨hx, hb, hml, hown, htB⟩ (s_J_strength l hlt g z _ h σ ws hj p0) (cwV 1 htB (gV kw_418 kw_419 kw_420 kw_1 g_J_strength) rfl rfl rfl (by decide +kernel) ⟨Nat.le_of_ble_eq_true rfl, Nat.le_of_ble_eq_true rfl⟩) (pre_V hS hz ha (va_recv ha.1 hPw (ci := 1) (q0 := 0) rfl hrec) ⟨hPw, hDw⟩) rfl rfl hl.1 rfl (lv_room (Nat.le_of_ble_eq_true rfl)) d_L_strength_4 ⟨Nat.le_of_ble_eq_true rfl, Nat.le_of_ble_eq_true rfl⟩) hS (fun q _ h => hFw q h) hFw (fun q _ h => hFw q h) (fun E ce q9 wn t H1 locs ht hal hpx hBX hsz hk hS hce hcv hcl => ?_) (fun rr wn t H1 locs ht hvm hw hB hz1 hk1 hS => ?_)
  · obtain ⟨hE, hj', hP1, hD1⟩ := hBX
    rw [ht] at hP1
    obtain ⟨hP, hD⟩ := wj1 hP hD hk hFw hP1 hD1
    obtain ⟨rfl, hn⟩ := hE
    refine vx_catch (own := R_L) (name := E_IOB) hown [] (⟨0, 8, 11, 21⟩ : ExceptionTableEntry) [] (htabl.trans rfl) (fun _ h => absurd h List.not_mem_nil) (by decide) (by decide) (htB _ kw_237) (va_Nw.use rfl (ha.2.1 _ nb_3)) hce hcv hcl ?_
    refine W.eq (g2 := F0 m 11 ls [.ref q9]) rfl ?_
    refine lv_astore_n (lv' := [(3, .ref q9), (0, .ref h), (1, .int (p0)), (2, .ref ou)]) hx hb d_L_strength_11 rfl hl (by decide) rfl (fun ls hl => ?_)
    refine lv_iconst (v := (nI (1))) hx hb d_L_strength_12 (by decide) ?_
    exact vx_ret (W.widen (k := 1) (n := 6) (Nat.le_of_ble_eq_true rfl) (Nat.le_of_ble_eq_true rfl) (W.iret (v := (nI (1))) hx hb hr (fun t ht hW => ⟨⟨(nI (1)), (wn, fo), rfl, ⟨(by rw [hn]; decide), (by rw [hn]), fun q => absurd (hn.symm.trans q) (by decide), hj'⟩, by rw [ht]; exact hP, hD⟩, hS.F ht⟩) hS.2.2 d_L_strength_13))
  · obtain ⟨hj', hP1, hD1⟩ := hB
    rw [ht] at hP1
    obtain ⟨hP, hD⟩ := wj1 hP hD hk1 hFw hP1 hD1
    obtain ⟨h1, h2⟩ := hw
    refine ja_last (k := 0) (x := rr) hx hb ha.1 hP hD hS 0 1 rfl rfl (by decide) (by decide) d_L_strength_7 (fun H locs hP hD hS => ?_)
    have hP : va_P g.1 cls ((ou, eL g 1 (vp_updL fo 0 (rr))) :: wn) H := hP
    have hD : va_D A ((ou, eL g 1 (vp_updL fo 0 (rr))) :: wn) := hD
    refine lv_goto (tgt := 14) hx hb d_L_strength_8 (by decide) ?_
    refine lv_iconst (v := (nI (0))) hx hb d_L_strength_14 (by decide) ?_
    exact vx_ret (W.widen (k := 1) (n := 6) (Nat.le_of_ble_eq_true rfl) (Nat.le_of_ble_eq_true rfl) (W.iret (v := (nI (0))) hx hb hr (fun t ht hW => ⟨⟨(nI (0)), (wn, (vp_updL fo 0 (rr))), rfl, ⟨(by rw [h1]; decide), (by rw [h1]), fun _ => h2.symm, hj'⟩, by rw [ht]; exact hP, hD⟩, hS.F ht⟩) hS.2.2 d_L_strength_15))
set_option maxHeartbeats 4000000 in
set_option maxRecDepth 100000 in
theorem h_about (l : Launch) (hlt : l.stackTraces = false) (g : gT) (z : Nat) (H0 : Heap) (h : Nat) (σ : sT) (ws : va_W) (hj : jI g h σ ws) (ou : Nat) (fo : Nat → Int64) (p0 p1 : Int32) : vx_Met l y_L_about w_L_about ({ frames := 8, cells := 2, slots := 12, locals := 126 }) (va_Pc [.ref h, .int (p0), .int (p1), .ref ou] (pBL g z H0 (va_P g.1 cls ((ou, eL g 1 fo) :: ws) H0 ∧ va_D (zA z) ((ou, eL g 1 fo) :: ws)))) (hQ1 g h ou ws fo H0 (s_about σ p0 p1)) xNo 2 12 (va_A ((ou, eL g 1 fo) :: ws) H0.size) := by
  refine vx_ofWH (cc := c_L_about) (maxL := 5) (ret := (some .int)) (hh := [(0, 9, 12, 21)]) (by decide) rfl ?_
  intro p e s m args below meth c s₁ B hml hv
  obtain ⟨rfl, ⟨hH0, ha, hP, hD0⟩, hnc⟩ := hv
  have hx := B.exec
  have hb := B.bytes
  have hr := B.returns
  have htB : ∀ w ∈ tB, w.before _ s = true := fun w h => atoms_spec (ws := w_L_about) B.pre w (List.mem_cons_of_mem _ h)
  have htabl := vx_table (x := y_L_about) B (atoms_spec (ws := w_L_about) B.pre _ List.mem_cons_self)
  have hown : s.vm.findClass R_L = some m.cls := findClass_of_methodNamed B.named
  have hlocks := B.notSynchronized
  subst hH0
  have hD := hD0.self (sz := s.heap.size)
  have hz := aA_z hD0 ha.2.2.2.2.2
  have hDw : va_D (zA z) ws := tl_D hD0
  have hPw : va_P g.1 cls ws s.heap := tl_P hP
  obtain ⟨fsR, hrec⟩ := jI_recv hj
  have hnp := (jI_ok hj).1
  unfold hQ1
  generalize hAe : va_A ((ou, eL g 1 fo) :: ws) s.heap.size = A at hD hz ⊢
  have hFw : ∀ q, va_A ws s.heap.size q → A q := fun q h => by rw [← hAe]; exact tl_A q h
  have hS : va_S A s.heap s.heap [] := va_S.rf
  have hl := lv_entry ([.ref h, .int (p0), .int (p1), .ref ou]) (n := 5) (Nat.le_of_ble_eq_true rfl)
  rw [lg_entry_eq]
  generalize (lg_sl ([.ref h, .int (p0), .int (p1), .ref ou]) ++ List.replicate (5 - (lg_sl ([.ref h, .int (p0), .int (p1), .ref ou])).length) Slot.unset).toArray = ls at hl ⊢
  have hl : lv_has ls 5 [(0, .ref h), (1, .int (p0)), (2, .int (p1)), (3, .ref ou)] := hl
  refine lv_aload_n hx hb d_L_about_0 rfl (lv_at hl 3 rfl) ?_
  refine lv_iconst (v := (nI (0))) hx hb d_L_about_1 (by decide) ?_
  refine lv_aload_n hx hb d_L_about_2 rfl (lv_at hl 0 rfl) ?_
  refine lv_iload_n hx hb d_L_about_3 rfl (lv_at hl 1 rfl) ?_
  refine lv_iload_n hx hb d_L_about_4 rfl (lv_at hl 2 rfl) ?_
  refine vx_calll (vx_runV (As := [.int (p0), .int (p1)]) (rest := [.int (nI (0)), .ref ou]) ⟨hx, hb, hml, hown, htB⟩ (s_J_about l hlt g z _ h σ ws hj p0 p1) (cwV 2 htB (gV kw_431 kw_432 kw_433 kw_1 g_J_about) rfl rfl rfl (by decide +kernel) ⟨Nat.le_of_ble_eq_true rfl, Nat.le_of_ble_eq_true rfl⟩) (pre_V hS hz ha (va_recv ha.1 hPw (ci := 1) (q0 := 0) rfl hrec) ⟨hPw, hDw⟩) rfl rfl hl.1 rfl (lv_room (Nat.le_of_ble_eq_true rfl)) d_L_about_5 ⟨Nat.le_of_ble_eq_true rfl, Nat.le_of_ble_eq_true rfl⟩) hS (fun q _ h => hFw q h) hFw (fun q _ h => hFw q h) (fun E ce q9 wn t H1 locs ht hal hpx hBX hsz hk hS hce hcv hcl => ?_) (fun rr wn t H1 locs ht hvm hw hB hz1 hk1 hS => ?_)
  · obtain ⟨hE, hj', hP1, hD1⟩ := hBX
    rw [ht] at hP1
    obtain ⟨hP, hD⟩ := wj1 hP hD hk hFw hP1 hD1
    obtain ⟨rfl, hn⟩ := hE
    refine vx_catch (own := R_L) (name := E_IOB) hown [] (⟨0, 9, 12, 21⟩ : ExceptionTableEntry) [] (htabl.trans rfl) (fun _ h => absurd h List.not_mem_nil) (by decide) (by decide) (htB _ kw_237) (va_Nw.use rfl (ha.2.1 _ nb_3)) hce hcv hcl ?_
    refine W.eq (g2 := F0 m 12 ls [.ref q9]) rfl ?_
    refine lv_astore (lv' := [(4, .ref q9), (0, .ref h), (1, .int (p0)), (2, .int (p1)), (3, .ref ou)]) hx hb d_L_about_12 hl (by decide) rfl (fun ls hl => ?_)
    refine lv_iconst (v := (nI (1))) hx hb d_L_about_14 (by decide) ?_
    exact vx_ret (W.widen (k := 2) (n := 12) (Nat.le_of_ble_eq_true rfl) (Nat.le_of_ble_eq_true rfl) (W.iret (v := (nI (1))) hx hb hr (fun t ht hW => ⟨⟨(nI (1)), (wn, fo), rfl, ⟨(by rw [hn]; decide), (by rw [hn]), fun q => absurd (hn.symm.trans q) (by decide), hj'⟩, by rw [ht]; exact hP, hD⟩, hS.F ht⟩) hS.2.2 d_L_about_15))
  · obtain ⟨hj', hP1, hD1⟩ := hB
    rw [ht] at hP1
    obtain ⟨hP, hD⟩ := wj1 hP hD hk1 hFw hP1 hD1
    obtain ⟨h1, h2⟩ := hw
    refine ja_last (k := 0) (x := rr) hx hb ha.1 hP hD hS 0 1 rfl rfl (by decide) (by decide) d_L_about_8 (fun H locs hP hD hS => ?_)
    have hP : va_P g.1 cls ((ou, eL g 1 (vp_updL fo 0 (rr))) :: wn) H := hP
    have hD : va_D A ((ou, eL g 1 (vp_updL fo 0 (rr))) :: wn) := hD
    refine lv_goto (tgt := 16) hx hb d_L_about_9 (by decide) ?_
    refine lv_iconst (v := (nI (0))) hx hb d_L_about_16 (by decide) ?_
    exact vx_ret (W.widen (k := 2) (n := 12) (Nat.le_of_ble_eq_true rfl) (Nat.le_of_ble_eq_true rfl) (W.iret (v := (nI (0))) hx hb hr (fun t ht hW => ⟨⟨(nI (0)), (wn, (vp_updL fo 0 (rr))), rfl, ⟨(by rw [h1]; decide), (by rw [h1]), fun _ => h2.symm, hj'⟩, by rw [ht]; exact hP, hD⟩, hS.F ht⟩) hS.2.2 d_L_about_17))
set_option maxHeartbeats 4000000 in
set_option maxRecDepth 100000 in
theorem h_clear (l : Launch) (hlt : l.stackTraces = false) (g : gT) (z : Nat) (H0 : Heap) (h : Nat) (σ : sT) (ws : va_W) (hj : jI g h σ ws) (p0 : Int32) : vx_Met l y_L_clear w_L_clear ({ frames := 7, cells := 1, slots := 6, locals := 103 }) (va_Pc [.ref h, .int (p0)] (pBL g z H0 (va_P g.1 cls ws H0 ∧ va_D (zA z) ws))) (hQ0 g h ws H0 (s_clear σ p0)) xNo 1 6 (va_A ws H0.size) := by
  refine vx_ofWH (cc := c_L_clear) (maxL := 3) (ret := (some .int)) (hh := [(0, 5, 8, 13)]) (by decide) rfl ?_
  intro p e s m args below meth c s₁ B hml hv
  obtain ⟨rfl, ⟨hH0, ha, hP, hD0⟩, hnc⟩ := hv
  have hx := B.exec
  have hb := B.bytes
  have hr := B.returns
  have htB : ∀ w ∈ tB, w.before _ s = true := fun w h => atoms_spec (ws := w_L_clear) B.pre w (List.mem_cons_of_mem _ h)
  have htabl := vx_table (x := y_L_clear) B (atoms_spec (ws := w_L_clear) B.pre _ List.mem_cons_self)
  have hown : s.vm.findClass R_L = some m.cls := findClass_of_methodNamed B.named
  have hlocks := B.notSynchronized
  subst hH0
  have hD := hD0.self (sz := s.heap.size)
  have hz := aA_z hD0 ha.2.2.2.2.2
  have hDw : va_D (zA z) ws := hD0
  have hPw : va_P g.1 cls ws s.heap := hP
  obtain ⟨fsR, hrec⟩ := jI_recv hj
  have hnp := (jI_ok hj).1
  unfold hQ0
  generalize hAe : va_A ws s.heap.size = A at hD hz ⊢
  have hFw : ∀ q, va_A ws s.heap.size q → A q := fun q h => by rw [← hAe]; exact h
  have hS : va_S A s.heap s.heap [] := va_S.rf
  have hl := lv_entry ([.ref h, .int (p0)]) (n := 3) (Nat.le_of_ble_eq_true rfl)
  rw [lg_entry_eq]
  generalize (lg_sl ([.ref h, .int (p0)]) ++ List.replicate (3 - (lg_sl ([.ref h, .int (p0)])).length) Slot.unset).toArray = ls at hl ⊢
  have hl : lv_has ls 3 [(0, .ref h), (1, .int (p0))] := hl
  refine lv_aload_n hx hb d_L_clear_0 rfl (lv_at hl 0 rfl) ?_
  refine lv_iload_n hx hb d_L_clear_1 rfl (lv_at hl 1 rfl) ?_
  refine vx_callv (vx_runV (As := [.int (p0)]) (rest := []) ⟨hx, hb, hml, hown, htB⟩ (s_J_clear l hlt g z _ h σ ws hj p0) (cwV 1 htB (gV kw_272 kw_273 kw_274 kw_1 g_J_clear) rfl rfl rfl (by decide +kernel) ⟨Nat.le_of_ble_eq_true rfl, Nat.le_of_ble_eq_true rfl⟩) (pre_V hS hz ha (va_recv ha.1 hPw (ci := 1) (q0 := 0) rfl hrec) ⟨hPw, hDw⟩) rfl rfl hl.1 rfl (lv_room (Nat.le_of_ble_eq_true rfl)) d_L_clear_2 ⟨Nat.le_of_ble_eq_true rfl, Nat.le_of_ble_eq_true rfl⟩) hS (fun q _ h => hFw q h) hFw (fun q _ h => hFw q h) (fun E ce q9 wn t H1 locs ht hal hpx hBX hsz hk hS hce hcv hcl => ?_) (fun wn t H1 locs ht hvm hw hB hz1 hk1 hS => ?_)
  · obtain ⟨hE, hj', hP1, hD1⟩ := hBX
    rw [ht] at hP1
    have hP := hP1
    have hD := hD1.weaken (fun _ _ _ h => hFw _ h)
    obtain ⟨rfl, hn⟩ := hE
    refine vx_catch (own := R_L) (name := E_IAE) hown [] (⟨0, 5, 8, 13⟩ : ExceptionTableEntry) [] (htabl.trans rfl) (fun _ h => absurd h List.not_mem_nil) (by decide) (by decide) (htB _ kw_177) (va_Nw.use rfl (ha.2.1 _ nb_10)) hce hcv hcl ?_
    refine W.eq (g2 := F0 m 8 ls [.ref q9]) rfl ?_
    refine lv_astore_n (lv' := [(2, .ref q9), (0, .ref h), (1, .int (p0))]) hx hb d_L_clear_8 rfl hl (by decide) rfl (fun ls hl => ?_)
    refine lv_iconst (v := (nI (1))) hx hb d_L_clear_9 (by decide) ?_
    exact vx_ret (W.widen (k := 1) (n := 6) (Nat.le_of_ble_eq_true rfl) (Nat.le_of_ble_eq_true rfl) (W.iret (v := (nI (1))) hx hb hr (fun t ht hW => ⟨⟨(nI (1)), wn, rfl, ⟨(by rw [hn]; decide), (by rw [hn]), hj'⟩, by rw [ht]; exact hP, hD⟩, hS.F ht⟩) hS.2.2 d_L_clear_10))
  · obtain ⟨hj', hP1, hD1⟩ := hB
    rw [ht] at hP1
    have hP := hP1
    have hD := hD1.weaken (fun _ _ _ h => hFw _ h)
    have h1 := hw
    refine lv_goto (tgt := 11) hx hb d_L_clear_5 (by decide) ?_
    refine lv_iconst (v := (nI (0))) hx hb d_L_clear_11 (by decide) ?_
    exact vx_ret (W.widen (k := 1) (n := 6) (Nat.le_of_ble_eq_true rfl) (Nat.le_of_ble_eq_true rfl) (W.iret (v := (nI (0))) hx hb hr (fun t ht hW => ⟨⟨(nI (0)), wn, rfl, ⟨(by rw [h1]; decide), (by rw [h1]), hj'⟩, by rw [ht]; exact hP, hD⟩, hS.F ht⟩) hS.2.2 d_L_clear_12))
set_option maxHeartbeats 4000000 in
set_option maxRecDepth 100000 in
theorem h_row (l : Launch) (hlt : l.stackTraces = false) (g : gT) (z : Nat) (H0 : Heap) (h : Nat) (σ : sT) (ws : va_W) (hj : jI g h σ ws) (p0 p1 : Int32) : vx_Met l y_L_row w_L_row ({ frames := 8, cells := 2, slots := 12, locals := 124 }) (va_Pc [.ref h, .int (p0), .int (p1)] (pBL g z H0 (va_P g.1 cls ws H0 ∧ va_D (zA z) ws))) (hQ0 g h ws H0 (s_row σ p0 p1)) xNo 2 12 (va_A ws H0.size) := by
  refine vx_ofWH (cc := c_L_row) (maxL := 4) (ret := (some .int)) (hh := [(0, 6, 9, 21), (0, 6, 12, 13)]) (by decide) rfl ?_
  intro p e s m args below meth c s₁ B hml hv
  obtain ⟨rfl, ⟨hH0, ha, hP, hD0⟩, hnc⟩ := hv
  have hx := B.exec
  have hb := B.bytes
  have hr := B.returns
  have htB : ∀ w ∈ tB, w.before _ s = true := fun w h => atoms_spec (ws := w_L_row) B.pre w (List.mem_cons_of_mem _ h)
  have htabl := vx_table (x := y_L_row) B (atoms_spec (ws := w_L_row) B.pre _ List.mem_cons_self)
  have hown : s.vm.findClass R_L = some m.cls := findClass_of_methodNamed B.named
  have hlocks := B.notSynchronized
  subst hH0
  have hD := hD0.self (sz := s.heap.size)
  have hz := aA_z hD0 ha.2.2.2.2.2
  have hDw : va_D (zA z) ws := hD0
  have hPw : va_P g.1 cls ws s.heap := hP
  obtain ⟨fsR, hrec⟩ := jI_recv hj
  have hnp := (jI_ok hj).1
  unfold hQ0
  generalize hAe : va_A ws s.heap.size = A at hD hz ⊢
  have hFw : ∀ q, va_A ws s.heap.size q → A q := fun q h => by rw [← hAe]; exact h
  have hS : va_S A s.heap s.heap [] := va_S.rf
  have hl := lv_entry ([.ref h, .int (p0), .int (p1)]) (n := 4) (Nat.le_of_ble_eq_true rfl)
  rw [lg_entry_eq]
  generalize (lg_sl ([.ref h, .int (p0), .int (p1)]) ++ List.replicate (4 - (lg_sl ([.ref h, .int (p0), .int (p1)])).length) Slot.unset).toArray = ls at hl ⊢
  have hl : lv_has ls 4 [(0, .ref h), (1, .int (p0)), (2, .int (p1))] := hl
  refine lv_aload_n hx hb d_L_row_0 rfl (lv_at hl 0 rfl) ?_
  refine lv_iload_n hx hb d_L_row_1 rfl (lv_at hl 1 rfl) ?_
  refine lv_iload_n hx hb d_L_row_2 rfl (lv_at hl 2 rfl) ?_
  refine vx_callv (vx_runV (As := [.int (p0), .int (p1)]) (rest := []) ⟨hx, hb, hml, hown, htB⟩ (s_J_row l hlt g z _ h σ ws hj p0 p1) (cwV 2 htB (gV kw_410 kw_411 kw_412 kw_1 g_J_row) rfl rfl rfl (by decide +kernel) ⟨Nat.le_of_ble_eq_true rfl, Nat.le_of_ble_eq_true rfl⟩) (pre_V hS hz ha (va_recv ha.1 hPw (ci := 1) (q0 := 0) rfl hrec) ⟨hPw, hDw⟩) rfl rfl hl.1 rfl (lv_room (Nat.le_of_ble_eq_true rfl)) d_L_row_3 ⟨Nat.le_of_ble_eq_true rfl, Nat.le_of_ble_eq_true rfl⟩) hS (fun q _ h => hFw q h) hFw (fun q _ h => hFw q h) (fun E ce q9 wn t H1 locs ht hal hpx hBX hsz hk hS hce hcv hcl => ?_) (fun wn t H1 locs ht hvm hw hB hz1 hk1 hS => ?_)
  · obtain ⟨hE, hj', hP1, hD1⟩ := hBX
    rw [ht] at hP1
    have hP := hP1
    have hD := hD1.weaken (fun _ _ _ h => hFw _ h)
    rcases hE with ⟨rfl, hn⟩ | ⟨rfl, hn⟩
    · refine vx_catch (own := R_L) (name := E_IOB) hown [] (⟨0, 6, 9, 21⟩ : ExceptionTableEntry) [(⟨0, 6, 12, 13⟩ : ExceptionTableEntry)] (htabl.trans rfl) (fun _ h => absurd h List.not_mem_nil) (by decide) (by decide) (htB _ kw_237) (va_Nw.use rfl (ha.2.1 _ nb_3)) hce hcv hcl ?_
      refine W.eq (g2 := F0 m 9 ls [.ref q9]) rfl ?_
      refine lv_astore_n (lv' := [(3, .ref q9), (0, .ref h), (1, .int (p0)), (2, .int (p1))]) hx hb d_L_row_9 rfl hl (by decide) rfl (fun ls hl => ?_)
      refine lv_iconst (v := (nI (1))) hx hb d_L_row_10 (by decide) ?_
      exact vx_ret (W.widen (k := 2) (n := 12) (Nat.le_of_ble_eq_true rfl) (Nat.le_of_ble_eq_true rfl) (W.iret (v := (nI (1))) hx hb hr (fun t ht hW => ⟨⟨(nI (1)), wn, rfl, ⟨(by rw [hn]; decide), (by rw [hn]), hj'⟩, by rw [ht]; exact hP, hD⟩, hS.F ht⟩) hS.2.2 d_L_row_11))
    · refine vx_catch (own := R_L) (name := E_IAE) hown [(⟨0, 6, 9, 21⟩ : ExceptionTableEntry)] (⟨0, 6, 12, 13⟩ : ExceptionTableEntry) [] (htabl.trans rfl) (fun z9 h9 => by rw [List.mem_singleton.mp h9]; exact Or.inr ⟨by decide, E_IOB, htB _ kw_237, hnc.2.1⟩) (by decide) (by decide) (htB _ kw_177) (va_Nw.use rfl (ha.2.1 _ nb_10)) hce hcv hcl ?_
      refine W.eq (g2 := F0 m 12 ls [.ref q9]) rfl ?_
      refine lv_astore_n (lv' := [(3, .ref q9), (0, .ref h), (1, .int (p0)), (2, .int (p1))]) hx hb d_L_row_12 rfl hl (by decide) rfl (fun ls hl => ?_)
      refine lv_iconst (v := (nI (2))) hx hb d_L_row_13 (by decide) ?_
      exact vx_ret (W.widen (k := 2) (n := 12) (Nat.le_of_ble_eq_true rfl) (Nat.le_of_ble_eq_true rfl) (W.iret (v := (nI (2))) hx hb hr (fun t ht hW => ⟨⟨(nI (2)), wn, rfl, ⟨(by rw [hn]; decide), (by rw [hn]), hj'⟩, by rw [ht]; exact hP, hD⟩, hS.F ht⟩) hS.2.2 d_L_row_14))
  · obtain ⟨hj', hP1, hD1⟩ := hB
    rw [ht] at hP1
    have hP := hP1
    have hD := hD1.weaken (fun _ _ _ h => hFw _ h)
    have h1 := hw
    refine lv_goto (tgt := 15) hx hb d_L_row_6 (by decide) ?_
    refine lv_iconst (v := (nI (0))) hx hb d_L_row_15 (by decide) ?_
    exact vx_ret (W.widen (k := 2) (n := 12) (Nat.le_of_ble_eq_true rfl) (Nat.le_of_ble_eq_true rfl) (W.iret (v := (nI (0))) hx hb hr (fun t ht hW => ⟨⟨(nI (0)), wn, rfl, ⟨(by rw [h1]; decide), (by rw [h1]), hj'⟩, by rw [ht]; exact hP, hD⟩, hS.F ht⟩) hS.2.2 d_L_row_16))
set_option maxHeartbeats 4000000 in
set_option maxRecDepth 100000 in
theorem h_part (l : Launch) (hlt : l.stackTraces = false) (g : gT) (z : Nat) (H0 : Heap) (h : Nat) (σ : sT) (ws : va_W) (hj : jI g h σ ws) (ou : Nat) (fo : Nat → Int64) (p0 p1 p2 p3 p4 p5 : Int32) : vx_Met l y_L_part w_L_part ({ frames := 8, cells := 4, slots := 158, locals := 132 }) (va_Pc [.ref h, .int (p0), .int (p1), .int (p2), .int (p3), .int (p4), .int (p5), .ref ou] (pBL g z H0 (va_P g.1 cls ((ou, eL g 1 fo) :: ws) H0 ∧ va_D (zA z) ((ou, eL g 1 fo) :: ws)))) (hQ1 g h ou ws fo H0 (s_part σ p0 p1 p2 p3 p4 p5)) xNo 4 158 (va_A ((ou, eL g 1 fo) :: ws) H0.size) := by
  refine vx_ofWH (cc := c_L_part) (maxL := 9) (ret := (some .int)) (hh := [(0, 18, 21, 13), (0, 18, 25, 15)]) (by decide) rfl ?_
  intro p e s m args below meth c s₁ B hml hv
  obtain ⟨rfl, ⟨hH0, ha, hP, hD0⟩, hnc⟩ := hv
  have hx := B.exec
  have hb := B.bytes
  have hr := B.returns
  have htB : ∀ w ∈ tB, w.before _ s = true := fun w h => atoms_spec (ws := w_L_part) B.pre w (List.mem_cons_of_mem _ h)
  have htabl := vx_table (x := y_L_part) B (atoms_spec (ws := w_L_part) B.pre _ List.mem_cons_self)
  have hown : s.vm.findClass R_L = some m.cls := findClass_of_methodNamed B.named
  have hlocks := B.notSynchronized
  subst hH0
  have hD := hD0.self (sz := s.heap.size)
  have hz := aA_z hD0 ha.2.2.2.2.2
  have hDw : va_D (zA z) ws := tl_D hD0
  have hPw : va_P g.1 cls ws s.heap := tl_P hP
  obtain ⟨fsR, hrec⟩ := jI_recv hj
  have hnp := (jI_ok hj).1
  unfold hQ1
  generalize hAe : va_A ((ou, eL g 1 fo) :: ws) s.heap.size = A at hD hz ⊢
  have hFw : ∀ q, va_A ws s.heap.size q → A q := fun q h => by rw [← hAe]; exact tl_A q h
  have hS : va_S A s.heap s.heap [] := va_S.rf
  have hl := lv_entry ([.ref h, .int (p0), .int (p1), .int (p2), .int (p3), .int (p4), .int (p5), .ref ou]) (n := 9) (Nat.le_of_ble_eq_true rfl)
  rw [lg_entry_eq]
  generalize (lg_sl ([.ref h, .int (p0), .int (p1), .int (p2), .int (p3), .int (p4), .int (p5), .ref ou]) ++ List.replicate (9 - (lg_sl ([.ref h, .int (p0), .int (p1), .int (p2), .int (p3), .int (p4), .int (p5), .ref ou])).length) Slot.unset).toArray = ls at hl ⊢
  have hl : lv_has ls 9 [(0, .ref h), (1, .int (p0)), (2, .int (p1)), (3, .int (p2)), (4, .int (p3)), (5, .int (p4)), (6, .int (p5)), (7, .ref ou)] := hl
  refine lv_aload hx hb d_L_part_0 (lv_at hl 7 rfl) ?_
  refine lv_iconst (v := (nI (0))) hx hb d_L_part_2 (by decide) ?_
  refine lv_aload_n hx hb d_L_part_3 rfl (lv_at hl 0 rfl) ?_
  refine lv_iload_n hx hb d_L_part_4 rfl (lv_at hl 1 rfl) ?_
  refine lv_iload_n hx hb d_L_part_5 rfl (lv_at hl 2 rfl) ?_
  refine lv_iload_n hx hb d_L_part_6 rfl (lv_at hl 3 rfl) ?_
  refine lv_iload hx hb d_L_part_7 (lv_at hl 4 rfl) ?_
  refine lv_iload hx hb d_L_part_9 (lv_at hl 5 rfl) ?_
  refine lv_iload hx hb d_L_part_11 (lv_at hl 6 rfl) ?_
  refine vx_calli (vx_runV (As := [.int (p0), .int (p1), .int (p2), .int (p3), .int (p4), .int (p5)]) (rest := [.int (nI (0)), .ref ou]) ⟨hx, hb, hml, hown, htB⟩ (s_J_part l hlt g z _ h σ ws hj p0 p1 p2 p3 p4 p5) (cwV 6 htB (gV kw_179 kw_180 kw_181 kw_1 g_J_part) rfl rfl rfl (by decide +kernel) ⟨Nat.le_of_ble_eq_true rfl, Nat.le_of_ble_eq_true rfl⟩) (pre_V hS hz ha (va_recv ha.1 hPw (ci := 1) (q0 := 0) rfl hrec) ⟨hPw, hDw⟩) rfl rfl hl.1 rfl (lv_room (Nat.le_of_ble_eq_true rfl)) d_L_part_13 ⟨Nat.le_of_ble_eq_true rfl, Nat.le_of_ble_eq_true rfl⟩) hS (fun q _ h => hFw q h) hFw (fun q _ h => hFw q h) (fun E ce q9 wn t H1 locs ht hal hpx hBX hsz hk hS hce hcv hcl => ?_) (fun rr wn t H1 locs ht hvm hw hB hz1 hk1 hS => ?_)
  · obtain ⟨hE, hj', hP1, hD1⟩ := hBX
    rw [ht] at hP1
    obtain ⟨hP, hD⟩ := wj1 hP hD hk hFw hP1 hD1
    rcases hE with ⟨rfl, hn⟩ | ⟨rfl, hn⟩
    · refine vx_catch (own := R_L) (name := E_IAE) hown [] (⟨0, 18, 21, 13⟩ : ExceptionTableEntry) [(⟨0, 18, 25, 15⟩ : ExceptionTableEntry)] (htabl.trans rfl) (fun _ h => absurd h List.not_mem_nil) (by decide) (by decide) (htB _ kw_177) (va_Nw.use rfl (ha.2.1 _ nb_10)) hce hcv hcl ?_
      refine W.eq (g2 := F0 m 21 ls [.ref q9]) rfl ?_
      refine lv_astore (lv' := [(8, .ref q9), (0, .ref h), (1, .int (p0)), (2, .int (p1)), (3, .int (p2)), (4, .int (p3)), (5, .int (p4)), (6, .int (p5)), (7, .ref ou)]) hx hb d_L_part_21 hl (by decide) rfl (fun ls hl => ?_)
      refine lv_iconst (v := (nI (1))) hx hb d_L_part_23 (by decide) ?_
      exact vx_ret (W.widen (k := 4) (n := 158) (Nat.le_of_ble_eq_true rfl) (Nat.le_of_ble_eq_true rfl) (W.iret (v := (nI (1))) hx hb hr (fun t ht hW => ⟨⟨(nI (1)), (wn, fo), rfl, ⟨(by rw [hn]; decide), (by rw [hn]), fun q => absurd (hn.symm.trans q) (by decide), hj'⟩, by rw [ht]; exact hP, hD⟩, hS.F ht⟩) hS.2.2 d_L_part_24))
    · refine vx_catch (own := R_L) (name := E_ISE) hown [(⟨0, 18, 21, 13⟩ : ExceptionTableEntry)] (⟨0, 18, 25, 15⟩ : ExceptionTableEntry) [] (htabl.trans rfl) (fun z9 h9 => by rw [List.mem_singleton.mp h9]; exact Or.inr ⟨by decide, E_IAE, htB _ kw_177, hnc.1⟩) (by decide) (by decide) (htB _ kw_178) (va_Nw.use rfl (ha.2.1 _ nb_11)) hce hcv hcl ?_
      refine W.eq (g2 := F0 m 25 ls [.ref q9]) rfl ?_
      refine lv_astore (lv' := [(8, .ref q9), (0, .ref h), (1, .int (p0)), (2, .int (p1)), (3, .int (p2)), (4, .int (p3)), (5, .int (p4)), (6, .int (p5)), (7, .ref ou)]) hx hb d_L_part_25 hl (by decide) rfl (fun ls hl => ?_)
      refine lv_iconst (v := (nI (2))) hx hb d_L_part_27 (by decide) ?_
      exact vx_ret (W.widen (k := 4) (n := 158) (Nat.le_of_ble_eq_true rfl) (Nat.le_of_ble_eq_true rfl) (W.iret (v := (nI (2))) hx hb hr (fun t ht hW => ⟨⟨(nI (2)), (wn, fo), rfl, ⟨(by rw [hn]; decide), (by rw [hn]), fun q => absurd (hn.symm.trans q) (by decide), hj'⟩, by rw [ht]; exact hP, hD⟩, hS.F ht⟩) hS.2.2 d_L_part_28))
  · obtain ⟨hj', hP1, hD1⟩ := hB
    rw [ht] at hP1
    obtain ⟨hP, hD⟩ := wj1 hP hD hk1 hFw hP1 hD1
    obtain ⟨h1, h2⟩ := hw
    refine lv_i2l (v := ((rr)).toInt64) hx hb d_L_part_16 rfl ?_
    refine ja_last (k := 0) (x := ((rr)).toInt64) hx hb ha.1 hP hD hS 0 1 rfl rfl (by decide) (by decide) d_L_part_17 (fun H locs hP hD hS => ?_)
    have hP : va_P g.1 cls ((ou, eL g 1 (vp_updL fo 0 (((rr)).toInt64))) :: wn) H := hP
    have hD : va_D A ((ou, eL g 1 (vp_updL fo 0 (((rr)).toInt64))) :: wn) := hD
    refine lv_goto (tgt := 29) hx hb d_L_part_18 (by decide) ?_
    refine lv_iconst (v := (nI (0))) hx hb d_L_part_29 (by decide) ?_
    exact vx_ret (W.widen (k := 4) (n := 158) (Nat.le_of_ble_eq_true rfl) (Nat.le_of_ble_eq_true rfl) (W.iret (v := (nI (0))) hx hb hr (fun t ht hW => ⟨⟨(nI (0)), (wn, (vp_updL fo 0 (((rr)).toInt64))), rfl, ⟨(by rw [h1]; decide), (by rw [h1]), fun _ => h2.symm, hj'⟩, by rw [ht]; exact hP, hD⟩, hS.F ht⟩) hS.2.2 d_L_part_30))
set_option maxHeartbeats 4000000 in
set_option maxRecDepth 100000 in
theorem h_cut (l : Launch) (hlt : l.stackTraces = false) (g : gT) (z : Nat) (H0 : Heap) (h : Nat) (σ : sT) (ws : va_W) (hj : jI g h σ ws) (ou : Nat) (fo : Nat → Int64) (p0 p1 p2 p3 p4 p5 p6 : Int32) : vx_Met l y_L_cut w_L_cut ({ frames := 8, cells := 3, slots := 18, locals := 164 }) (va_Pc [.ref h, .int (p0), .int (p1), .int (p2), .int (p3), .int (p4), .int (p5), .int (p6), .ref ou] (pBL g z H0 (va_P g.1 cls ((ou, eL g 1 fo) :: ws) H0 ∧ va_D (zA z) ((ou, eL g 1 fo) :: ws)))) (hQ1 g h ou ws fo H0 (s_cut σ p0 p1 p2 p3 p4 p5 p6)) xNo 3 18 (va_A ((ou, eL g 1 fo) :: ws) H0.size) := by
  refine vx_ofWH (cc := c_L_cut) (maxL := 10) (ret := (some .int)) (hh := [(0, 27, 30, 21), (0, 27, 34, 13), (0, 27, 38, 15)]) (by decide) rfl ?_
  intro p e s m args below meth c s₁ B hml hv
  obtain ⟨rfl, ⟨hH0, ha, hP, hD0⟩, hnc⟩ := hv
  have hx := B.exec
  have hb := B.bytes
  have hr := B.returns
  have htB : ∀ w ∈ tB, w.before _ s = true := fun w h => atoms_spec (ws := w_L_cut) B.pre w (List.mem_cons_of_mem _ h)
  have htabl := vx_table (x := y_L_cut) B (atoms_spec (ws := w_L_cut) B.pre _ List.mem_cons_self)
  have hown : s.vm.findClass R_L = some m.cls := findClass_of_methodNamed B.named
  have hlocks := B.notSynchronized
  subst hH0
  have hD := hD0.self (sz := s.heap.size)
  have hz := aA_z hD0 ha.2.2.2.2.2
  have hDw : va_D (zA z) ws := tl_D hD0
  have hPw : va_P g.1 cls ws s.heap := tl_P hP
  obtain ⟨fsR, hrec⟩ := jI_recv hj
  have hnp := (jI_ok hj).1
  unfold hQ1
  generalize hAe : va_A ((ou, eL g 1 fo) :: ws) s.heap.size = A at hD hz ⊢
  have hFw : ∀ q, va_A ws s.heap.size q → A q := fun q h => by rw [← hAe]; exact tl_A q h
  have hS : va_S A s.heap s.heap [] := va_S.rf
  have hl := lv_entry ([.ref h, .int (p0), .int (p1), .int (p2), .int (p3), .int (p4), .int (p5), .int (p6), .ref ou]) (n := 10) (Nat.le_of_ble_eq_true rfl)
  rw [lg_entry_eq]
  generalize (lg_sl ([.ref h, .int (p0), .int (p1), .int (p2), .int (p3), .int (p4), .int (p5), .int (p6), .ref ou]) ++ List.replicate (10 - (lg_sl ([.ref h, .int (p0), .int (p1), .int (p2), .int (p3), .int (p4), .int (p5), .int (p6), .ref ou])).length) Slot.unset).toArray = ls at hl ⊢
  have hl : lv_has ls 10 [(0, .ref h), (1, .int (p0)), (2, .int (p1)), (3, .int (p2)), (4, .int (p3)), (5, .int (p4)), (6, .int (p5)), (7, .int (p6)), (8, .ref ou)] := hl
  refine lv_aload hx hb d_L_cut_0 (lv_at hl 8 rfl) ?_
  refine lv_iconst (v := (nI (0))) hx hb d_L_cut_2 (by decide) ?_
  refine lv_aload_n hx hb d_L_cut_3 rfl (lv_at hl 0 rfl) ?_
  refine lv_iload_n hx hb d_L_cut_4 rfl (lv_at hl 1 rfl) ?_
  refine lv_iload_n hx hb d_L_cut_5 rfl (lv_at hl 2 rfl) ?_
  refine lv_iload_n hx hb d_L_cut_6 rfl (lv_at hl 3 rfl) ?_
  refine lv_iload hx hb d_L_cut_7 (lv_at hl 4 rfl) ?_
  refine lv_iload hx hb d_L_cut_9 (lv_at hl 5 rfl) ?_
  refine lv_iload hx hb d_L_cut_11 (lv_at hl 6 rfl) ?_
  refine lv_iload hx hb d_L_cut_13 (lv_at hl 7 rfl) ?_
  by_cases hbd : noP p0 σ.1
  · have hnp2 := hnp
    refine vx_calli (vx_runV (As := [.int (p0), .int (p1), .int (p2), .int (p3), .int (p4), .int (p5), .int (p6)]) (rest := [.int (nI (0)), .ref ou]) ⟨hx, hb, hml, hown, htB⟩ (s_J_cutBad l hlt g z _ h σ ws hj p0 p1 p2 p3 p4 p5 p6 hbd) (cwV 7 htB (gV kw_238 kw_239 kw_240 kw_1 g_J_cut) rfl rfl rfl (by decide +kernel) ⟨Nat.le_of_ble_eq_true rfl, Nat.le_of_ble_eq_true rfl⟩) (pre_V hS hz ha (va_recv ha.1 hPw (ci := 1) (q0 := 0) rfl hrec) ⟨hPw, hDw⟩) rfl rfl hl.1 rfl (lv_room (Nat.le_of_ble_eq_true rfl)) d_L_cut_15 ⟨Nat.le_of_ble_eq_true rfl, Nat.le_of_ble_eq_true rfl⟩) hS (fun q _ h => hFw q h) hFw (fun q _ h => hFw q h) (fun E ce q9 wn t H1 locs ht hal hpx hBX hsz hk hS hce hcv hcl => ?_) (fun rr wn t H1 locs ht hvm hw hB hz1 hk1 hS => ?_)
    · obtain ⟨hE, hj', hP1, hD1⟩ := hBX
      rw [ht] at hP1
      obtain ⟨hP, hD⟩ := wj1 hP hD hk hFw hP1 hD1
      rcases hE with ⟨rfl, hn⟩ | ⟨rfl, hn⟩ | ⟨rfl, hn⟩
      · refine vx_catch (own := R_L) (name := E_IOB) hown [] (⟨0, 27, 30, 21⟩ : ExceptionTableEntry) [(⟨0, 27, 34, 13⟩ : ExceptionTableEntry), (⟨0, 27, 38, 15⟩ : ExceptionTableEntry)] (htabl.trans rfl) (fun _ h => absurd h List.not_mem_nil) (by decide) (by decide) (htB _ kw_237) (va_Nw.use rfl (ha.2.1 _ nb_3)) hce hcv hcl ?_
        refine W.eq (g2 := F0 m 30 ls [.ref q9]) rfl ?_
        refine lv_astore (lv' := [(9, .ref q9), (0, .ref h), (1, .int (p0)), (2, .int (p1)), (3, .int (p2)), (4, .int (p3)), (5, .int (p4)), (6, .int (p5)), (7, .int (p6)), (8, .ref ou)]) hx hb d_L_cut_30 hl (by decide) rfl (fun ls hl => ?_)
        refine lv_iconst (v := (nI (1))) hx hb d_L_cut_32 (by decide) ?_
        exact vx_ret (W.widen (k := 3) (n := 18) (Nat.le_of_ble_eq_true rfl) (Nat.le_of_ble_eq_true rfl) (W.iret (v := (nI (1))) hx hb hr (fun t ht hW => ⟨⟨(nI (1)), (wn, fo), rfl, ⟨(by rw [hn]; decide), (by rw [hn]), fun q => absurd (hn.symm.trans q) (by decide), hj'⟩, by rw [ht]; exact hP, hD⟩, hS.F ht⟩) hS.2.2 d_L_cut_33))
      · refine vx_catch (own := R_L) (name := E_IAE) hown [(⟨0, 27, 30, 21⟩ : ExceptionTableEntry)] (⟨0, 27, 34, 13⟩ : ExceptionTableEntry) [(⟨0, 27, 38, 15⟩ : ExceptionTableEntry)] (htabl.trans rfl) (fun z9 h9 => by rw [List.mem_singleton.mp h9]; exact Or.inr ⟨by decide, E_IOB, htB _ kw_237, hnc.2.1⟩) (by decide) (by decide) (htB _ kw_177) (va_Nw.use rfl (ha.2.1 _ nb_10)) hce hcv hcl ?_
        refine W.eq (g2 := F0 m 34 ls [.ref q9]) rfl ?_
        refine lv_astore (lv' := [(9, .ref q9), (0, .ref h), (1, .int (p0)), (2, .int (p1)), (3, .int (p2)), (4, .int (p3)), (5, .int (p4)), (6, .int (p5)), (7, .int (p6)), (8, .ref ou)]) hx hb d_L_cut_34 hl (by decide) rfl (fun ls hl => ?_)
        refine lv_iconst (v := (nI (2))) hx hb d_L_cut_36 (by decide) ?_
        exact vx_ret (W.widen (k := 3) (n := 18) (Nat.le_of_ble_eq_true rfl) (Nat.le_of_ble_eq_true rfl) (W.iret (v := (nI (2))) hx hb hr (fun t ht hW => ⟨⟨(nI (2)), (wn, fo), rfl, ⟨(by rw [hn]; decide), (by rw [hn]), fun q => absurd (hn.symm.trans q) (by decide), hj'⟩, by rw [ht]; exact hP, hD⟩, hS.F ht⟩) hS.2.2 d_L_cut_37))
      · refine vx_catch (own := R_L) (name := E_ISE) hown [(⟨0, 27, 30, 21⟩ : ExceptionTableEntry), (⟨0, 27, 34, 13⟩ : ExceptionTableEntry)] (⟨0, 27, 38, 15⟩ : ExceptionTableEntry) [] (htabl.trans rfl) (fun z9 h9 => by rcases List.mem_cons.mp h9 with q | h9; (rw [q]; exact Or.inr ⟨by decide, E_IOB, htB _ kw_237, hnc.2.2⟩); (rw [List.mem_singleton.mp h9]; exact Or.inr ⟨by decide, E_IAE, htB _ kw_177, hnc.1⟩)) (by decide) (by decide) (htB _ kw_178) (va_Nw.use rfl (ha.2.1 _ nb_11)) hce hcv hcl ?_
        refine W.eq (g2 := F0 m 38 ls [.ref q9]) rfl ?_
        refine lv_astore (lv' := [(9, .ref q9), (0, .ref h), (1, .int (p0)), (2, .int (p1)), (3, .int (p2)), (4, .int (p3)), (5, .int (p4)), (6, .int (p5)), (7, .int (p6)), (8, .ref ou)]) hx hb d_L_cut_38 hl (by decide) rfl (fun ls hl => ?_)
        refine lv_iconst (v := (nI (3))) hx hb d_L_cut_40 (by decide) ?_
        exact vx_ret (W.widen (k := 3) (n := 18) (Nat.le_of_ble_eq_true rfl) (Nat.le_of_ble_eq_true rfl) (W.iret (v := (nI (3))) hx hb hr (fun t ht hW => ⟨⟨(nI (3)), (wn, fo), rfl, ⟨(by rw [hn]; decide), (by rw [hn]), fun q => absurd (hn.symm.trans q) (by decide), hj'⟩, by rw [ht]; exact hP, hD⟩, hS.F ht⟩) hS.2.2 d_L_cut_41))
    · obtain ⟨hj', hP1, hD1⟩ := hB
      rw [ht] at hP1
      obtain ⟨hP, hD⟩ := wj1 hP hD hk1 hFw hP1 hD1
      obtain ⟨h1, h2, h3⟩ := hw
      refine lv_if_eq (tgt := 25) hx hb d_L_cut_18 (by decide) (fun c_1 => ?_) (fun c_1 => ?_)
      · refine lv_lconst (v := 0) hx hb d_L_cut_25 (by decide) ?_
        refine ja_last (k := 0) (x := 0) hx hb ha.1 hP hD hS 0 1 rfl rfl (by decide) (by decide) d_L_cut_26 (fun H locs hP hD hS => ?_)
        have hP : va_P g.1 cls ((ou, eL g 1 (vp_updL fo 0 (0))) :: wn) H := hP
        have hD : va_D A ((ou, eL g 1 (vp_updL fo 0 (0))) :: wn) := hD
        refine lv_goto (tgt := 42) hx hb d_L_cut_27 (by decide) ?_
        refine lv_iconst (v := (nI (0))) hx hb d_L_cut_42 (by decide) ?_
        exact vx_ret (W.widen (k := 3) (n := 18) (Nat.le_of_ble_eq_true rfl) (Nat.le_of_ble_eq_true rfl) (W.iret (v := (nI (0))) hx hb hr (fun t ht hW => ⟨⟨(nI (0)), (wn, (vp_updL fo 0 (0))), rfl, ⟨(by rw [h1]; decide), (by rw [h1]), fun _ => (b_01 h2 h3).1 c_1, hj'⟩, by rw [ht]; exact hP, hD⟩, hS.F ht⟩) hS.2.2 d_L_cut_43))
      · refine lv_lconst (v := 1) hx hb d_L_cut_21 (by decide) ?_
        refine lv_goto (tgt := 26) hx hb d_L_cut_22 (by decide) ?_
        refine ja_last (k := 0) (x := 1) hx hb ha.1 hP hD hS 0 1 rfl rfl (by decide) (by decide) d_L_cut_26 (fun H locs hP hD hS => ?_)
        have hP : va_P g.1 cls ((ou, eL g 1 (vp_updL fo 0 (1))) :: wn) H := hP
        have hD : va_D A ((ou, eL g 1 (vp_updL fo 0 (1))) :: wn) := hD
        refine lv_goto (tgt := 42) hx hb d_L_cut_27 (by decide) ?_
        refine lv_iconst (v := (nI (0))) hx hb d_L_cut_42 (by decide) ?_
        exact vx_ret (W.widen (k := 3) (n := 18) (Nat.le_of_ble_eq_true rfl) (Nat.le_of_ble_eq_true rfl) (W.iret (v := (nI (0))) hx hb hr (fun t ht hW => ⟨⟨(nI (0)), (wn, (vp_updL fo 0 (1))), rfl, ⟨(by rw [h1]; decide), (by rw [h1]), fun _ => (b_01 h2 h3).2 c_1, hj'⟩, by rw [ht]; exact hP, hD⟩, hS.F ht⟩) hS.2.2 d_L_cut_43))
  · obtain ⟨j, hjn, rfl⟩ := noP_not (by omega) hbd
    refine vx_calli (vx_runV (As := [.int (nI (j)), .int (p1), .int (p2), .int (p3), .int (p4), .int (p5), .int (p6)]) (rest := [.int (nI (0)), .ref ou]) ⟨hx, hb, hml, hown, htB⟩ (s_J_cut l hlt g z _ h σ ws hj j p1 p2 p3 p4 p5 p6 hjn) (cwV 7 htB (gV kw_238 kw_239 kw_240 kw_1 g_J_cut) rfl rfl rfl (by decide +kernel) ⟨Nat.le_of_ble_eq_true rfl, Nat.le_of_ble_eq_true rfl⟩) (pre_V hS hz ha (va_recv ha.1 hPw (ci := 1) (q0 := 0) rfl hrec) ⟨hPw, hDw⟩) rfl rfl hl.1 rfl (lv_room (Nat.le_of_ble_eq_true rfl)) d_L_cut_15 ⟨Nat.le_of_ble_eq_true rfl, Nat.le_of_ble_eq_true rfl⟩) hS (fun q _ h => hFw q h) hFw (fun q _ h => hFw q h) (fun E ce q9 wn t H1 locs ht hal hpx hBX hsz hk hS hce hcv hcl => ?_) (fun rr wn t H1 locs ht hvm hw hB hz1 hk1 hS => ?_)
    · obtain ⟨hE, hj', hP1, hD1⟩ := hBX
      rw [ht] at hP1
      obtain ⟨hP, hD⟩ := wj1 hP hD hk hFw hP1 hD1
      rcases hE with ⟨rfl, hn⟩ | ⟨rfl, hn⟩ | ⟨rfl, hn⟩
      · refine vx_catch (own := R_L) (name := E_IOB) hown [] (⟨0, 27, 30, 21⟩ : ExceptionTableEntry) [(⟨0, 27, 34, 13⟩ : ExceptionTableEntry), (⟨0, 27, 38, 15⟩ : ExceptionTableEntry)] (htabl.trans rfl) (fun _ h => absurd h List.not_mem_nil) (by decide) (by decide) (htB _ kw_237) (va_Nw.use rfl (ha.2.1 _ nb_3)) hce hcv hcl ?_
        refine W.eq (g2 := F0 m 30 ls [.ref q9]) rfl ?_
        refine lv_astore (lv' := [(9, .ref q9), (0, .ref h), (1, .int (nI (j))), (2, .int (p1)), (3, .int (p2)), (4, .int (p3)), (5, .int (p4)), (6, .int (p5)), (7, .int (p6)), (8, .ref ou)]) hx hb d_L_cut_30 hl (by decide) rfl (fun ls hl => ?_)
        refine lv_iconst (v := (nI (1))) hx hb d_L_cut_32 (by decide) ?_
        exact vx_ret (W.widen (k := 3) (n := 18) (Nat.le_of_ble_eq_true rfl) (Nat.le_of_ble_eq_true rfl) (W.iret (v := (nI (1))) hx hb hr (fun t ht hW => ⟨⟨(nI (1)), (wn, fo), rfl, ⟨(by rw [hn]; decide), (by rw [hn]), fun q => absurd (hn.symm.trans q) (by decide), hj'⟩, by rw [ht]; exact hP, hD⟩, hS.F ht⟩) hS.2.2 d_L_cut_33))
      · refine vx_catch (own := R_L) (name := E_IAE) hown [(⟨0, 27, 30, 21⟩ : ExceptionTableEntry)] (⟨0, 27, 34, 13⟩ : ExceptionTableEntry) [(⟨0, 27, 38, 15⟩ : ExceptionTableEntry)] (htabl.trans rfl) (fun z9 h9 => by rw [List.mem_singleton.mp h9]; exact Or.inr ⟨by decide, E_IOB, htB _ kw_237, hnc.2.1⟩) (by decide) (by decide) (htB _ kw_177) (va_Nw.use rfl (ha.2.1 _ nb_10)) hce hcv hcl ?_
        refine W.eq (g2 := F0 m 34 ls [.ref q9]) rfl ?_
        refine lv_astore (lv' := [(9, .ref q9), (0, .ref h), (1, .int (nI (j))), (2, .int (p1)), (3, .int (p2)), (4, .int (p3)), (5, .int (p4)), (6, .int (p5)), (7, .int (p6)), (8, .ref ou)]) hx hb d_L_cut_34 hl (by decide) rfl (fun ls hl => ?_)
        refine lv_iconst (v := (nI (2))) hx hb d_L_cut_36 (by decide) ?_
        exact vx_ret (W.widen (k := 3) (n := 18) (Nat.le_of_ble_eq_true rfl) (Nat.le_of_ble_eq_true rfl) (W.iret (v := (nI (2))) hx hb hr (fun t ht hW => ⟨⟨(nI (2)), (wn, fo), rfl, ⟨(by rw [hn]; decide), (by rw [hn]), fun q => absurd (hn.symm.trans q) (by decide), hj'⟩, by rw [ht]; exact hP, hD⟩, hS.F ht⟩) hS.2.2 d_L_cut_37))
      · refine vx_catch (own := R_L) (name := E_ISE) hown [(⟨0, 27, 30, 21⟩ : ExceptionTableEntry), (⟨0, 27, 34, 13⟩ : ExceptionTableEntry)] (⟨0, 27, 38, 15⟩ : ExceptionTableEntry) [] (htabl.trans rfl) (fun z9 h9 => by rcases List.mem_cons.mp h9 with q | h9; (rw [q]; exact Or.inr ⟨by decide, E_IOB, htB _ kw_237, hnc.2.2⟩); (rw [List.mem_singleton.mp h9]; exact Or.inr ⟨by decide, E_IAE, htB _ kw_177, hnc.1⟩)) (by decide) (by decide) (htB _ kw_178) (va_Nw.use rfl (ha.2.1 _ nb_11)) hce hcv hcl ?_
        refine W.eq (g2 := F0 m 38 ls [.ref q9]) rfl ?_
        refine lv_astore (lv' := [(9, .ref q9), (0, .ref h), (1, .int (nI (j))), (2, .int (p1)), (3, .int (p2)), (4, .int (p3)), (5, .int (p4)), (6, .int (p5)), (7, .int (p6)), (8, .ref ou)]) hx hb d_L_cut_38 hl (by decide) rfl (fun ls hl => ?_)
        refine lv_iconst (v := (nI (3))) hx hb d_L_cut_40 (by decide) ?_
        exact vx_ret (W.widen (k := 3) (n := 18) (Nat.le_of_ble_eq_true rfl) (Nat.le_of_ble_eq_true rfl) (W.iret (v := (nI (3))) hx hb hr (fun t ht hW => ⟨⟨(nI (3)), (wn, fo), rfl, ⟨(by rw [hn]; decide), (by rw [hn]), fun q => absurd (hn.symm.trans q) (by decide), hj'⟩, by rw [ht]; exact hP, hD⟩, hS.F ht⟩) hS.2.2 d_L_cut_41))
    · obtain ⟨hj', hP1, hD1⟩ := hB
      rw [ht] at hP1
      obtain ⟨hP, hD⟩ := wj1 hP hD hk1 hFw hP1 hD1
      obtain ⟨h1, h2, h3⟩ := hw
      refine lv_if_eq (tgt := 25) hx hb d_L_cut_18 (by decide) (fun c_2 => ?_) (fun c_2 => ?_)
      · refine lv_lconst (v := 0) hx hb d_L_cut_25 (by decide) ?_
        refine ja_last (k := 0) (x := 0) hx hb ha.1 hP hD hS 0 1 rfl rfl (by decide) (by decide) d_L_cut_26 (fun H locs hP hD hS => ?_)
        have hP : va_P g.1 cls ((ou, eL g 1 (vp_updL fo 0 (0))) :: wn) H := hP
        have hD : va_D A ((ou, eL g 1 (vp_updL fo 0 (0))) :: wn) := hD
        refine lv_goto (tgt := 42) hx hb d_L_cut_27 (by decide) ?_
        refine lv_iconst (v := (nI (0))) hx hb d_L_cut_42 (by decide) ?_
        exact vx_ret (W.widen (k := 3) (n := 18) (Nat.le_of_ble_eq_true rfl) (Nat.le_of_ble_eq_true rfl) (W.iret (v := (nI (0))) hx hb hr (fun t ht hW => ⟨⟨(nI (0)), (wn, (vp_updL fo 0 (0))), rfl, ⟨(by rw [h1]; decide), (by rw [h1]), fun _ => (b_01 h2 h3).1 c_2, hj'⟩, by rw [ht]; exact hP, hD⟩, hS.F ht⟩) hS.2.2 d_L_cut_43))
      · refine lv_lconst (v := 1) hx hb d_L_cut_21 (by decide) ?_
        refine lv_goto (tgt := 26) hx hb d_L_cut_22 (by decide) ?_
        refine ja_last (k := 0) (x := 1) hx hb ha.1 hP hD hS 0 1 rfl rfl (by decide) (by decide) d_L_cut_26 (fun H locs hP hD hS => ?_)
        have hP : va_P g.1 cls ((ou, eL g 1 (vp_updL fo 0 (1))) :: wn) H := hP
        have hD : va_D A ((ou, eL g 1 (vp_updL fo 0 (1))) :: wn) := hD
        refine lv_goto (tgt := 42) hx hb d_L_cut_27 (by decide) ?_
        refine lv_iconst (v := (nI (0))) hx hb d_L_cut_42 (by decide) ?_
        exact vx_ret (W.widen (k := 3) (n := 18) (Nat.le_of_ble_eq_true rfl) (Nat.le_of_ble_eq_true rfl) (W.iret (v := (nI (0))) hx hb hr (fun t ht hW => ⟨⟨(nI (0)), (wn, (vp_updL fo 0 (1))), rfl, ⟨(by rw [h1]; decide), (by rw [h1]), fun _ => (b_01 h2 h3).2 c_2, hj'⟩, by rw [ht]; exact hP, hD⟩, hS.F ht⟩) hS.2.2 d_L_cut_43))
set_option maxHeartbeats 4000000 in
set_option maxRecDepth 100000 in
theorem h_joint (l : Launch) (hlt : l.stackTraces = false) (g : gT) (z : Nat) (H0 : Heap) (h : Nat) (σ : sT) (ws : va_W) (hj : jI g h σ ws) (ou : Nat) (fo : Nat → Int64) (p0 p1 p2 p3 p4 : Int32) : vx_Met l y_L_joint w_L_joint ({ frames := 8, cells := 6, slots := 36, locals := 189 }) (va_Pc [.ref h, .int (p0), .int (p1), .int (p2), .int (p3), .int (p4), .ref ou] (pBL g z H0 (va_P g.1 cls ((ou, eL g 1 fo) :: ws) H0 ∧ va_D (zA z) ((ou, eL g 1 fo) :: ws)))) (hQ1 g h ou ws fo H0 (s_joint σ p0 p1 p2 p3 p4)) xNo 6 36 (va_A ((ou, eL g 1 fo) :: ws) H0.size) := by
  refine vx_ofWH (cc := c_L_joint) (maxL := 8) (ret := (some .int)) (hh := [(0, 16, 19, 21), (0, 16, 23, 13), (0, 16, 27, 15)]) (by decide) rfl ?_
  intro p e s m args below meth c s₁ B hml hv
  obtain ⟨rfl, ⟨hH0, ha, hP, hD0⟩, hnc⟩ := hv
  have hx := B.exec
  have hb := B.bytes
  have hr := B.returns
  have htB : ∀ w ∈ tB, w.before _ s = true := fun w h => atoms_spec (ws := w_L_joint) B.pre w (List.mem_cons_of_mem _ h)
  have htabl := vx_table (x := y_L_joint) B (atoms_spec (ws := w_L_joint) B.pre _ List.mem_cons_self)
  have hown : s.vm.findClass R_L = some m.cls := findClass_of_methodNamed B.named
  have hlocks := B.notSynchronized
  subst hH0
  have hD := hD0.self (sz := s.heap.size)
  have hz := aA_z hD0 ha.2.2.2.2.2
  have hDw : va_D (zA z) ws := tl_D hD0
  have hPw : va_P g.1 cls ws s.heap := tl_P hP
  obtain ⟨fsR, hrec⟩ := jI_recv hj
  have hnp := (jI_ok hj).1
  unfold hQ1
  generalize hAe : va_A ((ou, eL g 1 fo) :: ws) s.heap.size = A at hD hz ⊢
  have hFw : ∀ q, va_A ws s.heap.size q → A q := fun q h => by rw [← hAe]; exact tl_A q h
  have hS : va_S A s.heap s.heap [] := va_S.rf
  have hl := lv_entry ([.ref h, .int (p0), .int (p1), .int (p2), .int (p3), .int (p4), .ref ou]) (n := 8) (Nat.le_of_ble_eq_true rfl)
  rw [lg_entry_eq]
  generalize (lg_sl ([.ref h, .int (p0), .int (p1), .int (p2), .int (p3), .int (p4), .ref ou]) ++ List.replicate (8 - (lg_sl ([.ref h, .int (p0), .int (p1), .int (p2), .int (p3), .int (p4), .ref ou])).length) Slot.unset).toArray = ls at hl ⊢
  have hl : lv_has ls 8 [(0, .ref h), (1, .int (p0)), (2, .int (p1)), (3, .int (p2)), (4, .int (p3)), (5, .int (p4)), (6, .ref ou)] := hl
  refine lv_aload hx hb d_L_joint_0 (lv_at hl 6 rfl) ?_
  refine lv_iconst (v := (nI (0))) hx hb d_L_joint_2 (by decide) ?_
  refine lv_aload_n hx hb d_L_joint_3 rfl (lv_at hl 0 rfl) ?_
  refine lv_iload_n hx hb d_L_joint_4 rfl (lv_at hl 1 rfl) ?_
  refine lv_iload_n hx hb d_L_joint_5 rfl (lv_at hl 2 rfl) ?_
  refine lv_iload_n hx hb d_L_joint_6 rfl (lv_at hl 3 rfl) ?_
  refine lv_iload hx hb d_L_joint_7 (lv_at hl 4 rfl) ?_
  refine lv_iload hx hb d_L_joint_9 (lv_at hl 5 rfl) ?_
  by_cases hbd : jB1 σ.1 p0 p1 p2 p3 ∨ jB2 p1 p2 p4
  · have hnp2 := hnp
    refine vx_calli (vx_runV (As := [.int (p0), .int (p1), .int (p2), .int (p3), .int (p4)]) (rest := [.int (nI (0)), .ref ou]) ⟨hx, hb, hml, hown, htB⟩ (s_J_jointBad l hlt g z _ h σ ws hj p0 p1 p2 p3 p4 hbd) (cwV 5 htB (gV kw_280 kw_281 kw_282 kw_1 g_J_joint) rfl rfl rfl (by decide +kernel) ⟨Nat.le_of_ble_eq_true rfl, Nat.le_of_ble_eq_true rfl⟩) (pre_V hS hz ha (va_recv ha.1 hPw (ci := 1) (q0 := 0) rfl hrec) ⟨hPw, hDw⟩) rfl rfl hl.1 rfl (lv_room (Nat.le_of_ble_eq_true rfl)) d_L_joint_11 ⟨Nat.le_of_ble_eq_true rfl, Nat.le_of_ble_eq_true rfl⟩) hS (fun q _ h => hFw q h) hFw (fun q _ h => hFw q h) (fun E ce q9 wn t H1 locs ht hal hpx hBX hsz hk hS hce hcv hcl => ?_) (fun rr wn t H1 locs ht hvm hw hB hz1 hk1 hS => ?_)
    · obtain ⟨hE, hj', hP1, hD1⟩ := hBX
      rw [ht] at hP1
      obtain ⟨hP, hD⟩ := wj1 hP hD hk hFw hP1 hD1
      rcases hE with ⟨rfl, hn⟩ | ⟨rfl, hn⟩ | ⟨rfl, hn⟩
      · refine vx_catch (own := R_L) (name := E_IOB) hown [] (⟨0, 16, 19, 21⟩ : ExceptionTableEntry) [(⟨0, 16, 23, 13⟩ : ExceptionTableEntry), (⟨0, 16, 27, 15⟩ : ExceptionTableEntry)] (htabl.trans rfl) (fun _ h => absurd h List.not_mem_nil) (by decide) (by decide) (htB _ kw_237) (va_Nw.use rfl (ha.2.1 _ nb_3)) hce hcv hcl ?_
        refine W.eq (g2 := F0 m 19 ls [.ref q9]) rfl ?_
        refine lv_astore (lv' := [(7, .ref q9), (0, .ref h), (1, .int (p0)), (2, .int (p1)), (3, .int (p2)), (4, .int (p3)), (5, .int (p4)), (6, .ref ou)]) hx hb d_L_joint_19 hl (by decide) rfl (fun ls hl => ?_)
        refine lv_iconst (v := (nI (1))) hx hb d_L_joint_21 (by decide) ?_
        exact vx_ret (W.widen (k := 6) (n := 36) (Nat.le_of_ble_eq_true rfl) (Nat.le_of_ble_eq_true rfl) (W.iret (v := (nI (1))) hx hb hr (fun t ht hW => ⟨⟨(nI (1)), (wn, fo), rfl, ⟨(by rw [hn]; decide), (by rw [hn]), fun q => absurd (hn.symm.trans q) (by decide), hj'⟩, by rw [ht]; exact hP, hD⟩, hS.F ht⟩) hS.2.2 d_L_joint_22))
      · refine vx_catch (own := R_L) (name := E_IAE) hown [(⟨0, 16, 19, 21⟩ : ExceptionTableEntry)] (⟨0, 16, 23, 13⟩ : ExceptionTableEntry) [(⟨0, 16, 27, 15⟩ : ExceptionTableEntry)] (htabl.trans rfl) (fun z9 h9 => by rw [List.mem_singleton.mp h9]; exact Or.inr ⟨by decide, E_IOB, htB _ kw_237, hnc.2.1⟩) (by decide) (by decide) (htB _ kw_177) (va_Nw.use rfl (ha.2.1 _ nb_10)) hce hcv hcl ?_
        refine W.eq (g2 := F0 m 23 ls [.ref q9]) rfl ?_
        refine lv_astore (lv' := [(7, .ref q9), (0, .ref h), (1, .int (p0)), (2, .int (p1)), (3, .int (p2)), (4, .int (p3)), (5, .int (p4)), (6, .ref ou)]) hx hb d_L_joint_23 hl (by decide) rfl (fun ls hl => ?_)
        refine lv_iconst (v := (nI (2))) hx hb d_L_joint_25 (by decide) ?_
        exact vx_ret (W.widen (k := 6) (n := 36) (Nat.le_of_ble_eq_true rfl) (Nat.le_of_ble_eq_true rfl) (W.iret (v := (nI (2))) hx hb hr (fun t ht hW => ⟨⟨(nI (2)), (wn, fo), rfl, ⟨(by rw [hn]; decide), (by rw [hn]), fun q => absurd (hn.symm.trans q) (by decide), hj'⟩, by rw [ht]; exact hP, hD⟩, hS.F ht⟩) hS.2.2 d_L_joint_26))
      · refine vx_catch (own := R_L) (name := E_ISE) hown [(⟨0, 16, 19, 21⟩ : ExceptionTableEntry), (⟨0, 16, 23, 13⟩ : ExceptionTableEntry)] (⟨0, 16, 27, 15⟩ : ExceptionTableEntry) [] (htabl.trans rfl) (fun z9 h9 => by rcases List.mem_cons.mp h9 with q | h9; (rw [q]; exact Or.inr ⟨by decide, E_IOB, htB _ kw_237, hnc.2.2⟩); (rw [List.mem_singleton.mp h9]; exact Or.inr ⟨by decide, E_IAE, htB _ kw_177, hnc.1⟩)) (by decide) (by decide) (htB _ kw_178) (va_Nw.use rfl (ha.2.1 _ nb_11)) hce hcv hcl ?_
        refine W.eq (g2 := F0 m 27 ls [.ref q9]) rfl ?_
        refine lv_astore (lv' := [(7, .ref q9), (0, .ref h), (1, .int (p0)), (2, .int (p1)), (3, .int (p2)), (4, .int (p3)), (5, .int (p4)), (6, .ref ou)]) hx hb d_L_joint_27 hl (by decide) rfl (fun ls hl => ?_)
        refine lv_iconst (v := (nI (3))) hx hb d_L_joint_29 (by decide) ?_
        exact vx_ret (W.widen (k := 6) (n := 36) (Nat.le_of_ble_eq_true rfl) (Nat.le_of_ble_eq_true rfl) (W.iret (v := (nI (3))) hx hb hr (fun t ht hW => ⟨⟨(nI (3)), (wn, fo), rfl, ⟨(by rw [hn]; decide), (by rw [hn]), fun q => absurd (hn.symm.trans q) (by decide), hj'⟩, by rw [ht]; exact hP, hD⟩, hS.F ht⟩) hS.2.2 d_L_joint_30))
    · obtain ⟨hj', hP1, hD1⟩ := hB
      rw [ht] at hP1
      obtain ⟨hP, hD⟩ := wj1 hP hD hk1 hFw hP1 hD1
      obtain ⟨h1, h2⟩ := hw
      refine lv_i2l (v := ((rr)).toInt64) hx hb d_L_joint_14 rfl ?_
      refine ja_last (k := 0) (x := ((rr)).toInt64) hx hb ha.1 hP hD hS 0 1 rfl rfl (by decide) (by decide) d_L_joint_15 (fun H locs hP hD hS => ?_)
      have hP : va_P g.1 cls ((ou, eL g 1 (vp_updL fo 0 (((rr)).toInt64))) :: wn) H := hP
      have hD : va_D A ((ou, eL g 1 (vp_updL fo 0 (((rr)).toInt64))) :: wn) := hD
      refine lv_goto (tgt := 31) hx hb d_L_joint_16 (by decide) ?_
      refine lv_iconst (v := (nI (0))) hx hb d_L_joint_31 (by decide) ?_
      exact vx_ret (W.widen (k := 6) (n := 36) (Nat.le_of_ble_eq_true rfl) (Nat.le_of_ble_eq_true rfl) (W.iret (v := (nI (0))) hx hb hr (fun t ht hW => ⟨⟨(nI (0)), (wn, (vp_updL fo 0 (((rr)).toInt64))), rfl, ⟨(by rw [h1]; decide), (by rw [h1]), fun _ => h2.symm, hj'⟩, by rw [ht]; exact hP, hD⟩, hS.F ht⟩) hS.2.2 d_L_joint_32))
  · obtain ⟨kd, hkd, rfl⟩ := noP_not (n := 5) (by decide) (fun q => hbd (Or.inl (Or.inl ((outI_noP (n := 4) (by decide)).mpr q))))
    obtain ⟨ja, hja, rfl⟩ := noP_not (n := σ.1) (by omega) (fun q => hbd (Or.inl (Or.inr (Or.inl q))))
    obtain ⟨jb, hjb, rfl⟩ := noP_not (n := σ.1) (by omega) (fun q => hbd (Or.inl (Or.inr (Or.inr (Or.inl q)))))
    obtain ⟨k, hk3, rfl⟩ := noP_not (n := 3) (by decide) (fun q => hbd (Or.inl (Or.inr (Or.inr (Or.inr ((outI_noP (n := 2) (by decide)).mpr q))))))
    obtain ⟨w, hw1, hw2, rfl⟩ := out_w (fun q => hbd (Or.inr (Or.inr q)))
    have hne : ja ≠ jb := fun q => hbd (Or.inr (Or.inl (by rw [q])))
    by_cases hgo : σ.2.2.2.2.2.1 < 12 ∧ hasC (cmB (σ.2.1 ja) (σ.2.1 jb)) ∧ (kd = 2 → (szB (cmB (σ.2.1 ja) (σ.2.1 jb)) k + w - 1) / w ≤ 8) ∧ ¬ szB (cmB (σ.2.1 ja) (σ.2.1 jb)) k < lsN kd w
    · have hgo1 := hgo.1
      refine vx_calli (vx_runV (As := [.int (nI (kd)), .int (nI (ja)), .int (nI (jb)), .int (nI (k)), .int (nI (w))]) (rest := [.int (nI (0)), .ref ou]) ⟨hx, hb, hml, hown, htB⟩ (s_J_jointMain l hlt g z _ h σ ws hj kd ja jb k w hkd hja hjb hne hk3 hw1 hw2 hgo) (cwV 5 htB (gV kw_280 kw_281 kw_282 kw_1 g_J_joint) rfl rfl rfl (by decide +kernel) ⟨Nat.le_of_ble_eq_true rfl, Nat.le_of_ble_eq_true rfl⟩) (pre_V hS hz ha (va_recv ha.1 hPw (ci := 1) (q0 := 0) rfl hrec) ⟨hPw, hDw⟩) rfl rfl hl.1 rfl (lv_room (Nat.le_of_ble_eq_true rfl)) d_L_joint_11 ⟨Nat.le_of_ble_eq_true rfl, Nat.le_of_ble_eq_true rfl⟩) hS (fun q _ h => hFw q h) hFw (fun q _ h => hFw q h) (fun E ce q9 wn t H1 locs ht hal hpx hBX hsz hk hS hce hcv hcl => ?_) (fun rr wn t H1 locs ht hvm hw hB hz1 hk1 hS => ?_)
      · obtain ⟨hE, hj', hP1, hD1⟩ := hBX
        rw [ht] at hP1
        obtain ⟨hP, hD⟩ := wj1 hP hD hk hFw hP1 hD1
        rcases hE with ⟨rfl, hn⟩ | ⟨rfl, hn⟩ | ⟨rfl, hn⟩
        · refine vx_catch (own := R_L) (name := E_IOB) hown [] (⟨0, 16, 19, 21⟩ : ExceptionTableEntry) [(⟨0, 16, 23, 13⟩ : ExceptionTableEntry), (⟨0, 16, 27, 15⟩ : ExceptionTableEntry)] (htabl.trans rfl) (fun _ h => absurd h List.not_mem_nil) (by decide) (by decide) (htB _ kw_237) (va_Nw.use rfl (ha.2.1 _ nb_3)) hce hcv hcl ?_
          refine W.eq (g2 := F0 m 19 ls [.ref q9]) rfl ?_
          refine lv_astore (lv' := [(7, .ref q9), (0, .ref h), (1, .int (nI (kd))), (2, .int (nI (ja))), (3, .int (nI (jb))), (4, .int (nI (k))), (5, .int (nI (w))), (6, .ref ou)]) hx hb d_L_joint_19 hl (by decide) rfl (fun ls hl => ?_)
          refine lv_iconst (v := (nI (1))) hx hb d_L_joint_21 (by decide) ?_
          exact vx_ret (W.widen (k := 6) (n := 36) (Nat.le_of_ble_eq_true rfl) (Nat.le_of_ble_eq_true rfl) (W.iret (v := (nI (1))) hx hb hr (fun t ht hW => ⟨⟨(nI (1)), (wn, fo), rfl, ⟨(by rw [hn]; decide), (by rw [hn]), fun q => absurd (hn.symm.trans q) (by decide), hj'⟩, by rw [ht]; exact hP, hD⟩, hS.F ht⟩) hS.2.2 d_L_joint_22))
        · refine vx_catch (own := R_L) (name := E_IAE) hown [(⟨0, 16, 19, 21⟩ : ExceptionTableEntry)] (⟨0, 16, 23, 13⟩ : ExceptionTableEntry) [(⟨0, 16, 27, 15⟩ : ExceptionTableEntry)] (htabl.trans rfl) (fun z9 h9 => by rw [List.mem_singleton.mp h9]; exact Or.inr ⟨by decide, E_IOB, htB _ kw_237, hnc.2.1⟩) (by decide) (by decide) (htB _ kw_177) (va_Nw.use rfl (ha.2.1 _ nb_10)) hce hcv hcl ?_
          refine W.eq (g2 := F0 m 23 ls [.ref q9]) rfl ?_
          refine lv_astore (lv' := [(7, .ref q9), (0, .ref h), (1, .int (nI (kd))), (2, .int (nI (ja))), (3, .int (nI (jb))), (4, .int (nI (k))), (5, .int (nI (w))), (6, .ref ou)]) hx hb d_L_joint_23 hl (by decide) rfl (fun ls hl => ?_)
          refine lv_iconst (v := (nI (2))) hx hb d_L_joint_25 (by decide) ?_
          exact vx_ret (W.widen (k := 6) (n := 36) (Nat.le_of_ble_eq_true rfl) (Nat.le_of_ble_eq_true rfl) (W.iret (v := (nI (2))) hx hb hr (fun t ht hW => ⟨⟨(nI (2)), (wn, fo), rfl, ⟨(by rw [hn]; decide), (by rw [hn]), fun q => absurd (hn.symm.trans q) (by decide), hj'⟩, by rw [ht]; exact hP, hD⟩, hS.F ht⟩) hS.2.2 d_L_joint_26))
        · refine vx_catch (own := R_L) (name := E_ISE) hown [(⟨0, 16, 19, 21⟩ : ExceptionTableEntry), (⟨0, 16, 23, 13⟩ : ExceptionTableEntry)] (⟨0, 16, 27, 15⟩ : ExceptionTableEntry) [] (htabl.trans rfl) (fun z9 h9 => by rcases List.mem_cons.mp h9 with q | h9; (rw [q]; exact Or.inr ⟨by decide, E_IOB, htB _ kw_237, hnc.2.2⟩); (rw [List.mem_singleton.mp h9]; exact Or.inr ⟨by decide, E_IAE, htB _ kw_177, hnc.1⟩)) (by decide) (by decide) (htB _ kw_178) (va_Nw.use rfl (ha.2.1 _ nb_11)) hce hcv hcl ?_
          refine W.eq (g2 := F0 m 27 ls [.ref q9]) rfl ?_
          refine lv_astore (lv' := [(7, .ref q9), (0, .ref h), (1, .int (nI (kd))), (2, .int (nI (ja))), (3, .int (nI (jb))), (4, .int (nI (k))), (5, .int (nI (w))), (6, .ref ou)]) hx hb d_L_joint_27 hl (by decide) rfl (fun ls hl => ?_)
          refine lv_iconst (v := (nI (3))) hx hb d_L_joint_29 (by decide) ?_
          exact vx_ret (W.widen (k := 6) (n := 36) (Nat.le_of_ble_eq_true rfl) (Nat.le_of_ble_eq_true rfl) (W.iret (v := (nI (3))) hx hb hr (fun t ht hW => ⟨⟨(nI (3)), (wn, fo), rfl, ⟨(by rw [hn]; decide), (by rw [hn]), fun q => absurd (hn.symm.trans q) (by decide), hj'⟩, by rw [ht]; exact hP, hD⟩, hS.F ht⟩) hS.2.2 d_L_joint_30))
      · obtain ⟨hj', hP1, hD1⟩ := hB
        rw [ht] at hP1
        obtain ⟨hP, hD⟩ := wj1 hP hD hk1 hFw hP1 hD1
        obtain ⟨h1, h2⟩ := hw
        refine lv_i2l (v := ((rr)).toInt64) hx hb d_L_joint_14 rfl ?_
        refine ja_last (k := 0) (x := ((rr)).toInt64) hx hb ha.1 hP hD hS 0 1 rfl rfl (by decide) (by decide) d_L_joint_15 (fun H locs hP hD hS => ?_)
        have hP : va_P g.1 cls ((ou, eL g 1 (vp_updL fo 0 (((rr)).toInt64))) :: wn) H := hP
        have hD : va_D A ((ou, eL g 1 (vp_updL fo 0 (((rr)).toInt64))) :: wn) := hD
        refine lv_goto (tgt := 31) hx hb d_L_joint_16 (by decide) ?_
        refine lv_iconst (v := (nI (0))) hx hb d_L_joint_31 (by decide) ?_
        exact vx_ret (W.widen (k := 6) (n := 36) (Nat.le_of_ble_eq_true rfl) (Nat.le_of_ble_eq_true rfl) (W.iret (v := (nI (0))) hx hb hr (fun t ht hW => ⟨⟨(nI (0)), (wn, (vp_updL fo 0 (((rr)).toInt64))), rfl, ⟨(by rw [h1]; decide), (by rw [h1]), fun _ => h2.symm, hj'⟩, by rw [ht]; exact hP, hD⟩, hS.F ht⟩) hS.2.2 d_L_joint_32))
    · have hnp3 := hnp
      refine vx_calli (vx_runV (As := [.int (nI (kd)), .int (nI (ja)), .int (nI (jb)), .int (nI (k)), .int (nI (w))]) (rest := [.int (nI (0)), .ref ou]) ⟨hx, hb, hml, hown, htB⟩ (s_J_jointLow l hlt g z _ h σ ws hj kd ja jb k w hkd hja hjb hne hk3 hw1 hw2 hgo) (cwV 5 htB (gV kw_280 kw_281 kw_282 kw_1 g_J_joint) rfl rfl rfl (by decide +kernel) ⟨Nat.le_of_ble_eq_true rfl, Nat.le_of_ble_eq_true rfl⟩) (pre_V hS hz ha (va_recv ha.1 hPw (ci := 1) (q0 := 0) rfl hrec) ⟨hPw, hDw⟩) rfl rfl hl.1 rfl (lv_room (Nat.le_of_ble_eq_true rfl)) d_L_joint_11 ⟨Nat.le_of_ble_eq_true rfl, Nat.le_of_ble_eq_true rfl⟩) hS (fun q _ h => hFw q h) hFw (fun q _ h => hFw q h) (fun E ce q9 wn t H1 locs ht hal hpx hBX hsz hk hS hce hcv hcl => ?_) (fun rr wn t H1 locs ht hvm hw hB hz1 hk1 hS => ?_)
      · obtain ⟨hE, hj', hP1, hD1⟩ := hBX
        rw [ht] at hP1
        obtain ⟨hP, hD⟩ := wj1 hP hD hk hFw hP1 hD1
        rcases hE with ⟨rfl, hn⟩ | ⟨rfl, hn⟩ | ⟨rfl, hn⟩
        · refine vx_catch (own := R_L) (name := E_IOB) hown [] (⟨0, 16, 19, 21⟩ : ExceptionTableEntry) [(⟨0, 16, 23, 13⟩ : ExceptionTableEntry), (⟨0, 16, 27, 15⟩ : ExceptionTableEntry)] (htabl.trans rfl) (fun _ h => absurd h List.not_mem_nil) (by decide) (by decide) (htB _ kw_237) (va_Nw.use rfl (ha.2.1 _ nb_3)) hce hcv hcl ?_
          refine W.eq (g2 := F0 m 19 ls [.ref q9]) rfl ?_
          refine lv_astore (lv' := [(7, .ref q9), (0, .ref h), (1, .int (nI (kd))), (2, .int (nI (ja))), (3, .int (nI (jb))), (4, .int (nI (k))), (5, .int (nI (w))), (6, .ref ou)]) hx hb d_L_joint_19 hl (by decide) rfl (fun ls hl => ?_)
          refine lv_iconst (v := (nI (1))) hx hb d_L_joint_21 (by decide) ?_
          exact vx_ret (W.widen (k := 6) (n := 36) (Nat.le_of_ble_eq_true rfl) (Nat.le_of_ble_eq_true rfl) (W.iret (v := (nI (1))) hx hb hr (fun t ht hW => ⟨⟨(nI (1)), (wn, fo), rfl, ⟨(by rw [hn]; decide), (by rw [hn]), fun q => absurd (hn.symm.trans q) (by decide), hj'⟩, by rw [ht]; exact hP, hD⟩, hS.F ht⟩) hS.2.2 d_L_joint_22))
        · refine vx_catch (own := R_L) (name := E_IAE) hown [(⟨0, 16, 19, 21⟩ : ExceptionTableEntry)] (⟨0, 16, 23, 13⟩ : ExceptionTableEntry) [(⟨0, 16, 27, 15⟩ : ExceptionTableEntry)] (htabl.trans rfl) (fun z9 h9 => by rw [List.mem_singleton.mp h9]; exact Or.inr ⟨by decide, E_IOB, htB _ kw_237, hnc.2.1⟩) (by decide) (by decide) (htB _ kw_177) (va_Nw.use rfl (ha.2.1 _ nb_10)) hce hcv hcl ?_
          refine W.eq (g2 := F0 m 23 ls [.ref q9]) rfl ?_
          refine lv_astore (lv' := [(7, .ref q9), (0, .ref h), (1, .int (nI (kd))), (2, .int (nI (ja))), (3, .int (nI (jb))), (4, .int (nI (k))), (5, .int (nI (w))), (6, .ref ou)]) hx hb d_L_joint_23 hl (by decide) rfl (fun ls hl => ?_)
          refine lv_iconst (v := (nI (2))) hx hb d_L_joint_25 (by decide) ?_
          exact vx_ret (W.widen (k := 6) (n := 36) (Nat.le_of_ble_eq_true rfl) (Nat.le_of_ble_eq_true rfl) (W.iret (v := (nI (2))) hx hb hr (fun t ht hW => ⟨⟨(nI (2)), (wn, fo), rfl, ⟨(by rw [hn]; decide), (by rw [hn]), fun q => absurd (hn.symm.trans q) (by decide), hj'⟩, by rw [ht]; exact hP, hD⟩, hS.F ht⟩) hS.2.2 d_L_joint_26))
        · refine vx_catch (own := R_L) (name := E_ISE) hown [(⟨0, 16, 19, 21⟩ : ExceptionTableEntry), (⟨0, 16, 23, 13⟩ : ExceptionTableEntry)] (⟨0, 16, 27, 15⟩ : ExceptionTableEntry) [] (htabl.trans rfl) (fun z9 h9 => by rcases List.mem_cons.mp h9 with q | h9; (rw [q]; exact Or.inr ⟨by decide, E_IOB, htB _ kw_237, hnc.2.2⟩); (rw [List.mem_singleton.mp h9]; exact Or.inr ⟨by decide, E_IAE, htB _ kw_177, hnc.1⟩)) (by decide) (by decide) (htB _ kw_178) (va_Nw.use rfl (ha.2.1 _ nb_11)) hce hcv hcl ?_
          refine W.eq (g2 := F0 m 27 ls [.ref q9]) rfl ?_
          refine lv_astore (lv' := [(7, .ref q9), (0, .ref h), (1, .int (nI (kd))), (2, .int (nI (ja))), (3, .int (nI (jb))), (4, .int (nI (k))), (5, .int (nI (w))), (6, .ref ou)]) hx hb d_L_joint_27 hl (by decide) rfl (fun ls hl => ?_)
          refine lv_iconst (v := (nI (3))) hx hb d_L_joint_29 (by decide) ?_
          exact vx_ret (W.widen (k := 6) (n := 36) (Nat.le_of_ble_eq_true rfl) (Nat.le_of_ble_eq_true rfl) (W.iret (v := (nI (3))) hx hb hr (fun t ht hW => ⟨⟨(nI (3)), (wn, fo), rfl, ⟨(by rw [hn]; decide), (by rw [hn]), fun q => absurd (hn.symm.trans q) (by decide), hj'⟩, by rw [ht]; exact hP, hD⟩, hS.F ht⟩) hS.2.2 d_L_joint_30))
      · obtain ⟨hj', hP1, hD1⟩ := hB
        rw [ht] at hP1
        obtain ⟨hP, hD⟩ := wj1 hP hD hk1 hFw hP1 hD1
        obtain ⟨h1, h2⟩ := hw
        refine lv_i2l (v := ((rr)).toInt64) hx hb d_L_joint_14 rfl ?_
        refine ja_last (k := 0) (x := ((rr)).toInt64) hx hb ha.1 hP hD hS 0 1 rfl rfl (by decide) (by decide) d_L_joint_15 (fun H locs hP hD hS => ?_)
        have hP : va_P g.1 cls ((ou, eL g 1 (vp_updL fo 0 (((rr)).toInt64))) :: wn) H := hP
        have hD : va_D A ((ou, eL g 1 (vp_updL fo 0 (((rr)).toInt64))) :: wn) := hD
        refine lv_goto (tgt := 31) hx hb d_L_joint_16 (by decide) ?_
        refine lv_iconst (v := (nI (0))) hx hb d_L_joint_31 (by decide) ?_
        exact vx_ret (W.widen (k := 6) (n := 36) (Nat.le_of_ble_eq_true rfl) (Nat.le_of_ble_eq_true rfl) (W.iret (v := (nI (0))) hx hb hr (fun t ht hW => ⟨⟨(nI (0)), (wn, (vp_updL fo 0 (((rr)).toInt64))), rfl, ⟨(by rw [h1]; decide), (by rw [h1]), fun _ => h2.symm, hj'⟩, by rw [ht]; exact hP, hD⟩, hS.F ht⟩) hS.2.2 d_L_joint_32))
