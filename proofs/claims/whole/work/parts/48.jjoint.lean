/-! The marks of a joint go up; numbers that a joint is given. -/
theorem mk_up {kd S w : Nat} (hkd : kd < 5) (hw : 1 ≤ w) (hS : lsN kd w ≤ S) (h8 : kd = 2 → (S + w - 1) / w ≤ 8) : spN kd S w ≤ 8 ∧ mkN kd S w 0 = 0 ∧ ∀ i, i < spN kd S w → mkN kd S w i < mkN kd S w (i + 1) ∧ mkN kd S w (i + 1) ≤ S := by
  have c0 : ∀ S w : Nat, spN 0 S w = 2 := fun _ _ => rfl
  have c1 : ∀ S w : Nat, spN 1 S w = 1 := fun _ _ => rfl
  have c3 : ∀ S w : Nat, spN 3 S w = 3 := fun _ _ => rfl
  have c4 : ∀ S w : Nat, spN 4 S w = 3 := fun _ _ => rfl
  rcases (show kd = 0 ∨ kd = 1 ∨ kd = 2 ∨ kd = 3 ∨ kd = 4 by omega) with rfl | rfl | rfl | rfl | rfl
  · have hS : 2 ≤ S := hS
    refine ⟨by rw [c0]; omega, rfl, fun i hi => ?_⟩
    rw [c0] at hi
    rcases (show i = 0 ∨ i = 1 by omega) with rfl | rfl
    · show 0 < S / 2 ∧ S / 2 ≤ S; omega
    · show S / 2 < S ∧ S ≤ S; omega
  · have hS : 1 ≤ S := hS
    refine ⟨by rw [c1]; omega, rfl, fun i hi => ?_⟩
    rw [c1] at hi
    rcases (show i = 0 by omega) with rfl
    show 0 < S ∧ S ≤ S; omega
  · have hS : 2 * w ≤ S := hS
    have h8 := h8 rfl
    have cn : spN 2 S w = (S + w - 1) / w := rfl
    rw [cn]
    have hlt : ∀ i, i < (S + w - 1) / w → i * w < S := fun i hi => by
      have := (Nat.le_div_iff_mul_le (by omega)).mp (show i + 1 ≤ (S + w - 1) / w from hi)
      rw [Nat.add_mul] at this; omega
    have hn0 : 1 ≤ (S + w - 1) / w := (Nat.le_div_iff_mul_le (by omega)).mpr (by omega)
    refine ⟨h8, ?_, fun i hi => ?_⟩
    · have := (fing_mk hw (hlt 0 (by omega))).1; rw [Nat.zero_mul] at this; exact this
    · obtain ⟨e1, e2⟩ := fing_mk hw (hlt i hi)
      rw [e1, e2]
      have h3 := hlt i hi
      have h4 : i * w < (i + 1) * w := by rw [Nat.add_mul]; omega
      omega
  all_goals
    have hS : 3 ≤ S := hS
    refine ⟨by first | rw [c3] <;> omega | rw [c4] <;> omega, rfl, fun i hi => ?_⟩
    first | rw [c3] at hi | rw [c4] at hi
    rcases (show i = 0 ∨ i = 1 ∨ i = 2 by omega) with rfl | rfl | rfl
    · show 0 < S / 3 ∧ S / 3 ≤ S; omega
    · show S / 3 < S - S / 3 ∧ S - S / 3 ≤ S; omega
    · show S - S / 3 < S ∧ S ≤ S; omega
theorem cpy_R {f g : Nat → Int32} {n : Nat} {L : List Bx} (h : sR f n L) : sR (va_cpy f g 0 0 (n * 6)) n L := ⟨h.1, h.2.1, by rw [Nat.mul_comm n 6, bl_cpy]; exact h.2.2⟩
theorem tot_R {f : Nat → Int32} {n : Nat} {L : List Bx} (h : sR f n L) (hL : okL L) : totS f n = sL vM L := by
  obtain ⟨h1, h2, h3⟩ := h
  subst h1; exact tot_vM ⟨rfl, h2, h3⟩ hL
theorem wid_ok {w : Nat} (h1 : 1 ≤ w) (h2 : w ≤ 1000) : ¬ (nI w < nI 1 ∨ ¬ nI w ≤ nI 1000) := by
  rw [Int32.lt_iff_toInt_lt, Int32.le_iff_toInt_le, nI_Int (by omega), nI_Int (by omega), nI_Int (by omega)]; omega
theorem wid_out {v : Int32} : (v < nI 1 ∨ ¬ v ≤ nI 1000) ↔ outI v (nI 1) (nI 1000) := by
  show _ ↔ (v < nI 1 ∨ nI 1000 < v)
  rw [Int32.not_le]
set_option maxHeartbeats 4000000 in
set_option maxRecDepth 100000 in
theorem x_J_joint (l : Launch) (hlt : l.stackTraces = false) (g : gT) (z : Nat) (H0 : Heap) (h : Nat) (fs : List Value) (pa np : Nat) (gp : Nat → Option Nat) (PA : Nat → Nat) (kv av bv xv wv : Int32) : vx_Met l y_J_joint w_J_joint ({ frames := 7, cells := 6, slots := 36, locals := 103 }) (va_Pc [.ref h, .int (kv), .int (av), .int (bv), .int (xv), .int (wv)] (pB g z H0 (va_P g.1 cls [(h, .inr (1, fs)), (pa, ePS g 8 gp)] H0 ∧ fs[0]? = some (.ref pa) ∧ np ≤ 8 ∧ (∀ j, j < np → gp j = some (PA j)) ∧ (∀ j, np ≤ j → j < 8 → gp j = none) ∧ (jB1 np kv av bv xv ∨ jB2 av bv wv)))) (va_Qi (fun (rr : Int32) (_ : Unit) => False) (fun _ t => t.heap = H0) nA) (xX (fun E => E = E_IOB ∧ jB1 np kv av bv xv ∨ E = E_IAE ∧ ¬ jB1 np kv av bv xv ∧ jB2 av bv wv) H0) 6 36 nA := by
  refine vx_ofW (cc := c_J_joint) (maxL := 11) (ret := (some .int)) (by decide) rfl ?_
  intro p e s m args below meth c s₁ B hml htab hv
  obtain ⟨rfl, hH0, ha, hP, hf0, hnp, hg1, hg2, hbad⟩ := hv
  have hx := B.exec
  have hb := B.bytes
  have hr := B.returns
  have htB : ∀ w ∈ tB, w.before _ s = true := fun w h => atoms_spec (ws := w_J_joint) B.pre w (List.mem_cons_of_mem _ h)
  have hown : s.vm.findClass "JointSolids" = some m.cls := findClass_of_methodNamed B.named
  have hlocks := B.notSynchronized
  subst hH0
  have hz : ∀ q, nA q → z ≤ q := nA_z
  have hS : va_S nA s.heap s.heap [] := va_S.rf
  have hl := lv_entry ([.ref h, .int (kv), .int (av), .int (bv), .int (xv), .int (wv)]) (n := 11) (Nat.le_of_ble_eq_true rfl)
  rw [lg_entry_eq]
  generalize (lg_sl ([.ref h, .int (kv), .int (av), .int (bv), .int (xv), .int (wv)]) ++ List.replicate (11 - (lg_sl ([.ref h, .int (kv), .int (av), .int (bv), .int (xv), .int (wv)])).length) Slot.unset).toArray = ls at hl ⊢
  have hl : lv_has ls 11 [(0, .ref h), (1, .int (kv)), (2, .int (av)), (3, .int (bv)), (4, .int (xv)), (5, .int (wv))] := hl
  refine lv_iload_n hx hb d_J_joint_0 rfl (lv_at hl 1 rfl) ?_
  refine vx_callv (vx_runS (As := [.int (kv)]) (rest := []) ⟨hx, hb, hml, hown, htB⟩ (x_J_needKind l hlt g z _ (kv)) (va_cwS 1 htB (gS kw_284 kw_285 kw_1 g_J_needKind) rfl rfl rfl (by decide +kernel) ⟨Nat.le_of_ble_eq_true rfl, Nat.le_of_ble_eq_true rfl⟩) (pre_S hS hz ha trivial) rfl rfl hl.1 rfl (lv_room (Nat.le_of_ble_eq_true rfl)) d_J_joint_1 ⟨Nat.le_of_ble_eq_true rfl, Nat.le_of_ble_eq_true rfl⟩) hS (fun q _ h => h.elim) (fun q h => h.elim) (fun q h1 h2 => absurd h1 (Nat.not_lt.mpr h2)) (fun E ce q9 u t H1 locs ht hal hpx hBX hsz hk hS hce hcv hcl => ?_) (fun u t H1 locs ht hvm hw hB hz1 hk1 hS => ?_)
  · obtain ⟨hE, hkp⟩ := hBX
    exact vx_out (fun x h => (htab x h).elim) hlocks hce hcv hcl (fun t2 ht2 hal2 => ⟨(), trivial, ⟨Or.inl ⟨hE.1, Or.inl ((outI_noP (n := 4) (by decide)).mpr hE.2)⟩, (kpt.mv (ht.trans ht2.symm) hkp)⟩, (kpt.mv (ht.trans ht2.symm) hkp).1, fun q hq _ => (kpt.mv (ht.trans ht2.symm) hkp).2 q hq⟩) hS.2.2 (Nat.le_of_ble_eq_true rfl) (Nat.le_of_ble_eq_true rfl)
  · obtain rfl := hB.symm.trans ht
    have hB_k : ¬ outI kv (nI 0) (nI 4) := fun q => hw ((outI_noP (n := 4) (by decide)).mp q)
    refine lv_aload_n hx hb d_J_joint_4 rfl (lv_at hl 0 rfl) ?_
    refine lv_iload_n hx hb d_J_joint_5 rfl (lv_at hl 2 rfl) ?_
    refine vx_callr (vx_runV (As := [.int (av)]) (rest := []) ⟨hx, hb, hml, hown, htB⟩ (x_J_solidOf l hlt g z _ h fs pa gp (av)) (cwV 1 htB (gV kw_87 kw_89 ks_0_0 kw_1 g_J_solidOf) rfl rfl rfl (by decide +kernel) ⟨Nat.le_of_ble_eq_true rfl, Nat.le_of_ble_eq_true rfl⟩) (pre_V hS hz ha (va_recv ha.1 hP (ci := 1) (q0 := 0) rfl rfl) ⟨va_pair (hP 0 _ rfl) (hP 1 _ rfl), hf0⟩) rfl rfl hl.1 rfl (lv_room (Nat.le_of_ble_eq_true rfl)) d_J_joint_6 ⟨Nat.le_of_ble_eq_true rfl, Nat.le_of_ble_eq_true rfl⟩) hS (fun q _ h => h.elim) (fun q h => h.elim) (fun q h1 h2 => absurd h1 (Nat.not_lt.mpr h2)) (fun E ce q9 u t H1 locs ht hal hpx hBX hsz hk hS hce hcv hcl => ?_) (fun r_2 u t H1 locs ht hvm hw hB hz1 hk1 hS => ?_)
    · obtain ⟨hE, hkp⟩ := hBX
      exact vx_out (fun x h => (htab x h).elim) hlocks hce hcv hcl (fun t2 ht2 hal2 => ⟨(), trivial, ⟨Or.inl ⟨hE.1, Or.inr (Or.inl (gp_none hnp (by decide) hg1 hE.2))⟩, (kpt.mv (ht.trans ht2.symm) hkp)⟩, (kpt.mv (ht.trans ht2.symm) hkp).1, fun q hq _ => (kpt.mv (ht.trans ht2.symm) hkp).2 q hq⟩) hS.2.2 (Nat.le_of_ble_eq_true rfl) (Nat.le_of_ble_eq_true rfl)
    · obtain ⟨hans, hB⟩ := hB
      obtain rfl := hB.symm.trans ht
      have hB_av : ¬ noP av np := fun q => by obtain ⟨i, h1, h2, -⟩ := gp_some hg1 hg2 hans; exact noP_in h1 (by omega) (h2 ▸ q)
      refine lv_astore (lv' := [(6, .ref r_2), (0, .ref h), (1, .int (kv)), (2, .int (av)), (3, .int (bv)), (4, .int (xv)), (5, .int (wv))]) hx hb d_J_joint_9 hl (by decide) rfl (fun ls hl => ?_)
      refine lv_aload_n hx hb d_J_joint_11 rfl (lv_at hl 1 rfl) ?_
      refine lv_iload_n hx hb d_J_joint_12 rfl (lv_at hl 4 rfl) ?_
      refine vx_callr (vx_runV (As := [.int (bv)]) (rest := []) ⟨hx, hb, hml, hown, htB⟩ (x_J_solidOf l hlt g z _ h fs pa gp (bv)) (cwV 1 htB (gV kw_87 kw_89 ks_0_0 kw_1 g_J_solidOf) rfl rfl rfl (by decide +kernel) ⟨Nat.le_of_ble_eq_true rfl, Nat.le_of_ble_eq_true rfl⟩) (pre_V hS hz ha (va_recv ha.1 hP (ci := 1) (q0 := 0) rfl rfl) ⟨va_pair (hP 0 _ rfl) (hP 1 _ rfl), hf0⟩) rfl rfl hl.1 rfl (lv_room (Nat.le_of_ble_eq_true rfl)) d_J_joint_13 ⟨Nat.le_of_ble_eq_true rfl, Nat.le_of_ble_eq_true rfl⟩) hS (fun q _ h => h.elim) (fun q h => h.elim) (fun q h1 h2 => absurd h1 (Nat.not_lt.mpr h2)) (fun E ce q9 u t H1 locs ht hal hpx hBX hsz hk hS hce hcv hcl => ?_) (fun r_3 u t H1 locs ht hvm hw hB hz1 hk1 hS => ?_)
      · obtain ⟨hE, hkp⟩ := hBX
        exact vx_out (fun x h => (htab x h).elim) hlocks hce hcv hcl (fun t2 ht2 hal2 => ⟨(), trivial, ⟨Or.inl ⟨hE.1, Or.inr (Or.inr <| Or.inl (gp_none hnp (by decide) hg1 hE.2))⟩, (kpt.mv (ht.trans ht2.symm) hkp)⟩, (kpt.mv (ht.trans ht2.symm) hkp).1, fun q hq _ => (kpt.mv (ht.trans ht2.symm) hkp).2 q hq⟩) hS.2.2 (Nat.le_of_ble_eq_true rfl) (Nat.le_of_ble_eq_true rfl)
      · obtain ⟨hans, hB⟩ := hB
        obtain rfl := hB.symm.trans ht
        have hB_bv : ¬ noP bv np := fun q => by obtain ⟨i, h1, h2, -⟩ := gp_some hg1 hg2 hans; exact noP_in h1 (by omega) (h2 ▸ q)
        refine lv_astore (lv' := [(7, .ref r_3), (6, .ref r_2), (0, .ref h), (1, .int (kv)), (2, .int (av)), (3, .int (bv)), (4, .int (xv)), (5, .int (wv))]) hx hb d_J_joint_16 hl (by decide) rfl (fun ls hl => ?_)
        refine lv_iload hx hb d_J_joint_18 (lv_at hl 6 rfl) ?_
        refine vx_callv (vx_runS (As := [.int (xv)]) (rest := []) ⟨hx, hb, hml, hown, htB⟩ (x_J_needAxis l hlt g z _ (xv)) (va_cwS 1 htB (gS kw_288 kw_289 kw_1 g_J_needAxis) rfl rfl rfl (by decide +kernel) ⟨Nat.le_of_ble_eq_true rfl, Nat.le_of_ble_eq_true rfl⟩) (pre_S hS hz ha trivial) rfl rfl hl.1 rfl (lv_room (Nat.le_of_ble_eq_true rfl)) d_J_joint_20 ⟨Nat.le_of_ble_eq_true rfl, Nat.le_of_ble_eq_true rfl⟩) hS (fun q _ h => h.elim) (fun q h => h.elim) (fun q h1 h2 => absurd h1 (Nat.not_lt.mpr h2)) (fun E ce q9 u t H1 locs ht hal hpx hBX hsz hk hS hce hcv hcl => ?_) (fun u t H1 locs ht hvm hw hB hz1 hk1 hS => ?_)
        · obtain ⟨hE, hkp⟩ := hBX
          exact vx_out (fun x h => (htab x h).elim) hlocks hce hcv hcl (fun t2 ht2 hal2 => ⟨(), trivial, ⟨Or.inl ⟨hE.1, Or.inr (Or.inr (Or.inr ((outI_noP (n := 2) (by decide)).mpr hE.2)))⟩, (kpt.mv (ht.trans ht2.symm) hkp)⟩, (kpt.mv (ht.trans ht2.symm) hkp).1, fun q hq _ => (kpt.mv (ht.trans ht2.symm) hkp).2 q hq⟩) hS.2.2 (Nat.le_of_ble_eq_true rfl) (Nat.le_of_ble_eq_true rfl)
        · obtain rfl := hB.symm.trans ht
          have hB1 : ¬ jB1 np kv av bv xv := fun q => q.elim hB_k (fun q => q.elim hB_av (fun q => q.elim hB_bv (fun q => hw ((outI_noP (n := 2) (by decide)).mp q))))
          refine lv_iload_n hx hb d_J_joint_23 rfl (lv_at hl 4 rfl) ?_
          refine lv_iload_n hx hb d_J_joint_24 rfl (lv_at hl 5 rfl) ?_
          refine vx_callv (vx_runS (As := [.int (av), .int (bv)]) (rest := []) ⟨hx, hb, hml, hown, htB⟩ (x_J_needTwo l hlt g z _ (av) (bv)) (va_cwS 2 htB (gS kw_292 kw_293 kw_1 g_J_needTwo) rfl rfl rfl (by decide +kernel) ⟨Nat.le_of_ble_eq_true rfl, Nat.le_of_ble_eq_true rfl⟩) (pre_S hS hz ha trivial) rfl rfl hl.1 rfl (lv_room (Nat.le_of_ble_eq_true rfl)) d_J_joint_25 ⟨Nat.le_of_ble_eq_true rfl, Nat.le_of_ble_eq_true rfl⟩) hS (fun q _ h => h.elim) (fun q h => h.elim) (fun q h1 h2 => absurd h1 (Nat.not_lt.mpr h2)) (fun E ce q9 u t H1 locs ht hal hpx hBX hsz hk hS hce hcv hcl => ?_) (fun u t H1 locs ht hvm hw hB hz1 hk1 hS => ?_)
          · obtain ⟨hE, hkp⟩ := hBX
            exact vx_out (fun x h => (htab x h).elim) hlocks hce hcv hcl (fun t2 ht2 hal2 => ⟨(), trivial, ⟨Or.inr ⟨hE.1, hB1, Or.inl hE.2⟩, (kpt.mv (ht.trans ht2.symm) hkp)⟩, (kpt.mv (ht.trans ht2.symm) hkp).1, fun q hq _ => (kpt.mv (ht.trans ht2.symm) hkp).2 q hq⟩) hS.2.2 (Nat.le_of_ble_eq_true rfl) (Nat.le_of_ble_eq_true rfl)
          · obtain rfl := hB.symm.trans ht
            have hB_2 := hw
            refine lv_iload hx hb d_J_joint_28 (lv_at hl 7 rfl) ?_
            refine vx_callv (vx_runS (As := [.int (wv)]) (rest := []) ⟨hx, hb, hml, hown, htB⟩ (x_J_needWidth l hlt g z _ (wv)) (va_cwS 1 htB (gS kw_296 kw_297 kw_1 g_J_needWidth) rfl rfl rfl (by decide +kernel) ⟨Nat.le_of_ble_eq_true rfl, Nat.le_of_ble_eq_true rfl⟩) (pre_S hS hz ha trivial) rfl rfl hl.1 rfl (lv_room (Nat.le_of_ble_eq_true rfl)) d_J_joint_30 ⟨Nat.le_of_ble_eq_true rfl, Nat.le_of_ble_eq_true rfl⟩) hS (fun q _ h => h.elim) (fun q h => h.elim) (fun q h1 h2 => absurd h1 (Nat.not_lt.mpr h2)) (fun E ce q9 u t H1 locs ht hal hpx hBX hsz hk hS hce hcv hcl => ?_) (fun u t H1 locs ht hvm hw hB hz1 hk1 hS => ?_)
            · obtain ⟨hE, hkp⟩ := hBX
              exact vx_out (fun x h => (htab x h).elim) hlocks hce hcv hcl (fun t2 ht2 hal2 => ⟨(), trivial, ⟨Or.inr ⟨hE.1, hB1, Or.inr (wid_out.mp hE.2)⟩, (kpt.mv (ht.trans ht2.symm) hkp)⟩, (kpt.mv (ht.trans ht2.symm) hkp).1, fun q hq _ => (kpt.mv (ht.trans ht2.symm) hkp).2 q hq⟩) hS.2.2 (Nat.le_of_ble_eq_true rfl) (Nat.le_of_ble_eq_true rfl)
            · obtain rfl := hB.symm.trans ht
              exact absurd hbad (fun q => q.elim hB1 (fun q => q.elim hB_2 (fun q => hw (wid_out.mpr q))))
set_option maxHeartbeats 4000000 in
set_option maxRecDepth 100000 in
theorem m_J_jointLow (l : Launch) (hlt : l.stackTraces = false) (g : gT) (z : Nat) (H0 : Heap) (h : Nat) (fs : List Value) (pa ak ac : Nat) (so1 so2 : Nat) (nj ja jb kd k w : Nat) (gp : Nat → Option Nat) (sk cm : Nat → Int32) (SK : Nat → Bx) (cl : Int32) (A0 B0 : List Bx) : vx_Met l y_J_joint w_J_joint ({ frames := 7, cells := 5, slots := 30, locals := 103 }) (va_Pc [.ref h, .int (nI (kd)), .int (nI (ja)), .int (nI (jb)), .int (nI (k)), .int (nI (w))] (pB g z H0 (va_P g.1 cls [(h, .inr (1, fs)), (pa, ePS g 8 (gp)), (ak, eI g 48 (sk)), (ac, eI g 6 (cm))] H0 ∧ va_D (zA z) [(h, .inr (1, fs)), (pa, ePS g 8 (gp)), (ak, eI g 48 (sk)), (ac, eI g 6 (cm))] ∧ (fs[0]? = some (.ref pa) ∧ fs[2]? = some (.ref ak) ∧ fs[4]? = some (.int (nI nj)) ∧ fs[12]? = some (.ref ac) ∧ gp ja = some so1 ∧ gp jb = some so2 ∧ kd < 5 ∧ ja < 8 ∧ jb < 8 ∧ ja ≠ jb ∧ k < 3 ∧ 1 ≤ w ∧ w ≤ 1000 ∧ nj ≤ 12 ∧ gb sk (6 * ja) = SK ja ∧ okB (SK ja) ∧ gb sk (6 * jb) = SK jb ∧ okB (SK jb) ∧ ¬ (nj < 12 ∧ hasC (cmB (SK ja) (SK jb)) ∧ (kd = 2 → (szB (cmB (SK ja) (SK jb)) k + w - 1) / w ≤ 8) ∧ ¬ szB (cmB (SK ja) (SK jb)) k < lsN kd w))))) (va_Qi (fun (rr : Int32) (u : Nat → Int32) => jG nj kd k w (cmB (SK ja) (SK jb)) cl (A0, B0) = (0, rr, none)) (fun (u : Nat → Int32) t => va_P g.1 cls [(h, .inr (1, fs)), (pa, ePS g 8 (gp)), (ak, eI g 48 (sk)), (ac, eI g 6 (u))] t.heap ∧ va_D (va_A [(h, .inr (1, fs)), (pa, ePS g 8 (gp)), (ak, eI g 48 (sk)), (ac, eI g 6 (cm))] H0.size) [(h, .inr (1, fs)), (pa, ePS g 8 (gp)), (ak, eI g 48 (sk)), (ac, eI g 6 (u))]) (va_A [(h, .inr (1, fs)), (pa, ePS g 8 (gp)), (ak, eI g 48 (sk)), (ac, eI g 6 (cm))] H0.size)) (vx_X (fun (_ : Nat → Int32) => True) (fun E (u : Nat → Int32) t => (E = E_ISE ∧ jG nj kd k w (cmB (SK ja) (SK jb)) cl (A0, B0) = (3, nI 0, none)) ∧ va_P g.1 cls [(h, .inr (1, fs)), (pa, ePS g 8 (gp)), (ak, eI g 48 (sk)), (ac, eI g 6 (u))] t.heap ∧ va_D (va_A [(h, .inr (1, fs)), (pa, ePS g 8 (gp)), (ak, eI g 48 (sk)), (ac, eI g 6 (cm))] H0.size) [(h, .inr (1, fs)), (pa, ePS g 8 (gp)), (ak, eI g 48 (sk)), (ac, eI g 6 (u))]) (va_A [(h, .inr (1, fs)), (pa, ePS g 8 (gp)), (ak, eI g 48 (sk)), (ac, eI g 6 (cm))] H0.size)) 5 30 (va_A [(h, .inr (1, fs)), (pa, ePS g 8 (gp)), (ak, eI g 48 (sk)), (ac, eI g 6 (cm))] H0.size) := by
  refine vx_ofW (cc := c_J_joint) (maxL := 11) (ret := (some .int)) (by decide) rfl ?_
  intro p e s m args below meth c s₁ B hml htab hv
  obtain ⟨rfl, hH0, ha, hP, hD0, hf0, hf2, hf4, hf12, hga, hgb, hkd, hja, hjb, hne, hk3, hw1, hw2, hnj, hska, hoka, hskb, hokb, hlow⟩ := hv
  have hx := B.exec
  have hb := B.bytes
  have hr := B.returns
  have htB : ∀ w ∈ tB, w.before _ s = true := fun w h => atoms_spec (ws := w_J_joint) B.pre w (List.mem_cons_of_mem _ h)
  have hown : s.vm.findClass "JointSolids" = some m.cls := findClass_of_methodNamed B.named
  have hlocks := B.notSynchronized
  subst hH0
  have hD := hD0.self (sz := s.heap.size)
  have hz := aA_z hD0 ha.2.2.2.2.2
  generalize hAe : va_A [(h, .inr (1, fs)), (pa, ePS g 8 (gp)), (ak, eI g 48 (sk)), (ac, eI g 6 (cm))] s.heap.size = A at hD hz ⊢
  have hA : ∀ q : Nat, s.heap.size ≤ q → A q := fun q h => by rw [← hAe]; exact Or.inr h
  have hS : va_S A s.heap s.heap [] := va_S.rf
  have hl := lv_entry ([.ref h, .int (nI (kd)), .int (nI (ja)), .int (nI (jb)), .int (nI (k)), .int (nI (w))]) (n := 11) (Nat.le_of_ble_eq_true rfl)
  rw [lg_entry_eq]
  generalize (lg_sl ([.ref h, .int (nI (kd)), .int (nI (ja)), .int (nI (jb)), .int (nI (k)), .int (nI (w))]) ++ List.replicate (11 - (lg_sl ([.ref h, .int (nI (kd)), .int (nI (ja)), .int (nI (jb)), .int (nI (k)), .int (nI (w))])).length) Slot.unset).toArray = ls at hl ⊢
  have hl : lv_has ls 11 [(0, .ref h), (1, .int (nI (kd))), (2, .int (nI (ja))), (3, .int (nI (jb))), (4, .int (nI (k))), (5, .int (nI (w)))] := hl
  refine lv_iload_n hx hb d_J_joint_0 rfl (lv_at hl 1 rfl) ?_
  refine vx_callv (vx_runS (As := [.int (nI (kd))]) (rest := []) ⟨hx, hb, hml, hown, htB⟩ (x_J_needKind l hlt g z _ (nI (kd))) (va_cwS 1 htB (gS kw_284 kw_285 kw_1 g_J_needKind) rfl rfl rfl (by decide +kernel) ⟨Nat.le_of_ble_eq_true rfl, Nat.le_of_ble_eq_true rfl⟩) (pre_S hS hz ha trivial) rfl rfl hl.1 rfl (lv_room (Nat.le_of_ble_eq_true rfl)) d_J_joint_1 ⟨Nat.le_of_ble_eq_true rfl, Nat.le_of_ble_eq_true rfl⟩) hS (fun q _ h => h.elim) (fun q h => h.elim) (fun q h1 h2 => absurd h1 (Nat.not_lt.mpr h2)) (fun E ce q9 u t H1 locs ht hal hpx hBX hsz hk hS hce hcv hcl => ?_) (fun u t H1 locs ht hvm hw hB hz1 hk1 hS => ?_)
  · obtain ⟨hE, hkp⟩ := hBX
    exact absurd hE.2 (noP_in hkd (by decide))
  · obtain rfl := hB.symm.trans ht
    refine lv_aload_n hx hb d_J_joint_4 rfl (lv_at hl 0 rfl) ?_
    refine lv_iload_n hx hb d_J_joint_5 rfl (lv_at hl 2 rfl) ?_
    refine va_callr (va_runV (As := [.int (nI (ja))]) (rest := []) ⟨hx, hb, hml, hown, htB⟩ (p_J_solidOf l g z _ h fs pa gp (ja) so1) (cwV 1 htB (gV kw_87 kw_89 ks_0_0 kw_1 g_J_solidOf) rfl rfl rfl (by decide +kernel) ⟨by decide, by decide⟩) (pre_V hS hz ha (va_recv ha.1 hP (ci := 1) (q0 := 0) rfl rfl) ⟨va_pair (hP 0 _ rfl) (hP 1 _ rfl), hf0, by omega, hga⟩) rfl rfl hl.1 rfl (lv_room (Nat.le_of_ble_eq_true rfl)) d_J_joint_6 ⟨by decide, by decide⟩) hS (fun q _ h => h.elim) (fun q h => h.elim) (fun u r_2 t H1 locs ht hvm hw hB hz1 hk1 hS => ?_)
    obtain ⟨hans, hB⟩ := hB
    rw [hans]
    obtain rfl := hB.symm.trans ht
    refine lv_astore (lv' := [(6, .ref so1), (0, .ref h), (1, .int (nI (kd))), (2, .int (nI (ja))), (3, .int (nI (jb))), (4, .int (nI (k))), (5, .int (nI (w)))]) hx hb d_J_joint_9 hl (by decide) rfl (fun ls hl => ?_)
    refine lv_aload_n hx hb d_J_joint_11 rfl (lv_at hl 1 rfl) ?_
    refine lv_iload_n hx hb d_J_joint_12 rfl (lv_at hl 4 rfl) ?_
    refine va_callr (va_runV (As := [.int (nI (jb))]) (rest := []) ⟨hx, hb, hml, hown, htB⟩ (p_J_solidOf l g z _ h fs pa gp (jb) so2) (cwV 1 htB (gV kw_87 kw_89 ks_0_0 kw_1 g_J_solidOf) rfl rfl rfl (by decide +kernel) ⟨by decide, by decide⟩) (pre_V hS hz ha (va_recv ha.1 hP (ci := 1) (q0 := 0) rfl rfl) ⟨va_pair (hP 0 _ rfl) (hP 1 _ rfl), hf0, by omega, hgb⟩) rfl rfl hl.1 rfl (lv_room (Nat.le_of_ble_eq_true rfl)) d_J_joint_13 ⟨by decide, by decide⟩) hS (fun q _ h => h.elim) (fun q h => h.elim) (fun u r_3 t H1 locs ht hvm hw hB hz1 hk1 hS => ?_)
    obtain ⟨hans, hB⟩ := hB
    rw [hans]
    obtain rfl := hB.symm.trans ht
    refine lv_astore (lv' := [(7, .ref so2), (6, .ref so1), (0, .ref h), (1, .int (nI (kd))), (2, .int (nI (ja))), (3, .int (nI (jb))), (4, .int (nI (k))), (5, .int (nI (w)))]) hx hb d_J_joint_16 hl (by decide) rfl (fun ls hl => ?_)
    refine lv_iload hx hb d_J_joint_18 (lv_at hl 6 rfl) ?_
    refine vx_callv (vx_runS (As := [.int (nI (k))]) (rest := []) ⟨hx, hb, hml, hown, htB⟩ (x_J_needAxis l hlt g z _ (nI (k))) (va_cwS 1 htB (gS kw_288 kw_289 kw_1 g_J_needAxis) rfl rfl rfl (by decide +kernel) ⟨Nat.le_of_ble_eq_true rfl, Nat.le_of_ble_eq_true rfl⟩) (pre_S hS hz ha trivial) rfl rfl hl.1 rfl (lv_room (Nat.le_of_ble_eq_true rfl)) d_J_joint_20 ⟨Nat.le_of_ble_eq_true rfl, Nat.le_of_ble_eq_true rfl⟩) hS (fun q _ h => h.elim) (fun q h => h.elim) (fun q h1 h2 => absurd h1 (Nat.not_lt.mpr h2)) (fun E ce q9 u t H1 locs ht hal hpx hBX hsz hk hS hce hcv hcl => ?_) (fun u t H1 locs ht hvm hw hB hz1 hk1 hS => ?_)
    · obtain ⟨hE, hkp⟩ := hBX
      exact absurd hE.2 (noP_in hk3 (by decide))
    · obtain rfl := hB.symm.trans ht
      refine lv_iload_n hx hb d_J_joint_23 rfl (lv_at hl 4 rfl) ?_
      refine lv_iload_n hx hb d_J_joint_24 rfl (lv_at hl 5 rfl) ?_
      refine vx_callv (vx_runS (As := [.int (nI (ja)), .int (nI (jb))]) (rest := []) ⟨hx, hb, hml, hown, htB⟩ (x_J_needTwo l hlt g z _ (nI (ja)) (nI (jb))) (va_cwS 2 htB (gS kw_292 kw_293 kw_1 g_J_needTwo) rfl rfl rfl (by decide +kernel) ⟨Nat.le_of_ble_eq_true rfl, Nat.le_of_ble_eq_true rfl⟩) (pre_S hS hz ha trivial) rfl rfl hl.1 rfl (lv_room (Nat.le_of_ble_eq_true rfl)) d_J_joint_25 ⟨Nat.le_of_ble_eq_true rfl, Nat.le_of_ble_eq_true rfl⟩) hS (fun q _ h => h.elim) (fun q h => h.elim) (fun q h1 h2 => absurd h1 (Nat.not_lt.mpr h2)) (fun E ce q9 u t H1 locs ht hal hpx hBX hsz hk hS hce hcv hcl => ?_) (fun u t H1 locs ht hvm hw hB hz1 hk1 hS => ?_)
      · obtain ⟨hE, hkp⟩ := hBX
        exact absurd hE.2 (fun q => hne ((nI_eq (by omega) (by omega)).mp q))
      · obtain rfl := hB.symm.trans ht
        refine lv_iload hx hb d_J_joint_28 (lv_at hl 7 rfl) ?_
        refine vx_callv (vx_runS (As := [.int (nI (w))]) (rest := []) ⟨hx, hb, hml, hown, htB⟩ (x_J_needWidth l hlt g z _ (nI (w))) (va_cwS 1 htB (gS kw_296 kw_297 kw_1 g_J_needWidth) rfl rfl rfl (by decide +kernel) ⟨Nat.le_of_ble_eq_true rfl, Nat.le_of_ble_eq_true rfl⟩) (pre_S hS hz ha trivial) rfl rfl hl.1 rfl (lv_room (Nat.le_of_ble_eq_true rfl)) d_J_joint_30 ⟨Nat.le_of_ble_eq_true rfl, Nat.le_of_ble_eq_true rfl⟩) hS (fun q _ h => h.elim) (fun q h => h.elim) (fun q h1 h2 => absurd h1 (Nat.not_lt.mpr h2)) (fun E ce q9 u t H1 locs ht hal hpx hBX hsz hk hS hce hcv hcl => ?_) (fun u t H1 locs ht hvm hw hB hz1 hk1 hS => ?_)
        · obtain ⟨hE, hkp⟩ := hBX
          exact absurd hE.2 (wid_ok hw1 hw2)
        · obtain rfl := hB.symm.trans ht
          refine lv_aload_n hx hb d_J_joint_33 rfl (lv_at hl 2 rfl) ?_
          refine va_get (D := g.1) (ci := 1) (v := .int (nI (nj))) (C := R_J) (T := F_J) (N := 14) hx hb htB in_J hown ha.1 hP 0 rfl rfl 4 (by decide) (htB _ kw_44) (fun _ h9 => h9) hf4 d_J_joint_34 ?_
          refine lv_bipush (v := (nI (12))) hx hb d_J_joint_37 (by decide) ?_
          refine jv_icmp_lt (tgt := 52) hx hb (by omega) (by omega) d_J_joint_39 (by decide) (fun c_7 => ?_) (fun c_7 => ?_)
          · refine lv_aload_n hx hb d_J_joint_52 rfl (lv_at hl 2 rfl) ?_
            refine lv_iload_n hx hb d_J_joint_53 rfl (lv_at hl 4 rfl) ?_
            refine lv_iload_n hx hb d_J_joint_54 rfl (lv_at hl 5 rfl) ?_
            have hPc := hP.sub (ws' := [(h, .inr (1, fs)), (ak, eI g 48 (sk)), (ac, eI g 6 (cm))]) [0, 2, 3] rfl
            have hDc := hD.sub (ws' := [(h, .inr (1, fs)), (ak, eI g 48 (sk)), (ac, eI g 6 (cm))]) [0, 2, 3] (by decide) rfl
            have hFc := va_free (wc := [(h, .inr (1, fs)), (ak, eI g 48 (sk)), (ac, eI g 6 (cm))]) hD hS hA [0, 2, 3] rfl
            refine va_calli (va_runV (As := [.int (nI (ja)), .int (nI (jb))]) (rest := []) ⟨hx, hb, hml, hown, htB⟩ (m_J_findCommon l g z _ h (fs) ak ac (sk) (cm) (ja) (jb)) (cwV 2 htB (gV kw_301 kw_303 ks_0_10 kw_1 g_J_findCommon) rfl rfl rfl (by decide +kernel) ⟨Nat.le_of_ble_eq_true rfl, Nat.le_of_ble_eq_true rfl⟩) (pre_V hS hz ha (va_recv ha.1 hP (ci := 1) (q0 := 0) rfl rfl) ⟨hPc, hDc.weaken (fun _ _ _ h => hz _ h), ⟨hf2, hf12, by omega, by omega⟩⟩) rfl rfl hl.1 rfl (lv_room (Nat.le_of_ble_eq_true rfl)) d_J_joint_55 ⟨Nat.le_of_ble_eq_true rfl, Nat.le_of_ble_eq_true rfl⟩) hS (fun q _ h => hFc q h) hFc (fun r_8 u_9 t H1 locs ht hvm hw hB hz1 hk1 hS => ?_)
            obtain ⟨hP1, hD1⟩ := hB
            rw [ht] at hP1
            obtain ⟨hP, hD⟩ := va_join (wr := [(pa, ePS g 8 (gp))]) (w1 := [(h, .inr (1, fs)), (ak, eI g 48 (sk)), (ac, eI g 6 (cmF cm (cxL sk (ja * 6) (jb * 6) 0) (cxH sk (ja * 6) (jb * 6) 0) (cxL sk (ja * 6) (jb * 6) 1) (cxH sk (ja * 6) (jb * 6) 1) (cxL sk (ja * 6) (jb * 6) 2) (cxH sk (ja * 6) (jb * 6) 2)))]) hP hD [0, 2, 3] [1] rfl rfl (by decide) (by decide) hk1 hFc hP1 hD1
            clear hPc hDc hFc hP1 hD1 hk1 hz1 hvm ht
            generalize H1 = H at hP hS ⊢
            have hP : va_P g.1 cls [(pa, ePS g 8 (gp)), (h, .inr (1, fs)), (ak, eI g 48 (sk)), (ac, eI g 6 (cmF cm (cxL sk (ja * 6) (jb * 6) 0) (cxH sk (ja * 6) (jb * 6) 0) (cxL sk (ja * 6) (jb * 6) 1) (cxH sk (ja * 6) (jb * 6) 1) (cxL sk (ja * 6) (jb * 6) 2) (cxH sk (ja * 6) (jb * 6) 2)))] H := hP
            have hD : va_D A [(pa, ePS g 8 (gp)), (h, .inr (1, fs)), (ak, eI g 48 (sk)), (ac, eI g 6 (cmF cm (cxL sk (ja * 6) (jb * 6) 0) (cxH sk (ja * 6) (jb * 6) 0) (cxL sk (ja * 6) (jb * 6) 1) (cxH sk (ja * 6) (jb * 6) 1) (cxL sk (ja * 6) (jb * 6) 2) (cxH sk (ja * 6) (jb * 6) 2)))] := hD
            obtain ⟨cmn, hcmn⟩ : ∃ xq : Nat → Int32, xq = cmF cm (cxL sk (ja * 6) (jb * 6) 0) (cxH sk (ja * 6) (jb * 6) 0) (cxL sk (ja * 6) (jb * 6) 1) (cxH sk (ja * 6) (jb * 6) 1) (cxL sk (ja * 6) (jb * 6) 2) (cxH sk (ja * 6) (jb * 6) 2) := ⟨_, rfl⟩
            have hcg : gb cmn 0 = (cmB (SK ja) (SK jb)) := by rw [hcmn, cmF_gb, ← hska, ← hskb, Nat.mul_comm 6 ja, Nat.mul_comm 6 jb]; rfl
            rw [← hcmn] at hP hD
            clear hcmn
            by_cases hC : hasC (cmB (SK ja) (SK jb))
            · rw [if_pos (by have q9 := hC; rw [← hska, ← hskb, Nat.mul_comm 6 ja, Nat.mul_comm 6 jb] at q9; exact q9)] at hw
              subst hw
              have hokc := cmB_ok hoka hokb hC
              obtain ⟨S, hSe⟩ : ∃ S : Nat, (S, ()) = (szB (cmB (SK ja) (SK jb)) k, ()) := ⟨_, rfl⟩
              have hcm : cmOk cmn k S := by rw [show S = szB (cmB (SK ja) (SK jb)) k from congrArg Prod.fst hSe]; exact cmOk_of hcg hokc hk3
              have hSz : cmn (k + 3) - cmn k = nI S := hcm.2.2.1
              have hS1 := hcm.2.2.2.1
              have hS2 := hcm.2.2.2.2
              have hdv : (S + w - 1) / w ≤ S + w - 1 := Nat.div_le_self _ _
              have hP : va_P g.1 cls [(pa, ePS g 8 (gp)), (h, .inr (1, fs)), (ak, eI g 48 (sk)), (ac, eI g 6 (cmn))] H := hP
              have hD : va_D A [(pa, ePS g 8 (gp)), (h, .inr (1, fs)), (ak, eI g 48 (sk)), (ac, eI g 6 (cmn))] := hD
              refine lv_if_ne (tgt := 71) hx hb d_J_joint_58 (by decide) (fun _ => ?_) (fun h => absurd h (by decide))
              refine lv_aload_n hx hb d_J_joint_71 rfl (lv_at hl 2 rfl) ?_
              refine va_get (D := g.1) (ci := 1) (v := .ref ac) (C := R_J) (T := F_J) (N := 14) hx hb htB in_J hown ha.1 hP 1 rfl rfl 12 (by decide) (htB _ kw_52) (fun _ h9 => h9) hf12 d_J_joint_72 ?_
              refine lv_iload hx hb d_J_joint_75 (lv_at hl 6 rfl) ?_
              refine lv_iconst (v := (nI (3))) hx hb d_J_joint_77 (by decide) ?_
              refine jv_iadd hx hb d_J_joint_78 ?_
              refine ja_ald (k := k + 3) hx hb ha.1 hP 3 0 rfl rfl (by omega) (by omega) d_J_joint_79 ?_
              refine lv_aload_n hx hb d_J_joint_80 rfl (lv_at hl 2 rfl) ?_
              refine va_get (D := g.1) (ci := 1) (v := .ref ac) (C := R_J) (T := F_J) (N := 14) hx hb htB in_J hown ha.1 hP 1 rfl rfl 12 (by decide) (htB _ kw_52) (fun _ h9 => h9) hf12 d_J_joint_81 ?_
              refine lv_iload hx hb d_J_joint_84 (lv_at hl 6 rfl) ?_
              refine ja_ald (k := k) hx hb ha.1 hP 3 0 rfl rfl (by omega) (by omega) d_J_joint_86 ?_
              refine lv_isub hx hb d_J_joint_87 ?_
              rw [hSz]
              refine lv_istore (lv' := [(8, .int (nI (S))), (7, .ref so2), (6, .ref so1), (0, .ref h), (1, .int (nI (kd))), (2, .int (nI (ja))), (3, .int (nI (jb))), (4, .int (nI (k))), (5, .int (nI (w)))]) hx hb d_J_joint_88 hl (by decide) rfl (fun ls hl => ?_)
              refine lv_iload_n hx hb d_J_joint_90 rfl (lv_at hl 4 rfl) ?_
              refine lv_iconst (v := (nI (2))) hx hb d_J_joint_91 (by decide) ?_
              refine jv_icmp_ne (tgt := 117) hx hb (by omega) (by omega) d_J_joint_92 (by decide) (fun c_11 => ?_) (fun c_11 => ?_)
              · refine lv_iload_n hx hb d_J_joint_117 rfl (lv_at hl 4 rfl) ?_
                refine lv_iload hx hb d_J_joint_118 (lv_at hl 8 rfl) ?_
                refine va_calli (va_runS (As := [.int (nI (kd)), .int (nI (w))]) (rest := []) ⟨hx, hb, hml, hown, htB⟩ (p_J_leastSize l g z _ (kd) (w)) (va_cwS 2 htB (gS kw_310 kw_311 kw_1 g_J_leastSize) rfl rfl rfl (by decide +kernel) ⟨by decide, by decide⟩) (pre_S hS hz ha hkd) rfl rfl hl.1 rfl (lv_room (Nat.le_of_ble_eq_true rfl)) d_J_joint_120 ⟨by decide, by decide⟩) hS (fun q _ h => h.elim) (fun q h => h.elim) (fun r_12 u t H1 locs ht hvm hw hB hz1 hk1 hS => ?_)
                obtain rfl := hB.symm.trans ht
                subst hw
                refine lv_iload hx hb d_J_joint_123 (lv_at hl 0 rfl) ?_
                refine lv_isub hx hb d_J_joint_125 ?_
                refine lv_istore (lv' := [(9, .int ((nI (lsN (kd) (w))) - (nI (S)))), (8, .int (nI (S))), (7, .ref so2), (6, .ref so1), (0, .ref h), (1, .int (nI (kd))), (2, .int (nI (ja))), (3, .int (nI (jb))), (4, .int (nI (k))), (5, .int (nI (w)))]) hx hb d_J_joint_126 hl (by decide) rfl (fun ls hl => ?_)
                refine lv_iload hx hb d_J_joint_128 (lv_at hl 0 rfl) ?_
                refine lv_if_le (tgt := 138) hx hb d_J_joint_130 (by decide) (fun c_13 => ?_) (fun c_13 => ?_)
                · exact absurd ⟨by omega, hC, (fun q => absurd q (by omega)), by rw [(show szB (cmB (SK ja) (SK jb)) k = S from (congrArg Prod.fst hSe).symm)]; exact (lack_iff (Nat.le_trans (lsN_b hw2) (by decide)) hS2).mp c_13⟩ hlow
                · refine lv_iconst (v := ((-1))) hx hb d_J_joint_133 (by decide) ?_
                  refine lv_iload hx hb d_J_joint_134 (lv_at hl 0 rfl) ?_
                  refine lv_isub hx hb d_J_joint_136 ?_
                  have hP9 := hP.sub (ws' := [(h, .inr (1, fs)), (pa, ePS g 8 (gp)), (ak, eI g 48 (sk)), (ac, eI g 6 (cmn))]) [1, 0, 2, 3] rfl
                  have hD9 := hD.sub (ws' := [(h, .inr (1, fs)), (pa, ePS g 8 (gp)), (ak, eI g 48 (sk)), (ac, eI g 6 (cmn))]) [1, 0, 2, 3] (by decide) rfl
                  exact vx_ret (W.widen (k := 5) (n := 30) (Nat.le_of_ble_eq_true rfl) (Nat.le_of_ble_eq_true rfl) (W.iret (v := (((-1)) - ((nI (lsN (kd) (w))) - (nI (S))))) hx hb hr (fun t ht hW => ⟨⟨(((-1)) - ((nI (lsN (kd) (w))) - (nI (S)))), cmn, rfl, by rw [jG_b (by omega) hC (fun q => absurd q (by omega)) (by rw [(show szB (cmB (SK ja) (SK jb)) k = S from (congrArg Prod.fst hSe).symm)]; exact Classical.byContradiction (fun q => c_13 ((lack_iff (Nat.le_trans (lsN_b hw2) (by decide)) hS2).mpr q))), (show szB (cmB (SK ja) (SK jb)) k = S from (congrArg Prod.fst hSe).symm)], by rw [ht]; exact hP9, hD9.re [h, pa, ak, ac] rfl rfl⟩, hS.F ht⟩) hS.2.2 d_J_joint_137))
              · refine lv_iload hx hb d_J_joint_95 (lv_at hl 0 rfl) ?_
                refine lv_iload hx hb d_J_joint_97 (lv_at hl 8 rfl) ?_
                refine va_calli (va_runS (As := [.int (nI (S)), .int (nI (w))]) (rest := []) ⟨hx, hb, hml, hown, htB⟩ (p_J_slicesOf l g z _ (S) (w)) (va_cwS 2 htB (gS kw_306 kw_307 kw_1 g_J_slicesOf) rfl rfl rfl (by decide +kernel) ⟨by decide, by decide⟩) (pre_S hS hz ha ⟨by omega, by omega, by omega⟩) rfl rfl hl.1 rfl (lv_room (Nat.le_of_ble_eq_true rfl)) d_J_joint_99 ⟨by decide, by decide⟩) hS (fun q _ h => h.elim) (fun q h => h.elim) (fun r_14 u t H1 locs ht hvm hw hB hz1 hk1 hS => ?_)
                obtain rfl := hB.symm.trans ht
                subst hw
                refine lv_bipush (v := (nI (8))) hx hb d_J_joint_102 (by decide) ?_
                refine jv_icmp_le (tgt := 117) hx hb (by omega) (by omega) d_J_joint_104 (by decide) (fun c_15 => ?_) (fun c_15 => ?_)
                · refine lv_iload_n hx hb d_J_joint_117 rfl (lv_at hl 4 rfl) ?_
                  refine lv_iload hx hb d_J_joint_118 (lv_at hl 8 rfl) ?_
                  refine va_calli (va_runS (As := [.int (nI (kd)), .int (nI (w))]) (rest := []) ⟨hx, hb, hml, hown, htB⟩ (p_J_leastSize l g z _ (kd) (w)) (va_cwS 2 htB (gS kw_310 kw_311 kw_1 g_J_leastSize) rfl rfl rfl (by decide +kernel) ⟨by decide, by decide⟩) (pre_S hS hz ha hkd) rfl rfl hl.1 rfl (lv_room (Nat.le_of_ble_eq_true rfl)) d_J_joint_120 ⟨by decide, by decide⟩) hS (fun q _ h => h.elim) (fun q h => h.elim) (fun r_16 u t H1 locs ht hvm hw hB hz1 hk1 hS => ?_)
                  obtain rfl := hB.symm.trans ht
                  subst hw
                  refine lv_iload hx hb d_J_joint_123 (lv_at hl 0 rfl) ?_
                  refine lv_isub hx hb d_J_joint_125 ?_
                  refine lv_istore (lv' := [(9, .int ((nI (lsN (kd) (w))) - (nI (S)))), (8, .int (nI (S))), (7, .ref so2), (6, .ref so1), (0, .ref h), (1, .int (nI (kd))), (2, .int (nI (ja))), (3, .int (nI (jb))), (4, .int (nI (k))), (5, .int (nI (w)))]) hx hb d_J_joint_126 hl (by decide) rfl (fun ls hl => ?_)
                  refine lv_iload hx hb d_J_joint_128 (lv_at hl 0 rfl) ?_
                  refine lv_if_le (tgt := 138) hx hb d_J_joint_130 (by decide) (fun c_17 => ?_) (fun c_17 => ?_)
                  · exact absurd ⟨by omega, hC, (fun _ => by rw [(show szB (cmB (SK ja) (SK jb)) k = S from (congrArg Prod.fst hSe).symm)]; omega), by rw [(show szB (cmB (SK ja) (SK jb)) k = S from (congrArg Prod.fst hSe).symm)]; exact (lack_iff (Nat.le_trans (lsN_b hw2) (by decide)) hS2).mp c_17⟩ hlow
                  · refine lv_iconst (v := ((-1))) hx hb d_J_joint_133 (by decide) ?_
                    refine lv_iload hx hb d_J_joint_134 (lv_at hl 0 rfl) ?_
                    refine lv_isub hx hb d_J_joint_136 ?_
                    have hP9 := hP.sub (ws' := [(h, .inr (1, fs)), (pa, ePS g 8 (gp)), (ak, eI g 48 (sk)), (ac, eI g 6 (cmn))]) [1, 0, 2, 3] rfl
                    have hD9 := hD.sub (ws' := [(h, .inr (1, fs)), (pa, ePS g 8 (gp)), (ak, eI g 48 (sk)), (ac, eI g 6 (cmn))]) [1, 0, 2, 3] (by decide) rfl
                    exact vx_ret (W.widen (k := 5) (n := 30) (Nat.le_of_ble_eq_true rfl) (Nat.le_of_ble_eq_true rfl) (W.iret (v := (((-1)) - ((nI (lsN (kd) (w))) - (nI (S))))) hx hb hr (fun t ht hW => ⟨⟨(((-1)) - ((nI (lsN (kd) (w))) - (nI (S)))), cmn, rfl, by rw [jG_b (by omega) hC (fun _ => by rw [(show szB (cmB (SK ja) (SK jb)) k = S from (congrArg Prod.fst hSe).symm)]; omega) (by rw [(show szB (cmB (SK ja) (SK jb)) k = S from (congrArg Prod.fst hSe).symm)]; exact Classical.byContradiction (fun q => c_17 ((lack_iff (Nat.le_trans (lsN_b hw2) (by decide)) hS2).mpr q))), (show szB (cmB (SK ja) (SK jb)) k = S from (congrArg Prod.fst hSe).symm)], by rw [ht]; exact hP9, hD9.re [h, pa, ak, ac] rfl rfl⟩, hS.F ht⟩) hS.2.2 d_J_joint_137))
                · exact thr_ISE hx hb hlt hown htB ha hz sB_134 hS (hl.1.trans hml.symm) htab d_J_joint_107 d_J_joint_110 d_J_joint_111 d_J_joint_113 d_J_joint_116 (Nat.le_of_ble_eq_true rfl) (Nat.le_of_ble_eq_true rfl) (Nat.le_of_ble_eq_true rfl) (Nat.le_of_ble_eq_true rfl) hlocks (fun t _ h1 h2 => ⟨cmn, trivial, ⟨⟨rfl, jG_a (Or.inr (Or.inr ⟨by omega, by rw [(show szB (cmB (SK ja) (SK jb)) k = S from (congrArg Prod.fst hSe).symm)]; omega⟩))⟩, kp_P (hP.sub (ws' := [(h, .inr (1, fs)), (pa, ePS g 8 (gp)), (ak, eI g 48 (sk)), (ac, eI g 6 (cmn))]) [1, 0, 2, 3] rfl) h2, hAe.symm ▸ (hD.sub (ws' := [(h, .inr (1, fs)), (pa, ePS g 8 (gp)), (ak, eI g 48 (sk)), (ac, eI g 6 (cmn))]) [1, 0, 2, 3] (by decide) rfl).re [h, pa, ak, ac] rfl rfl⟩, Nat.le_trans hS.1 h1, fun q hq hn => (h2 q (Nat.lt_of_lt_of_le hq hS.1)).trans (hS.2.1 q hq (hAe ▸ hn))⟩) hS.2.2 (Nat.le_of_ble_eq_true rfl) (Nat.le_of_ble_eq_true rfl)
            · rw [if_neg (by have q9 := hC; rw [← hska, ← hskb, Nat.mul_comm 6 ja, Nat.mul_comm 6 jb] at q9; exact q9)] at hw
              subst hw
              have hP : va_P g.1 cls [(pa, ePS g 8 (gp)), (h, .inr (1, fs)), (ak, eI g 48 (sk)), (ac, eI g 6 (cmn))] H := hP
              have hD : va_D A [(pa, ePS g 8 (gp)), (h, .inr (1, fs)), (ak, eI g 48 (sk)), (ac, eI g 6 (cmn))] := hD
              refine lv_if_ne (tgt := 71) hx hb d_J_joint_58 (by decide) (fun h => absurd h (by decide)) (fun _ => ?_)
              exact thr_ISE hx hb hlt hown htB ha hz sB_128 hS (hl.1.trans hml.symm) htab d_J_joint_61 d_J_joint_64 d_J_joint_65 d_J_joint_67 d_J_joint_70 (Nat.le_of_ble_eq_true rfl) (Nat.le_of_ble_eq_true rfl) (Nat.le_of_ble_eq_true rfl) (Nat.le_of_ble_eq_true rfl) hlocks (fun t _ h1 h2 => ⟨cmn, trivial, ⟨⟨rfl, jG_a (Or.inr (Or.inl hC))⟩, kp_P (hP.sub (ws' := [(h, .inr (1, fs)), (pa, ePS g 8 (gp)), (ak, eI g 48 (sk)), (ac, eI g 6 (cmn))]) [1, 0, 2, 3] rfl) h2, hAe.symm ▸ (hD.sub (ws' := [(h, .inr (1, fs)), (pa, ePS g 8 (gp)), (ak, eI g 48 (sk)), (ac, eI g 6 (cmn))]) [1, 0, 2, 3] (by decide) rfl).re [h, pa, ak, ac] rfl rfl⟩, Nat.le_trans hS.1 h1, fun q hq hn => (h2 q (Nat.lt_of_lt_of_le hq hS.1)).trans (hS.2.1 q hq (hAe ▸ hn))⟩) hS.2.2 (Nat.le_of_ble_eq_true rfl) (Nat.le_of_ble_eq_true rfl)
          · exact thr_ISE hx hb hlt hown htB ha hz sB_122 hS (hl.1.trans hml.symm) htab d_J_joint_42 d_J_joint_45 d_J_joint_46 d_J_joint_48 d_J_joint_51 (Nat.le_of_ble_eq_true rfl) (Nat.le_of_ble_eq_true rfl) (Nat.le_of_ble_eq_true rfl) (Nat.le_of_ble_eq_true rfl) hlocks (fun t _ h1 h2 => ⟨cm, trivial, ⟨⟨rfl, jG_a (Or.inl (by omega))⟩, kp_P (hP.sub (ws' := [(h, .inr (1, fs)), (pa, ePS g 8 (gp)), (ak, eI g 48 (sk)), (ac, eI g 6 (cm))]) [0, 1, 2, 3] rfl) h2, hAe.symm ▸ (hD.sub (ws' := [(h, .inr (1, fs)), (pa, ePS g 8 (gp)), (ak, eI g 48 (sk)), (ac, eI g 6 (cm))]) [0, 1, 2, 3] (by decide) rfl).re [h, pa, ak, ac] rfl rfl⟩, Nat.le_trans hS.1 h1, fun q hq hn => (h2 q (Nat.lt_of_lt_of_le hq hS.1)).trans (hS.2.1 q hq (hAe ▸ hn))⟩) hS.2.2 (Nat.le_of_ble_eq_true rfl) (Nat.le_of_ble_eq_true rfl)
