/-! THE CLAIM OUT OF ONE WALK OF THE LAW'S BODY. Your part is whole_start (and what it stands on); all else here is the same for every law, but numbers. -/
def R_law : String := "JointSolidsLaw"
def lw_P (b : Addr) (xs : List Int32) (args : Array Value) (s : State) : Prop := args = #[.ref b] ∧ s.IntsAt b xs ∧ xs.length ≤ 4096 ∧ (Jvm.Cond.and given_1 narrow_1).before args s = true
def lw_Q (_ : Array Value) (s : State) (o : Outcome) (t : State) : Prop := o = .returned (some (.int 1)) ∧ Framed s o t [] 601024 7293033
def lw_Z (below : List Frame) (a : Array Value) (s : State) : State → Prop := fun t => ∃ o, t.status = .running ∧ Ended t below o ∧ lw_Q a s o t
/-- the law's own end, with 1 on the stack, nothing written that was there before, its room as the claim has it -/
theorem lw_ret {p : Program} {l : Launch} {e : Env} {s : State} {m : MethodId} {below : List Frame} {meth : Method} {c : Code} {b : Nat} (hx : p.tables.exec = Jvm.exec) (hb : c.code = code) (hr : meth.sig.returnType = ret) (hlocks : meth.locks = false) {pc : Nat} {H : Heap} {ls : Array Slot} (hdg : decode code pc = .ok (.ireturn, 1)) : W p l e room_1 s m #[Value.ref b] below meth c H [] 601024 7293033 (lw_Z below #[Value.ref b] s) (F0 m pc ls [.int 1]) := by
  intro T hT X
  obtain ⟨fs, hret, hrun, hended, hW, hframe⟩ := X.leave (v := some (.int 1)) (hlocks := hlocks) (fun h => by rw [hr] at h; cases h)
  have hmeth' : T.vm.method? m = some meth := X.method'
  refine ⟨T.setFrames fs, ?_, .returned (some (.int 1)), hrun, hended, rfl, ⟨_, rfl⟩, hW, hframe⟩
  jvm_step X.here [X.here.top, hx, hb, hdg, hmeth', hr, ret, narrow_b1]
  (try refine ⟨rfl, ?_⟩); (try refine ⟨rfl, ?_⟩)
  first | (intro acts; rw [hret _ acts rfl rfl rfl]) | rw [hret _ _ rfl rfl rfl]
  exact Steps.refl _
/-- what holds at the law's entry: the machine, the code, the tables' words (any of lw_tbl by 'hts w (by decide +kernel)'), the script of L ints xs at the cell b, what the Statement gives of the start (any of its parts by flat_of_before) -/
def lw_At (p : Program) (s : State) (m : MethodId) (meth : Method) (c : Code) (b L : Nat) (xs : Nat → Int32) : Prop :=
  p.tables.exec = Jvm.exec ∧ c.code = code ∧ meth.sig.returnType = ret ∧ c.maxLocals = 8 ∧ s.vm.findClass R_law = some m.cls ∧ (∀ w ∈ lw_tbl, w.before #[Value.ref b] s = true) ∧ va_X b L xs s s.heap ∧ b < s.heap.size ∧ meth.locks = false ∧ (Jvm.Cond.and given_1 narrow_1).before #[Value.ref b] s = true
/-! The law's own steps. -/
def lI (g : gT) (s : State) (h mo ou : Nat) (σ : sT) (th : Nat) (wj wm : va_W) (fo : Nat → Int64) (H : Heap) (locs : List Loc) : Prop := jI g h σ wj ∧ mI g mo σ th wm ∧ va_P g.1 cls (((ou, eL g 1 fo) :: wj) ++ wm) H ∧ va_D (zA s.heap.size) (((ou, eL g 1 fo) :: wj) ++ wm) ∧ va_S (zA s.heap.size) s.heap H locs
def lK (p : Program) (l : Launch) (e : Env) (s : State) (m : MethodId) (below : List Frame) (meth : Method) (c : Code) (b : Nat) (g : gT) (h mo ou i cc sc : Nat) : Prop := ∀ (σ : sT) (th : Nat) (wj wm : va_W) (fo : Nat → Int64) (H : Heap) (locs : List Loc) (ls : Array Slot), lI g s h mo ou σ th wj wm fo H locs → lv_has ls 8 [(0, .ref b), (1, .ref h), (2, .ref mo), (3, .ref ou), (4, .int (nI i))] → W p l e room_1 s m #[Value.ref b] below meth c H locs cc sc (lw_Z below #[Value.ref b] s) (F0 m 1116 ls [])
theorem jn2 {A0 : Nat → Prop} {D : va_G} {cl : List vw_C} {X Y Y1 : va_W} {H H1 : Heap} (hP : va_P D cl (X ++ Y) H) (hD : va_D A0 (X ++ Y)) (hk : ∀ q : Nat, q < H.size → ¬ va_A Y H.size q → H1[q]? = H[q]?) (hF : ∀ q, va_A Y H.size q → A0 q) (hP1 : va_P D cl Y1 H1) (hD1 : va_D (va_A Y H.size) Y1) : va_P D cl (X ++ Y1) H1 ∧ va_D A0 (X ++ Y1) := by
  obtain ⟨k1, k2⟩ := jn List.perm_append_comm hP hD hk hF hP1 hD1
  exact ⟨va_P_perm k1 List.perm_append_comm, va_D_perm k2 List.perm_append_comm⟩
theorem fr_L {s : State} {X Y : va_W} {H : Heap} {locs : List Loc} (hD : va_D (zA s.heap.size) (X ++ Y)) (hS : va_S (zA s.heap.size) s.heap H locs) : ∀ q, va_A X H.size q → zA s.heap.size q := fun q h => h.elim (fun ⟨k, e, h⟩ => (va_D_iff.mp hD).2 (q, e) (List.mem_append_left _ (List.mem_of_getElem? h))) (fun h => Nat.le_trans hS.1 h)
theorem fr_R {s : State} {X Y : va_W} {H : Heap} {locs : List Loc} (hD : va_D (zA s.heap.size) (X ++ Y)) (hS : va_S (zA s.heap.size) s.heap H locs) : ∀ q, va_A Y H.size q → zA s.heap.size q := fun q h => h.elim (fun ⟨k, e, h⟩ => (va_D_iff.mp hD).2 (q, e) (List.mem_append_right _ (List.mem_of_getElem? h))) (fun h => Nat.le_trans hS.1 h)
theorem ap_P {D : va_G} {cl : List vw_C} {X Y : va_W} {H : Heap} (h : va_P D cl (X ++ Y) H) : va_P D cl X H ∧ va_P D cl Y H := ⟨perm_P (List.Perm.refl _) h, perm_P List.perm_append_comm h⟩
theorem ap_D {A : Nat → Prop} {X Y : va_W} (h : va_D A (X ++ Y)) : va_D A X ∧ va_D A Y := ⟨perm_D (List.Perm.refl _) h, perm_D List.perm_append_comm h⟩
theorem code_0 {n : Nat} (h : n < 4) (e : nI n = 0) : n = 0 := (nI_eq (by omega) (by decide)).mp (e.trans rfl)
section JL
variable {p : Program} {l : Launch} {e : Env} {R : Room} {s : State} {m : MethodId} {args : Array Value} {below : List Frame} {meth : Method} {c : Code} {H : Heap} {locs : List Loc} {cells slots : Nat} {Q : State → Prop}
variable {pc : Nat} {ls : Array Slot} {rest : List Value} {cc : ByteArray}
theorem ja_sld {A : Nat → Prop} {H0 : Heap} (hexec : p.tables.exec = Jvm.exec) (hb : c.code = cc) {b L : Nat} {xs : Nat → Int32} (hX : va_X b L xs s H0) (hbl : b < H0.size) (hbA : ¬ A b) (hS : va_S A H0 H locs) {k : Nat} (hk : k < L) (hn : L < 2 ^ 31) (hdg : decode cc pc = .ok (.iaload, 1))
    (kk : W p l e R s m args below meth c H locs cells slots Q (F0 m (pc + 1) ls (.int (xs k) :: rest))) : W p l e R s m args below meth c H locs cells slots Q (F0 m pc ls (.int (nI k) :: .ref b :: rest)) := by
  refine va_sld hexec hb hX hbl hbA hS (vp_in_nI hk hn) hdg ?_
  rw [nI_clamp (by omega)]; exact kk
end JL
theorem and15 (x : Int32) : ∃ q : Nat, q < 16 ∧ x &&& nI 15 = nI q := by
  refine ⟨x.toBitVec.toNat % 16, Nat.mod_lt _ (by decide), ?_⟩
  apply Int32.toBitVec_inj.mp
  rw [Int32.toBitVec_and]
  apply BitVec.eq_of_toNat_eq
  rw [BitVec.toNat_and]
  show x.toBitVec.toNat &&& 15 = (BitVec.ofNat 32 (x.toBitVec.toNat % 16)).toNat
  rw [BitVec.toNat_ofNat, show (15 : Nat) = 2 ^ 4 - 1 from rfl, Nat.and_two_pow_sub_one_eq_mod]
  omega
theorem lw_more {L i : Nat} (hL : L ≤ 4096) (hi : i ≤ 4096) (h : ¬ nI L - nI 8 < nI i) : i + 8 ≤ L := by
  rw [Int32.lt_iff_toInt_lt, sub_toInt (by rw [nI_Int (by omega), nI_Int (by decide)]; omega) (by rw [nI_Int (by omega), nI_Int (by decide)]; omega), nI_Int (by omega), nI_Int (by decide), nI_Int (by omega)] at h
  omega
theorem pmw {α : Type} (o : α) (X Y : List α) : ((o :: X) ++ Y).Perm (X ++ ([o] ++ Y)) := by
  show (o :: (X ++ Y)).Perm (X ++ (o :: Y))
  exact List.perm_middle.symm
set_option maxHeartbeats 4000000 in
set_option maxRecDepth 100000 in
theorem lc_part {p : Program} {l : Launch} {e : Env} {s : State} {m : MethodId} {below : List Frame} {meth : Method} {c : Code} {b L : Nat} {xs : Nat → Int32} (hlt : l.stackTraces = false) (C0 : lw_At p s m meth c b L xs) {g : gT} (ha : aM g s.heap.size s) (hnc : nC s) {h mo ou i cc sc : Nat} (hi : i + 8 ≤ L) (hL : L ≤ 4096) (hcc : cc + 6 ≤ 601024) (hsc : sc + 158 ≤ 7293033) (K : lK p l e s m below meth c b g h mo ou i (cc + 6) (sc + 158)) {σ : sT} {th : Nat} {wj wm : va_W} {fo : Nat → Int64} {H : Heap} {locs : List Loc} {ls : Array Slot} (hI : lI g s h mo ou σ th wj wm fo H locs) (hl : lv_has ls 8 [(0, .ref b), (1, .ref h), (2, .ref mo), (3, .ref ou), (4, .int (nI i))]) : W p l e room_1 s m #[Value.ref b] below meth c H locs cc sc (lw_Z below #[Value.ref b] s) (F0 m 112 ls []) := by
  obtain ⟨hx, hb, hr, hml, hown, hts, hX, hbl, hlocks, hgv⟩ := id C0
  have hbA : ¬ zA s.heap.size b := Nat.not_le.mpr hbl
  have htB : ∀ w ∈ tB, w.before #[Value.ref b] s = true := fun w h => hts w (tB_in h)
  have hz : ∀ q, zA s.heap.size q → s.heap.size ≤ q := fun _ h => h
  have hown : s.vm.findClass R_L = some m.cls := hown
  have hb : c.code = c_L_law := hb
  obtain ⟨hj, hm, hP, hD, hS⟩ := hI
  refine lv_aload_n hx hb d_L_law_112 rfl (lv_at hl 1 rfl) ?_
  refine lv_aload_n hx hb d_L_law_113 rfl (lv_at hl 0 rfl) ?_
  refine lv_iload hx hb d_L_law_114 (lv_at hl 4 rfl) ?_
  refine lv_iconst (v := (nI (1))) hx hb d_L_law_116 (by decide) ?_
  refine jv_iadd hx hb d_L_law_117 ?_
  refine ja_sld (k := i + 1) hx hb hX hbl hbA hS (by omega) (by omega) d_L_law_118 ?_
  refine lv_aload_n hx hb d_L_law_119 rfl (lv_at hl 0 rfl) ?_
  refine lv_iload hx hb d_L_law_120 (lv_at hl 4 rfl) ?_
  refine lv_iconst (v := (nI (2))) hx hb d_L_law_122 (by decide) ?_
  refine jv_iadd hx hb d_L_law_123 ?_
  refine ja_sld (k := i + 2) hx hb hX hbl hbA hS (by omega) (by omega) d_L_law_124 ?_
  refine lv_aload_n hx hb d_L_law_125 rfl (lv_at hl 0 rfl) ?_
  refine lv_iload hx hb d_L_law_126 (lv_at hl 4 rfl) ?_
  refine lv_iconst (v := (nI (3))) hx hb d_L_law_128 (by decide) ?_
  refine jv_iadd hx hb d_L_law_129 ?_
  refine ja_sld (k := i + 3) hx hb hX hbl hbA hS (by omega) (by omega) d_L_law_130 ?_
  refine lv_aload_n hx hb d_L_law_131 rfl (lv_at hl 0 rfl) ?_
  refine lv_iload hx hb d_L_law_132 (lv_at hl 4 rfl) ?_
  refine lv_iconst (v := (nI (4))) hx hb d_L_law_134 (by decide) ?_
  refine jv_iadd hx hb d_L_law_135 ?_
  refine ja_sld (k := i + 4) hx hb hX hbl hbA hS (by omega) (by omega) d_L_law_136 ?_
  refine lv_aload_n hx hb d_L_law_137 rfl (lv_at hl 0 rfl) ?_
  refine lv_iload hx hb d_L_law_138 (lv_at hl 4 rfl) ?_
  refine lv_iconst (v := (nI (5))) hx hb d_L_law_140 (by decide) ?_
  refine jv_iadd hx hb d_L_law_141 ?_
  refine ja_sld (k := i + 5) hx hb hX hbl hbA hS (by omega) (by omega) d_L_law_142 ?_
  refine lv_aload_n hx hb d_L_law_143 rfl (lv_at hl 0 rfl) ?_
  refine lv_iload hx hb d_L_law_144 (lv_at hl 4 rfl) ?_
  refine lv_bipush (v := (nI (6))) hx hb d_L_law_146 (by decide) ?_
  refine jv_iadd hx hb d_L_law_148 ?_
  refine ja_sld (k := i + 6) hx hb hX hbl hbA hS (by omega) (by omega) d_L_law_149 ?_
  refine lv_aload_n hx hb d_L_law_150 rfl (lv_at hl 3 rfl) ?_
  obtain ⟨hPX, hPm⟩ := ap_P hP
  obtain ⟨hDX, hDm⟩ := ap_D hD
  have hFx := fr_L hD hS
  refine vx_calli (vx_runSX (As := [.ref h, .int (xs (i + 1)), .int (xs (i + 2)), .int (xs (i + 3)), .int (xs (i + 4)), .int (xs (i + 5)), .int (xs (i + 6)), .ref ou]) (rest := []) ⟨hx, hb, hml, hown, htB⟩ (h_part l hlt g s.heap.size _ h σ wj hj ou fo (xs (i + 1)) (xs (i + 2)) (xs (i + 3)) (xs (i + 4)) (xs (i + 5)) (xs (i + 6))) (vx_cwSW 8 htB (gS kw_174 kw_175 kw_0 g_L_part) rfl rfl rfl (by decide +kernel) ⟨Nat.le_of_ble_eq_true rfl, Nat.le_of_ble_eq_true rfl⟩) (pre_SL hS hz ha hnc ⟨hPX, hDX⟩) rfl rfl hl.1 rfl (lv_room (Nat.le_of_ble_eq_true rfl)) d_L_law_151 ⟨by show cc + 4 ≤ 601024; omega, by show sc + 158 ≤ 7293033; omega⟩) hS (fun q _ h => hFx q h) hFx (fun q _ h => h.elim) (fun E ce q9 u t H1 locs ht hal hpx _ _ _ _ _ _ _ => hpx.elim) (fun rr u t H1 locs ht hvm hw hB hz1 hk1 hS => ?_)
  obtain ⟨wn, fn⟩ := u
  dsimp only at hw hB
  obtain ⟨hc4, hrr, hans, hj'⟩ := hw
  subst hrr
  obtain ⟨hP1, hD1⟩ := hB
  rw [ht] at hP1
  obtain ⟨hP, hD⟩ := jn (List.Perm.refl _) hP hD hk1 hFx hP1 hD1
  clear hPX hPm hDX hDm hFx hk1 hz1 hvm ht hP1 hD1
  generalize H1 = H at hP hS ⊢
  refine lv_istore (lv' := [(5, .int (nI (s_part σ (xs (i + 1)) (xs (i + 2)) (xs (i + 3)) (xs (i + 4)) (xs (i + 5)) (xs (i + 6))).1)), (0, .ref b), (1, .ref h), (2, .ref mo), (3, .ref ou), (4, .int (nI (i)))]) hx hb d_L_law_154 hl (by decide) rfl (fun ls hl => ?_)
  refine lv_aload_n hx hb d_L_law_156 rfl (lv_at hl 3 rfl) ?_
  refine lv_aload_n hx hb d_L_law_157 rfl (lv_at hl 1 rfl) ?_
  refine lv_iload hx hb d_L_law_158 (lv_at hl 5 rfl) ?_
  refine lv_iconst (v := (nI (1))) hx hb d_L_law_160 (by decide) ?_
  refine jv_iadd hx hb d_L_law_161 ?_
  refine ja_sld (k := i + 1) hx hb hX hbl hbA hS (by omega) (by omega) d_L_law_162 ?_
  refine lv_aload_n hx hb d_L_law_163 rfl (lv_at hl 1 rfl) ?_
  refine lv_iload hx hb d_L_law_164 (lv_at hl 5 rfl) ?_
  refine lv_iconst (v := (nI (2))) hx hb d_L_law_166 (by decide) ?_
  refine jv_iadd hx hb d_L_law_167 ?_
  refine ja_sld (k := i + 2) hx hb hX hbl hbA hS (by omega) (by omega) d_L_law_168 ?_
  refine lv_aload_n hx hb d_L_law_169 rfl (lv_at hl 1 rfl) ?_
  refine lv_iload hx hb d_L_law_170 (lv_at hl 5 rfl) ?_
  refine lv_iconst (v := (nI (3))) hx hb d_L_law_172 (by decide) ?_
  refine jv_iadd hx hb d_L_law_173 ?_
  refine ja_sld (k := i + 3) hx hb hX hbl hbA hS (by omega) (by omega) d_L_law_174 ?_
  refine lv_aload_n hx hb d_L_law_175 rfl (lv_at hl 1 rfl) ?_
  refine lv_iload hx hb d_L_law_176 (lv_at hl 5 rfl) ?_
  refine lv_iconst (v := (nI (4))) hx hb d_L_law_178 (by decide) ?_
  refine jv_iadd hx hb d_L_law_179 ?_
  refine ja_sld (k := i + 4) hx hb hX hbl hbA hS (by omega) (by omega) d_L_law_180 ?_
  refine lv_aload_n hx hb d_L_law_181 rfl (lv_at hl 1 rfl) ?_
  refine lv_iload hx hb d_L_law_182 (lv_at hl 5 rfl) ?_
  refine lv_iconst (v := (nI (5))) hx hb d_L_law_184 (by decide) ?_
  refine jv_iadd hx hb d_L_law_185 ?_
  refine ja_sld (k := i + 5) hx hb hX hbl hbA hS (by omega) (by omega) d_L_law_186 ?_
  refine lv_aload_n hx hb d_L_law_187 rfl (lv_at hl 1 rfl) ?_
  refine lv_iload hx hb d_L_law_188 (lv_at hl 5 rfl) ?_
  refine lv_bipush (v := (nI (6))) hx hb d_L_law_190 (by decide) ?_
  refine jv_iadd hx hb d_L_law_192 ?_
  refine ja_sld (k := i + 6) hx hb hX hbl hbA hS (by omega) (by omega) d_L_law_193 ?_
  obtain ⟨hPX, hPm⟩ := ap_P hP
  obtain ⟨hDX, hDm⟩ := ap_D hD
  obtain ⟨fsR, hrec⟩ := mI_recv hm
  have hFm := fr_R hD hS
  refine va_calli (va_runV (As := [.int (xs (i + 1)), .int (xs (i + 2)), .int (xs (i + 3)), .int (xs (i + 4)), .int (xs (i + 5)), .int (xs (i + 6))]) (rest := []) ⟨hx, hb, hml, hown, htB⟩ (s_M_part l g s.heap.size _ mo σ th wm hm (xs (i + 1)) (xs (i + 2)) (xs (i + 3)) (xs (i + 4)) (xs (i + 5)) (xs (i + 6)) (jI_ok hj')) (cwV 6 htB (gV kw_505 kw_506 kw_507 kw_3 g_M_part) rfl rfl rfl (by decide +kernel) ⟨Nat.le_of_ble_eq_true rfl, Nat.le_of_ble_eq_true rfl⟩) (pre_V hS hz ha (va_recv ha.1 hPm (ci := 3) (q0 := 0) rfl hrec) ⟨hPm, hDm⟩) rfl rfl hl.1 rfl (lv_room (Nat.le_of_ble_eq_true rfl)) d_L_law_194 ⟨by show cc + 4 + 0 ≤ 601024; omega, by show sc + 158 + 0 ≤ 7293033; omega⟩) hS (fun q _ h => hFm q h) hFm (fun r2 wm t H1 locs ht hvm hw hB hz1 hk1 hS => ?_)
  obtain ⟨hm, hP1, hD1⟩ := hB
  rw [ht] at hP1
  obtain ⟨hP, hD⟩ := jn2 hP hD hk1 hFm hP1 hD1
  clear hPX hPm hDX hDm hFm hk1 hz1 hvm ht hP1 hD1
  generalize H1 = H at hP hS ⊢
  refine lv_istore (lv' := [(6, .int (r2)), (5, .int (nI (s_part σ (xs (i + 1)) (xs (i + 2)) (xs (i + 3)) (xs (i + 4)) (xs (i + 5)) (xs (i + 6))).1)), (0, .ref b), (1, .ref h), (2, .ref mo), (3, .ref ou), (4, .int (nI (i)))]) hx hb d_L_law_197 hl (by decide) rfl (fun ls hl => ?_)
  refine lv_aload_n hx hb d_L_law_199 rfl (lv_at hl 4 rfl) ?_
  obtain ⟨hPX, hPm⟩ := ap_P hP
  obtain ⟨hDX, hDm⟩ := ap_D hD
  obtain ⟨fsR, hrec⟩ := mI_recv hm
  refine va_calli (va_runV (As := []) (rest := []) ⟨hx, hb, hml, hown, htB⟩ (s_M_thrown l g s.heap.size _ mo _ _ _ hm) (cwV 0 htB (gV kw_501 kw_502 kw_503 kw_3 g_M_thrown) rfl rfl rfl (by decide +kernel) ⟨Nat.le_of_ble_eq_true rfl, Nat.le_of_ble_eq_true rfl⟩) (pre_V hS hz ha (va_recv ha.1 hPm (ci := 3) (q0 := 0) rfl hrec) ⟨hPm, hDm⟩) rfl rfl hl.1 rfl (lv_room (Nat.le_of_ble_eq_true rfl)) d_L_law_200 ⟨by show cc + 4 + 0 ≤ 601024; omega, by show sc + 158 + 0 ≤ 7293033; omega⟩) hS (fun q _ h => h.elim) (fun q h => h.elim) (fun r3 u t H1 locs ht hvm hw hB hz1 hk1 hS => ?_)
  obtain rfl := hB.symm.trans ht
  subst hw
  refine lv_iload hx hb d_L_law_203 (lv_at hl 1 rfl) ?_
  refine lv_icmp_eq (tgt := 210) hx hb d_L_law_205 (by decide) (fun c_1 => ?_) (fun c_1 => absurd c_1 (fun q => q rfl))
  refine lv_iload hx hb d_L_law_210 (lv_at hl 1 rfl) ?_
  refine lv_if_ne (tgt := 227) hx hb d_L_law_212 (by decide) (fun c_2 => ?_) (fun c_2 => ?_)
  · refine lv_goto (tgt := 1116) hx hb d_L_law_227 (by decide) ?_
    exact W.widen (k := cc + 6) (n := sc + 158) (by omega) (by omega) (K _ _ _ _ _ _ _ _ ⟨hj', hm, hP, hD, hS⟩ (lv_sub hl [2, 3, 4, 5, 6] rfl))
  · refine lv_aload_n hx hb d_L_law_215 rfl (lv_at hl 5 rfl) ?_
    refine lv_iconst (v := (nI (0))) hx hb d_L_law_216 (by decide) ?_
    refine ja_lald (k := 0) hx hb ha.1 hP 0 1 rfl rfl (by decide) (by decide) d_L_law_217 ?_
    refine lv_iload hx hb d_L_law_218 (lv_at hl 0 rfl) ?_
    refine lv_i2l (v := ((r2)).toInt64) hx hb d_L_law_220 rfl ?_
    refine W.lcmp hx hb d_L_law_221 ?_
    refine lv_if_eq (tgt := 227) hx hb d_L_law_222 (by decide) (fun c_3 => ?_) (fun c_3 => absurd c_3 (fun q => q ((lg_cmp_eq _ _).mpr ((hans (code_0 hc4 c_2)).trans (hw (code_0 hc4 c_2))))))
    refine lv_goto (tgt := 1116) hx hb d_L_law_227 (by decide) ?_
    exact W.widen (k := cc + 6) (n := sc + 158) (by omega) (by omega) (K _ _ _ _ _ _ _ _ ⟨hj', hm, hP, hD, hS⟩ (lv_sub hl [2, 3, 4, 5, 6] rfl))
set_option maxHeartbeats 4000000 in
set_option maxRecDepth 100000 in
theorem lc_cut {p : Program} {l : Launch} {e : Env} {s : State} {m : MethodId} {below : List Frame} {meth : Method} {c : Code} {b L : Nat} {xs : Nat → Int32} (hlt : l.stackTraces = false) (C0 : lw_At p s m meth c b L xs) {g : gT} (ha : aM g s.heap.size s) (hnc : nC s) {h mo ou i cc sc : Nat} (hi : i + 8 ≤ L) (hL : L ≤ 4096) (hcc : cc + 6 ≤ 601024) (hsc : sc + 158 ≤ 7293033) (K : lK p l e s m below meth c b g h mo ou i (cc + 6) (sc + 158)) {σ : sT} {th : Nat} {wj wm : va_W} {fo : Nat → Int64} {H : Heap} {locs : List Loc} {ls : Array Slot} (hI : lI g s h mo ou σ th wj wm fo H locs) (hl : lv_has ls 8 [(0, .ref b), (1, .ref h), (2, .ref mo), (3, .ref ou), (4, .int (nI i))]) : W p l e room_1 s m #[Value.ref b] below meth c H locs cc sc (lw_Z below #[Value.ref b] s) (F0 m 230 ls []) := by
  obtain ⟨hx, hb, hr, hml, hown, hts, hX, hbl, hlocks, hgv⟩ := id C0
  have hbA : ¬ zA s.heap.size b := Nat.not_le.mpr hbl
  have htB : ∀ w ∈ tB, w.before #[Value.ref b] s = true := fun w h => hts w (tB_in h)
  have hz : ∀ q, zA s.heap.size q → s.heap.size ≤ q := fun _ h => h
  have hown : s.vm.findClass R_L = some m.cls := hown
  have hb : c.code = c_L_law := hb
  obtain ⟨hj, hm, hP, hD, hS⟩ := hI
  refine lv_aload_n hx hb d_L_law_230 rfl (lv_at hl 1 rfl) ?_
  refine lv_aload_n hx hb d_L_law_231 rfl (lv_at hl 0 rfl) ?_
  refine lv_iload hx hb d_L_law_232 (lv_at hl 4 rfl) ?_
  refine lv_iconst (v := (nI (1))) hx hb d_L_law_234 (by decide) ?_
  refine jv_iadd hx hb d_L_law_235 ?_
  refine ja_sld (k := i + 1) hx hb hX hbl hbA hS (by omega) (by omega) d_L_law_236 ?_
  refine lv_aload_n hx hb d_L_law_237 rfl (lv_at hl 0 rfl) ?_
  refine lv_iload hx hb d_L_law_238 (lv_at hl 4 rfl) ?_
  refine lv_iconst (v := (nI (2))) hx hb d_L_law_240 (by decide) ?_
  refine jv_iadd hx hb d_L_law_241 ?_
  refine ja_sld (k := i + 2) hx hb hX hbl hbA hS (by omega) (by omega) d_L_law_242 ?_
  refine lv_aload_n hx hb d_L_law_243 rfl (lv_at hl 0 rfl) ?_
  refine lv_iload hx hb d_L_law_244 (lv_at hl 4 rfl) ?_
  refine lv_iconst (v := (nI (3))) hx hb d_L_law_246 (by decide) ?_
  refine jv_iadd hx hb d_L_law_247 ?_
  refine ja_sld (k := i + 3) hx hb hX hbl hbA hS (by omega) (by omega) d_L_law_248 ?_
  refine lv_aload_n hx hb d_L_law_249 rfl (lv_at hl 0 rfl) ?_
  refine lv_iload hx hb d_L_law_250 (lv_at hl 4 rfl) ?_
  refine lv_iconst (v := (nI (4))) hx hb d_L_law_252 (by decide) ?_
  refine jv_iadd hx hb d_L_law_253 ?_
  refine ja_sld (k := i + 4) hx hb hX hbl hbA hS (by omega) (by omega) d_L_law_254 ?_
  refine lv_aload_n hx hb d_L_law_255 rfl (lv_at hl 0 rfl) ?_
  refine lv_iload hx hb d_L_law_256 (lv_at hl 4 rfl) ?_
  refine lv_iconst (v := (nI (5))) hx hb d_L_law_258 (by decide) ?_
  refine jv_iadd hx hb d_L_law_259 ?_
  refine ja_sld (k := i + 5) hx hb hX hbl hbA hS (by omega) (by omega) d_L_law_260 ?_
  refine lv_aload_n hx hb d_L_law_261 rfl (lv_at hl 0 rfl) ?_
  refine lv_iload hx hb d_L_law_262 (lv_at hl 4 rfl) ?_
  refine lv_bipush (v := (nI (6))) hx hb d_L_law_264 (by decide) ?_
  refine jv_iadd hx hb d_L_law_266 ?_
  refine ja_sld (k := i + 6) hx hb hX hbl hbA hS (by omega) (by omega) d_L_law_267 ?_
  refine lv_aload_n hx hb d_L_law_268 rfl (lv_at hl 0 rfl) ?_
  refine lv_iload hx hb d_L_law_269 (lv_at hl 4 rfl) ?_
  refine lv_bipush (v := (nI (7))) hx hb d_L_law_271 (by decide) ?_
  refine jv_iadd hx hb d_L_law_273 ?_
  refine ja_sld (k := i + 7) hx hb hX hbl hbA hS (by omega) (by omega) d_L_law_274 ?_
  refine lv_aload_n hx hb d_L_law_275 rfl (lv_at hl 3 rfl) ?_
  obtain ⟨hPX, hPm⟩ := ap_P hP
  obtain ⟨hDX, hDm⟩ := ap_D hD
  have hFx := fr_L hD hS
  refine vx_calli (vx_runSX (As := [.ref h, .int (xs (i + 1)), .int (xs (i + 2)), .int (xs (i + 3)), .int (xs (i + 4)), .int (xs (i + 5)), .int (xs (i + 6)), .int (xs (i + 7)), .ref ou]) (rest := []) ⟨hx, hb, hml, hown, htB⟩ (h_cut l hlt g s.heap.size _ h σ wj hj ou fo (xs (i + 1)) (xs (i + 2)) (xs (i + 3)) (xs (i + 4)) (xs (i + 5)) (xs (i + 6)) (xs (i + 7))) (vx_cwSW 9 htB (gS kw_234 kw_235 kw_0 g_L_cut) rfl rfl rfl (by decide +kernel) ⟨Nat.le_of_ble_eq_true rfl, Nat.le_of_ble_eq_true rfl⟩) (pre_SL hS hz ha hnc ⟨hPX, hDX⟩) rfl rfl hl.1 rfl (lv_room (Nat.le_of_ble_eq_true rfl)) d_L_law_276 ⟨by show cc + 3 ≤ 601024; omega, by show sc + 18 ≤ 7293033; omega⟩) hS (fun q _ h => hFx q h) hFx (fun q _ h => h.elim) (fun E ce q9 u t H1 locs ht hal hpx _ _ _ _ _ _ _ => hpx.elim) (fun rr u t H1 locs ht hvm hw hB hz1 hk1 hS => ?_)
  obtain ⟨wn, fn⟩ := u
  dsimp only at hw hB
  obtain ⟨hc4, hrr, hans, hj'⟩ := hw
  subst hrr
  obtain ⟨hP1, hD1⟩ := hB
  rw [ht] at hP1
  obtain ⟨hP, hD⟩ := jn (List.Perm.refl _) hP hD hk1 hFx hP1 hD1
  clear hPX hPm hDX hDm hFx hk1 hz1 hvm ht hP1 hD1
  generalize H1 = H at hP hS ⊢
  refine lv_istore (lv' := [(5, .int (nI (s_cut σ (xs (i + 1)) (xs (i + 2)) (xs (i + 3)) (xs (i + 4)) (xs (i + 5)) (xs (i + 6)) (xs (i + 7))).1)), (0, .ref b), (1, .ref h), (2, .ref mo), (3, .ref ou), (4, .int (nI (i)))]) hx hb d_L_law_279 hl (by decide) rfl (fun ls hl => ?_)
  refine lv_aload_n hx hb d_L_law_281 rfl (lv_at hl 3 rfl) ?_
  refine lv_aload_n hx hb d_L_law_282 rfl (lv_at hl 1 rfl) ?_
  refine lv_iload hx hb d_L_law_283 (lv_at hl 5 rfl) ?_
  refine lv_iconst (v := (nI (1))) hx hb d_L_law_285 (by decide) ?_
  refine jv_iadd hx hb d_L_law_286 ?_
  refine ja_sld (k := i + 1) hx hb hX hbl hbA hS (by omega) (by omega) d_L_law_287 ?_
  refine lv_aload_n hx hb d_L_law_288 rfl (lv_at hl 1 rfl) ?_
  refine lv_iload hx hb d_L_law_289 (lv_at hl 5 rfl) ?_
  refine lv_iconst (v := (nI (2))) hx hb d_L_law_291 (by decide) ?_
  refine jv_iadd hx hb d_L_law_292 ?_
  refine ja_sld (k := i + 2) hx hb hX hbl hbA hS (by omega) (by omega) d_L_law_293 ?_
  refine lv_aload_n hx hb d_L_law_294 rfl (lv_at hl 1 rfl) ?_
  refine lv_iload hx hb d_L_law_295 (lv_at hl 5 rfl) ?_
  refine lv_iconst (v := (nI (3))) hx hb d_L_law_297 (by decide) ?_
  refine jv_iadd hx hb d_L_law_298 ?_
  refine ja_sld (k := i + 3) hx hb hX hbl hbA hS (by omega) (by omega) d_L_law_299 ?_
  refine lv_aload_n hx hb d_L_law_300 rfl (lv_at hl 1 rfl) ?_
  refine lv_iload hx hb d_L_law_301 (lv_at hl 5 rfl) ?_
  refine lv_iconst (v := (nI (4))) hx hb d_L_law_303 (by decide) ?_
  refine jv_iadd hx hb d_L_law_304 ?_
  refine ja_sld (k := i + 4) hx hb hX hbl hbA hS (by omega) (by omega) d_L_law_305 ?_
  refine lv_aload_n hx hb d_L_law_306 rfl (lv_at hl 1 rfl) ?_
  refine lv_iload hx hb d_L_law_307 (lv_at hl 5 rfl) ?_
  refine lv_iconst (v := (nI (5))) hx hb d_L_law_309 (by decide) ?_
  refine jv_iadd hx hb d_L_law_310 ?_
  refine ja_sld (k := i + 5) hx hb hX hbl hbA hS (by omega) (by omega) d_L_law_311 ?_
  refine lv_aload_n hx hb d_L_law_312 rfl (lv_at hl 1 rfl) ?_
  refine lv_iload hx hb d_L_law_313 (lv_at hl 5 rfl) ?_
  refine lv_bipush (v := (nI (6))) hx hb d_L_law_315 (by decide) ?_
  refine jv_iadd hx hb d_L_law_317 ?_
  refine ja_sld (k := i + 6) hx hb hX hbl hbA hS (by omega) (by omega) d_L_law_318 ?_
  refine lv_aload_n hx hb d_L_law_319 rfl (lv_at hl 1 rfl) ?_
  refine lv_iload hx hb d_L_law_320 (lv_at hl 5 rfl) ?_
  refine lv_bipush (v := (nI (7))) hx hb d_L_law_322 (by decide) ?_
  refine jv_iadd hx hb d_L_law_324 ?_
  refine ja_sld (k := i + 7) hx hb hX hbl hbA hS (by omega) (by omega) d_L_law_325 ?_
  obtain ⟨hPX, hPm⟩ := ap_P hP
  obtain ⟨hDX, hDm⟩ := ap_D hD
  obtain ⟨fsR, hrec⟩ := mI_recv hm
  have hFm := fr_R hD hS
  refine va_calli (va_runV (As := [.int (xs (i + 1)), .int (xs (i + 2)), .int (xs (i + 3)), .int (xs (i + 4)), .int (xs (i + 5)), .int (xs (i + 6)), .int (xs (i + 7))]) (rest := []) ⟨hx, hb, hml, hown, htB⟩ (s_M_cut l g s.heap.size _ mo σ th wm hm (xs (i + 1)) (xs (i + 2)) (xs (i + 3)) (xs (i + 4)) (xs (i + 5)) (xs (i + 6)) (xs (i + 7)) (jI_ok hj')) (cwV 7 htB (gV kw_516 kw_517 kw_518 kw_3 g_M_cut) rfl rfl rfl (by decide +kernel) ⟨Nat.le_of_ble_eq_true rfl, Nat.le_of_ble_eq_true rfl⟩) (pre_V hS hz ha (va_recv ha.1 hPm (ci := 3) (q0 := 0) rfl hrec) ⟨hPm, hDm⟩) rfl rfl hl.1 rfl (lv_room (Nat.le_of_ble_eq_true rfl)) d_L_law_326 ⟨by show cc + 3 + 0 ≤ 601024; omega, by show sc + 18 + 0 ≤ 7293033; omega⟩) hS (fun q _ h => hFm q h) hFm (fun r2 wm t H1 locs ht hvm hw hB hz1 hk1 hS => ?_)
  obtain ⟨hm, hP1, hD1⟩ := hB
  rw [ht] at hP1
  obtain ⟨hP, hD⟩ := jn2 hP hD hk1 hFm hP1 hD1
  clear hPX hPm hDX hDm hFm hk1 hz1 hvm ht hP1 hD1
  generalize H1 = H at hP hS ⊢
  obtain ⟨hw, h01⟩ := hw
  refine lv_istore (lv' := [(6, .int (r2)), (5, .int (nI (s_cut σ (xs (i + 1)) (xs (i + 2)) (xs (i + 3)) (xs (i + 4)) (xs (i + 5)) (xs (i + 6)) (xs (i + 7))).1)), (0, .ref b), (1, .ref h), (2, .ref mo), (3, .ref ou), (4, .int (nI (i)))]) hx hb d_L_law_329 hl (by decide) rfl (fun ls hl => ?_)
  refine lv_aload_n hx hb d_L_law_331 rfl (lv_at hl 4 rfl) ?_
  obtain ⟨hPX, hPm⟩ := ap_P hP
  obtain ⟨hDX, hDm⟩ := ap_D hD
  obtain ⟨fsR, hrec⟩ := mI_recv hm
  refine va_calli (va_runV (As := []) (rest := []) ⟨hx, hb, hml, hown, htB⟩ (s_M_thrown l g s.heap.size _ mo _ _ _ hm) (cwV 0 htB (gV kw_501 kw_502 kw_503 kw_3 g_M_thrown) rfl rfl rfl (by decide +kernel) ⟨Nat.le_of_ble_eq_true rfl, Nat.le_of_ble_eq_true rfl⟩) (pre_V hS hz ha (va_recv ha.1 hPm (ci := 3) (q0 := 0) rfl hrec) ⟨hPm, hDm⟩) rfl rfl hl.1 rfl (lv_room (Nat.le_of_ble_eq_true rfl)) d_L_law_332 ⟨by show cc + 3 + 0 ≤ 601024; omega, by show sc + 18 + 0 ≤ 7293033; omega⟩) hS (fun q _ h => h.elim) (fun q h => h.elim) (fun r3 u t H1 locs ht hvm hw hB hz1 hk1 hS => ?_)
  obtain rfl := hB.symm.trans ht
  subst hw
  refine lv_iload hx hb d_L_law_335 (lv_at hl 1 rfl) ?_
  refine lv_icmp_eq (tgt := 342) hx hb d_L_law_337 (by decide) (fun c_1 => ?_) (fun c_1 => absurd c_1 (fun q => q rfl))
  refine lv_iload hx hb d_L_law_342 (lv_at hl 1 rfl) ?_
  refine lv_if_ne (tgt := 366) hx hb d_L_law_344 (by decide) (fun c_2 => ?_) (fun c_2 => ?_)
  · refine lv_goto (tgt := 1116) hx hb d_L_law_366 (by decide) ?_
    exact W.widen (k := cc + 6) (n := sc + 158) (by omega) (by omega) (K _ _ _ _ _ _ _ _ ⟨hj', hm, hP, hD, hS⟩ (lv_sub hl [2, 3, 4, 5, 6] rfl))
  · refine lv_aload_n hx hb d_L_law_347 rfl (lv_at hl 5 rfl) ?_
    refine lv_iconst (v := (nI (0))) hx hb d_L_law_348 (by decide) ?_
    refine ja_lald (k := 0) hx hb ha.1 hP 0 1 rfl rfl (by decide) (by decide) d_L_law_349 ?_
    refine lv_iload hx hb d_L_law_350 (lv_at hl 0 rfl) ?_
    refine lv_if_eq (tgt := 359) hx hb d_L_law_352 (by decide) (fun c_3 => ?_) (fun c_3 => ?_)
    · refine lv_lconst (v := 0) hx hb d_L_law_359 (by decide) ?_
      refine W.lcmp hx hb d_L_law_360 ?_
      refine lv_if_eq (tgt := 366) hx hb d_L_law_361 (by decide) (fun c_4 => ?_) (fun c_4 => absurd c_4 (fun q => q ((lg_cmp_eq _ _).mpr ((hans (code_0 hc4 c_2)).trans ((b_01 (hw (code_0 hc4 c_2)) h01).1 c_3).symm))))
      refine lv_goto (tgt := 1116) hx hb d_L_law_366 (by decide) ?_
      exact W.widen (k := cc + 6) (n := sc + 158) (by omega) (by omega) (K _ _ _ _ _ _ _ _ ⟨hj', hm, hP, hD, hS⟩ (lv_sub hl [2, 3, 4, 5, 6] rfl))
    · refine lv_lconst (v := 1) hx hb d_L_law_355 (by decide) ?_
      refine lv_goto (tgt := 360) hx hb d_L_law_356 (by decide) ?_
      refine W.lcmp hx hb d_L_law_360 ?_
      refine lv_if_eq (tgt := 366) hx hb d_L_law_361 (by decide) (fun c_5 => ?_) (fun c_5 => absurd c_5 (fun q => q ((lg_cmp_eq _ _).mpr ((hans (code_0 hc4 c_2)).trans ((b_01 (hw (code_0 hc4 c_2)) h01).2 c_3).symm))))
      refine lv_goto (tgt := 1116) hx hb d_L_law_366 (by decide) ?_
      exact W.widen (k := cc + 6) (n := sc + 158) (by omega) (by omega) (K _ _ _ _ _ _ _ _ ⟨hj', hm, hP, hD, hS⟩ (lv_sub hl [2, 3, 4, 5, 6] rfl))
set_option maxHeartbeats 4000000 in
set_option maxRecDepth 100000 in
theorem lc_clear {p : Program} {l : Launch} {e : Env} {s : State} {m : MethodId} {below : List Frame} {meth : Method} {c : Code} {b L : Nat} {xs : Nat → Int32} (hlt : l.stackTraces = false) (C0 : lw_At p s m meth c b L xs) {g : gT} (ha : aM g s.heap.size s) (hnc : nC s) {h mo ou i cc sc : Nat} (hi : i + 8 ≤ L) (hL : L ≤ 4096) (hcc : cc + 6 ≤ 601024) (hsc : sc + 158 ≤ 7293033) (K : lK p l e s m below meth c b g h mo ou i (cc + 6) (sc + 158)) {σ : sT} {th : Nat} {wj wm : va_W} {fo : Nat → Int64} {H : Heap} {locs : List Loc} {ls : Array Slot} (hI : lI g s h mo ou σ th wj wm fo H locs) (hl : lv_has ls 8 [(0, .ref b), (1, .ref h), (2, .ref mo), (3, .ref ou), (4, .int (nI i))]) : W p l e room_1 s m #[Value.ref b] below meth c H locs cc sc (lw_Z below #[Value.ref b] s) (F0 m 369 ls []) := by
  obtain ⟨hx, hb, hr, hml, hown, hts, hX, hbl, hlocks, hgv⟩ := id C0
  have hbA : ¬ zA s.heap.size b := Nat.not_le.mpr hbl
  have htB : ∀ w ∈ tB, w.before #[Value.ref b] s = true := fun w h => hts w (tB_in h)
  have hz : ∀ q, zA s.heap.size q → s.heap.size ≤ q := fun _ h => h
  have hown : s.vm.findClass R_L = some m.cls := hown
  have hb : c.code = c_L_law := hb
  obtain ⟨hj, hm, hP, hD, hS⟩ := hI
  refine lv_aload_n hx hb d_L_law_369 rfl (lv_at hl 1 rfl) ?_
  refine lv_aload_n hx hb d_L_law_370 rfl (lv_at hl 0 rfl) ?_
  refine lv_iload hx hb d_L_law_371 (lv_at hl 4 rfl) ?_
  refine lv_iconst (v := (nI (1))) hx hb d_L_law_373 (by decide) ?_
  refine jv_iadd hx hb d_L_law_374 ?_
  refine ja_sld (k := i + 1) hx hb hX hbl hbA hS (by omega) (by omega) d_L_law_375 ?_
  obtain ⟨hPX, hPm⟩ := ap_P hP
  obtain ⟨hDX, hDm⟩ := ap_D hD
  have hFx : ∀ q, va_A wj H.size q → zA s.heap.size q := fun q h9 => fr_L hD hS q (tl_A q h9)
  refine vx_calli (vx_runSX (As := [.ref h, .int (xs (i + 1))]) (rest := []) ⟨hx, hb, hml, hown, htB⟩ (h_clear l hlt g s.heap.size _ h σ wj hj (xs (i + 1))) (vx_cwSW 2 htB (gS kw_269 kw_270 kw_0 g_L_clear) rfl rfl rfl (by decide +kernel) ⟨Nat.le_of_ble_eq_true rfl, Nat.le_of_ble_eq_true rfl⟩) (pre_SL hS hz ha hnc ⟨tl_P hPX, tl_D hDX⟩) rfl rfl hl.1 rfl (lv_room (Nat.le_of_ble_eq_true rfl)) d_L_law_376 ⟨by show cc + 1 ≤ 601024; omega, by show sc + 6 ≤ 7293033; omega⟩) hS (fun q _ h => hFx q h) hFx (fun q _ h => h.elim) (fun E ce q9 u t H1 locs ht hal hpx _ _ _ _ _ _ _ => hpx.elim) (fun rr u t H1 locs ht hvm hw hB hz1 hk1 hS => ?_)
  obtain ⟨hc4, hrr, hj'⟩ := hw
  subst hrr
  obtain ⟨hP1, hD1⟩ := hB
  rw [ht] at hP1
  have wn := u
  obtain ⟨hP, hD⟩ := jn (X := wj) (Y := [(ou, eL g 1 fo)] ++ wm) (pmw _ _ _) hP hD hk1 hFx hP1 hD1
  have hP := va_P_perm hP (pmw (ou, eL g 1 fo) u wm)
  have hD := va_D_perm hD (pmw (ou, eL g 1 fo) u wm)
  clear wn
  clear hPX hPm hDX hDm hFx hk1 hz1 hvm ht hP1 hD1
  generalize H1 = H at hP hS ⊢
  refine lv_istore (lv' := [(5, .int (nI (s_clear σ (xs (i + 1))).1)), (0, .ref b), (1, .ref h), (2, .ref mo), (3, .ref ou), (4, .int (nI (i)))]) hx hb d_L_law_379 hl (by decide) rfl (fun ls hl => ?_)
  refine lv_aload_n hx hb d_L_law_381 rfl (lv_at hl 3 rfl) ?_
  refine lv_aload_n hx hb d_L_law_382 rfl (lv_at hl 1 rfl) ?_
  refine lv_iload hx hb d_L_law_383 (lv_at hl 5 rfl) ?_
  refine lv_iconst (v := (nI (1))) hx hb d_L_law_385 (by decide) ?_
  refine jv_iadd hx hb d_L_law_386 ?_
  refine ja_sld (k := i + 1) hx hb hX hbl hbA hS (by omega) (by omega) d_L_law_387 ?_
  obtain ⟨hPX, hPm⟩ := ap_P hP
  obtain ⟨hDX, hDm⟩ := ap_D hD
  obtain ⟨fsR, hrec⟩ := mI_recv hm
  have hFm := fr_R hD hS
  refine va_callv (va_runV (As := [.int (xs (i + 1))]) (rest := []) ⟨hx, hb, hml, hown, htB⟩ (s_M_clear l g s.heap.size _ mo σ th wm hm (xs (i + 1)) (jI_ok hj')) (cwV 1 htB (gV kw_550 kw_551 kw_552 kw_3 g_M_clear) rfl rfl rfl (by decide +kernel) ⟨Nat.le_of_ble_eq_true rfl, Nat.le_of_ble_eq_true rfl⟩) (pre_V hS hz ha (va_recv ha.1 hPm (ci := 3) (q0 := 0) rfl hrec) ⟨hPm, hDm⟩) rfl rfl hl.1 rfl (lv_room (Nat.le_of_ble_eq_true rfl)) d_L_law_388 ⟨by show cc + 1 + 0 ≤ 601024; omega, by show sc + 6 + 0 ≤ 7293033; omega⟩) hS (fun q _ h => hFm q h) hFm (fun wm t H1 locs ht hvm hw hB hz1 hk1 hS => ?_)
  obtain ⟨hm, hP1, hD1⟩ := hB
  rw [ht] at hP1
  obtain ⟨hP, hD⟩ := jn2 hP hD hk1 hFm hP1 hD1
  clear hPX hPm hDX hDm hFm hk1 hz1 hvm ht hP1 hD1
  generalize H1 = H at hP hS ⊢
  refine lv_aload_n hx hb d_L_law_391 rfl (lv_at hl 3 rfl) ?_
  obtain ⟨hPX, hPm⟩ := ap_P hP
  obtain ⟨hDX, hDm⟩ := ap_D hD
  obtain ⟨fsR, hrec⟩ := mI_recv hm
  refine va_calli (va_runV (As := []) (rest := []) ⟨hx, hb, hml, hown, htB⟩ (s_M_thrown l g s.heap.size _ mo _ _ _ hm) (cwV 0 htB (gV kw_501 kw_502 kw_503 kw_3 g_M_thrown) rfl rfl rfl (by decide +kernel) ⟨Nat.le_of_ble_eq_true rfl, Nat.le_of_ble_eq_true rfl⟩) (pre_V hS hz ha (va_recv ha.1 hPm (ci := 3) (q0 := 0) rfl hrec) ⟨hPm, hDm⟩) rfl rfl hl.1 rfl (lv_room (Nat.le_of_ble_eq_true rfl)) d_L_law_392 ⟨by show cc + 1 + 0 ≤ 601024; omega, by show sc + 6 + 0 ≤ 7293033; omega⟩) hS (fun q _ h => h.elim) (fun q h => h.elim) (fun r3 u t H1 locs ht hvm hw hB hz1 hk1 hS => ?_)
  obtain rfl := hB.symm.trans ht
  subst hw
  refine lv_iload hx hb d_L_law_395 (lv_at hl 0 rfl) ?_
  refine lv_icmp_eq (tgt := 402) hx hb d_L_law_397 (by decide) (fun c_1 => ?_) (fun c_1 => absurd c_1 (fun q => q rfl))
  refine lv_goto (tgt := 1116) hx hb d_L_law_402 (by decide) ?_
  exact W.widen (k := cc + 6) (n := sc + 158) (by omega) (by omega) (K _ _ _ _ _ _ _ _ ⟨hj', hm, hP, hD, hS⟩ (lv_sub hl [1, 2, 3, 4, 5] rfl))
set_option maxHeartbeats 4000000 in
set_option maxRecDepth 100000 in
theorem lc_joint {p : Program} {l : Launch} {e : Env} {s : State} {m : MethodId} {below : List Frame} {meth : Method} {c : Code} {b L : Nat} {xs : Nat → Int32} (hlt : l.stackTraces = false) (C0 : lw_At p s m meth c b L xs) {g : gT} (ha : aM g s.heap.size s) (hnc : nC s) {h mo ou i cc sc : Nat} (hi : i + 8 ≤ L) (hL : L ≤ 4096) (hcc : cc + 6 ≤ 601024) (hsc : sc + 158 ≤ 7293033) (K : lK p l e s m below meth c b g h mo ou i (cc + 6) (sc + 158)) {σ : sT} {th : Nat} {wj wm : va_W} {fo : Nat → Int64} {H : Heap} {locs : List Loc} {ls : Array Slot} (hI : lI g s h mo ou σ th wj wm fo H locs) (hl : lv_has ls 8 [(0, .ref b), (1, .ref h), (2, .ref mo), (3, .ref ou), (4, .int (nI i))]) : W p l e room_1 s m #[Value.ref b] below meth c H locs cc sc (lw_Z below #[Value.ref b] s) (F0 m 405 ls []) := by
  obtain ⟨hx, hb, hr, hml, hown, hts, hX, hbl, hlocks, hgv⟩ := id C0
  have hbA : ¬ zA s.heap.size b := Nat.not_le.mpr hbl
  have htB : ∀ w ∈ tB, w.before #[Value.ref b] s = true := fun w h => hts w (tB_in h)
  have hz : ∀ q, zA s.heap.size q → s.heap.size ≤ q := fun _ h => h
  have hown : s.vm.findClass R_L = some m.cls := hown
  have hb : c.code = c_L_law := hb
  obtain ⟨hj, hm, hP, hD, hS⟩ := hI
  refine lv_aload_n hx hb d_L_law_405 rfl (lv_at hl 1 rfl) ?_
  refine lv_aload_n hx hb d_L_law_406 rfl (lv_at hl 0 rfl) ?_
  refine lv_iload hx hb d_L_law_407 (lv_at hl 4 rfl) ?_
  refine lv_iconst (v := (nI (1))) hx hb d_L_law_409 (by decide) ?_
  refine jv_iadd hx hb d_L_law_410 ?_
  refine ja_sld (k := i + 1) hx hb hX hbl hbA hS (by omega) (by omega) d_L_law_411 ?_
  refine lv_aload_n hx hb d_L_law_412 rfl (lv_at hl 0 rfl) ?_
  refine lv_iload hx hb d_L_law_413 (lv_at hl 4 rfl) ?_
  refine lv_iconst (v := (nI (2))) hx hb d_L_law_415 (by decide) ?_
  refine jv_iadd hx hb d_L_law_416 ?_
  refine ja_sld (k := i + 2) hx hb hX hbl hbA hS (by omega) (by omega) d_L_law_417 ?_
  refine lv_aload_n hx hb d_L_law_418 rfl (lv_at hl 0 rfl) ?_
  refine lv_iload hx hb d_L_law_419 (lv_at hl 4 rfl) ?_
  refine lv_iconst (v := (nI (3))) hx hb d_L_law_421 (by decide) ?_
  refine jv_iadd hx hb d_L_law_422 ?_
  refine ja_sld (k := i + 3) hx hb hX hbl hbA hS (by omega) (by omega) d_L_law_423 ?_
  refine lv_aload_n hx hb d_L_law_424 rfl (lv_at hl 0 rfl) ?_
  refine lv_iload hx hb d_L_law_425 (lv_at hl 4 rfl) ?_
  refine lv_iconst (v := (nI (4))) hx hb d_L_law_427 (by decide) ?_
  refine jv_iadd hx hb d_L_law_428 ?_
  refine ja_sld (k := i + 4) hx hb hX hbl hbA hS (by omega) (by omega) d_L_law_429 ?_
  refine lv_aload_n hx hb d_L_law_430 rfl (lv_at hl 0 rfl) ?_
  refine lv_iload hx hb d_L_law_431 (lv_at hl 4 rfl) ?_
  refine lv_iconst (v := (nI (5))) hx hb d_L_law_433 (by decide) ?_
  refine jv_iadd hx hb d_L_law_434 ?_
  refine ja_sld (k := i + 5) hx hb hX hbl hbA hS (by omega) (by omega) d_L_law_435 ?_
  refine lv_aload_n hx hb d_L_law_436 rfl (lv_at hl 3 rfl) ?_
  obtain ⟨hPX, hPm⟩ := ap_P hP
  obtain ⟨hDX, hDm⟩ := ap_D hD
  have hFx := fr_L hD hS
  refine vx_calli (vx_runSX (As := [.ref h, .int (xs (i + 1)), .int (xs (i + 2)), .int (xs (i + 3)), .int (xs (i + 4)), .int (xs (i + 5)), .ref ou]) (rest := []) ⟨hx, hb, hml, hown, htB⟩ (h_joint l hlt g s.heap.size _ h σ wj hj ou fo (xs (i + 1)) (xs (i + 2)) (xs (i + 3)) (xs (i + 4)) (xs (i + 5))) (vx_cwSW 7 htB (gS kw_277 kw_278 kw_0 g_L_joint) rfl rfl rfl (by decide +kernel) ⟨Nat.le_of_ble_eq_true rfl, Nat.le_of_ble_eq_true rfl⟩) (pre_SL hS hz ha hnc ⟨hPX, hDX⟩) rfl rfl hl.1 rfl (lv_room (Nat.le_of_ble_eq_true rfl)) d_L_law_437 ⟨by show cc + 6 ≤ 601024; omega, by show sc + 36 ≤ 7293033; omega⟩) hS (fun q _ h => hFx q h) hFx (fun q _ h => h.elim) (fun E ce q9 u t H1 locs ht hal hpx _ _ _ _ _ _ _ => hpx.elim) (fun rr u t H1 locs ht hvm hw hB hz1 hk1 hS => ?_)
  obtain ⟨wn, fn⟩ := u
  dsimp only at hw hB
  obtain ⟨hc4, hrr, hans, hj'⟩ := hw
  subst hrr
  obtain ⟨hP1, hD1⟩ := hB
  rw [ht] at hP1
  obtain ⟨hP, hD⟩ := jn (List.Perm.refl _) hP hD hk1 hFx hP1 hD1
  clear hPX hPm hDX hDm hFx hk1 hz1 hvm ht hP1 hD1
  generalize H1 = H at hP hS ⊢
  refine lv_istore (lv' := [(5, .int (nI (s_joint σ (xs (i + 1)) (xs (i + 2)) (xs (i + 3)) (xs (i + 4)) (xs (i + 5))).1)), (0, .ref b), (1, .ref h), (2, .ref mo), (3, .ref ou), (4, .int (nI (i)))]) hx hb d_L_law_440 hl (by decide) rfl (fun ls hl => ?_)
  refine lv_aload_n hx hb d_L_law_442 rfl (lv_at hl 3 rfl) ?_
  refine lv_aload_n hx hb d_L_law_443 rfl (lv_at hl 1 rfl) ?_
  refine lv_iload hx hb d_L_law_444 (lv_at hl 5 rfl) ?_
  refine lv_iconst (v := (nI (1))) hx hb d_L_law_446 (by decide) ?_
  refine jv_iadd hx hb d_L_law_447 ?_
  refine ja_sld (k := i + 1) hx hb hX hbl hbA hS (by omega) (by omega) d_L_law_448 ?_
  refine lv_aload_n hx hb d_L_law_449 rfl (lv_at hl 1 rfl) ?_
  refine lv_iload hx hb d_L_law_450 (lv_at hl 5 rfl) ?_
  refine lv_iconst (v := (nI (2))) hx hb d_L_law_452 (by decide) ?_
  refine jv_iadd hx hb d_L_law_453 ?_
  refine ja_sld (k := i + 2) hx hb hX hbl hbA hS (by omega) (by omega) d_L_law_454 ?_
  refine lv_aload_n hx hb d_L_law_455 rfl (lv_at hl 1 rfl) ?_
  refine lv_iload hx hb d_L_law_456 (lv_at hl 5 rfl) ?_
  refine lv_iconst (v := (nI (3))) hx hb d_L_law_458 (by decide) ?_
  refine jv_iadd hx hb d_L_law_459 ?_
  refine ja_sld (k := i + 3) hx hb hX hbl hbA hS (by omega) (by omega) d_L_law_460 ?_
  refine lv_aload_n hx hb d_L_law_461 rfl (lv_at hl 1 rfl) ?_
  refine lv_iload hx hb d_L_law_462 (lv_at hl 5 rfl) ?_
  refine lv_iconst (v := (nI (4))) hx hb d_L_law_464 (by decide) ?_
  refine jv_iadd hx hb d_L_law_465 ?_
  refine ja_sld (k := i + 4) hx hb hX hbl hbA hS (by omega) (by omega) d_L_law_466 ?_
  refine lv_aload_n hx hb d_L_law_467 rfl (lv_at hl 1 rfl) ?_
  refine lv_iload hx hb d_L_law_468 (lv_at hl 5 rfl) ?_
  refine lv_iconst (v := (nI (5))) hx hb d_L_law_470 (by decide) ?_
  refine jv_iadd hx hb d_L_law_471 ?_
  refine ja_sld (k := i + 5) hx hb hX hbl hbA hS (by omega) (by omega) d_L_law_472 ?_
  obtain ⟨hPX, hPm⟩ := ap_P hP
  obtain ⟨hDX, hDm⟩ := ap_D hD
  obtain ⟨fsR, hrec⟩ := mI_recv hm
  have hFm := fr_R hD hS
  refine va_calli (va_runV (As := [.int (xs (i + 1)), .int (xs (i + 2)), .int (xs (i + 3)), .int (xs (i + 4)), .int (xs (i + 5))]) (rest := []) ⟨hx, hb, hml, hown, htB⟩ (s_M_joint l g s.heap.size _ mo σ th wm hm (xs (i + 1)) (xs (i + 2)) (xs (i + 3)) (xs (i + 4)) (xs (i + 5)) (jI_ok hj')) (cwV 5 htB (gV kw_554 kw_555 kw_556 kw_3 g_M_joint) rfl rfl rfl (by decide +kernel) ⟨Nat.le_of_ble_eq_true rfl, Nat.le_of_ble_eq_true rfl⟩) (pre_V hS hz ha (va_recv ha.1 hPm (ci := 3) (q0 := 0) rfl hrec) ⟨hPm, hDm⟩) rfl rfl hl.1 rfl (lv_room (Nat.le_of_ble_eq_true rfl)) d_L_law_473 ⟨by show cc + 6 + 0 ≤ 601024; omega, by show sc + 36 + 0 ≤ 7293033; omega⟩) hS (fun q _ h => hFm q h) hFm (fun r2 wm t H1 locs ht hvm hw hB hz1 hk1 hS => ?_)
  obtain ⟨hm, hP1, hD1⟩ := hB
  rw [ht] at hP1
  obtain ⟨hP, hD⟩ := jn2 hP hD hk1 hFm hP1 hD1
  clear hPX hPm hDX hDm hFm hk1 hz1 hvm ht hP1 hD1
  generalize H1 = H at hP hS ⊢
  refine lv_istore (lv' := [(6, .int (r2)), (5, .int (nI (s_joint σ (xs (i + 1)) (xs (i + 2)) (xs (i + 3)) (xs (i + 4)) (xs (i + 5))).1)), (0, .ref b), (1, .ref h), (2, .ref mo), (3, .ref ou), (4, .int (nI (i)))]) hx hb d_L_law_476 hl (by decide) rfl (fun ls hl => ?_)
  refine lv_aload_n hx hb d_L_law_478 rfl (lv_at hl 4 rfl) ?_
  obtain ⟨hPX, hPm⟩ := ap_P hP
  obtain ⟨hDX, hDm⟩ := ap_D hD
  obtain ⟨fsR, hrec⟩ := mI_recv hm
  refine va_calli (va_runV (As := []) (rest := []) ⟨hx, hb, hml, hown, htB⟩ (s_M_thrown l g s.heap.size _ mo _ _ _ hm) (cwV 0 htB (gV kw_501 kw_502 kw_503 kw_3 g_M_thrown) rfl rfl rfl (by decide +kernel) ⟨Nat.le_of_ble_eq_true rfl, Nat.le_of_ble_eq_true rfl⟩) (pre_V hS hz ha (va_recv ha.1 hPm (ci := 3) (q0 := 0) rfl hrec) ⟨hPm, hDm⟩) rfl rfl hl.1 rfl (lv_room (Nat.le_of_ble_eq_true rfl)) d_L_law_479 ⟨by show cc + 6 + 0 ≤ 601024; omega, by show sc + 36 + 0 ≤ 7293033; omega⟩) hS (fun q _ h => h.elim) (fun q h => h.elim) (fun r3 u t H1 locs ht hvm hw hB hz1 hk1 hS => ?_)
  obtain rfl := hB.symm.trans ht
  subst hw
  refine lv_iload hx hb d_L_law_482 (lv_at hl 1 rfl) ?_
  refine lv_icmp_eq (tgt := 489) hx hb d_L_law_484 (by decide) (fun c_1 => ?_) (fun c_1 => absurd c_1 (fun q => q rfl))
  refine lv_iload hx hb d_L_law_489 (lv_at hl 1 rfl) ?_
  refine lv_if_ne (tgt := 506) hx hb d_L_law_491 (by decide) (fun c_2 => ?_) (fun c_2 => ?_)
  · refine lv_goto (tgt := 1116) hx hb d_L_law_506 (by decide) ?_
    exact W.widen (k := cc + 6) (n := sc + 158) (by omega) (by omega) (K _ _ _ _ _ _ _ _ ⟨hj', hm, hP, hD, hS⟩ (lv_sub hl [2, 3, 4, 5, 6] rfl))
  · refine lv_aload_n hx hb d_L_law_494 rfl (lv_at hl 5 rfl) ?_
    refine lv_iconst (v := (nI (0))) hx hb d_L_law_495 (by decide) ?_
    refine ja_lald (k := 0) hx hb ha.1 hP 0 1 rfl rfl (by decide) (by decide) d_L_law_496 ?_
    refine lv_iload hx hb d_L_law_497 (lv_at hl 0 rfl) ?_
    refine lv_i2l (v := ((r2)).toInt64) hx hb d_L_law_499 rfl ?_
    refine W.lcmp hx hb d_L_law_500 ?_
    refine lv_if_eq (tgt := 506) hx hb d_L_law_501 (by decide) (fun c_3 => ?_) (fun c_3 => absurd c_3 (fun q => q ((lg_cmp_eq _ _).mpr ((hans (code_0 hc4 c_2)).trans (hw (code_0 hc4 c_2))))))
    refine lv_goto (tgt := 1116) hx hb d_L_law_506 (by decide) ?_
    exact W.widen (k := cc + 6) (n := sc + 158) (by omega) (by omega) (K _ _ _ _ _ _ _ _ ⟨hj', hm, hP, hD, hS⟩ (lv_sub hl [2, 3, 4, 5, 6] rfl))
set_option maxHeartbeats 4000000 in
set_option maxRecDepth 100000 in
theorem lc_pieces {p : Program} {l : Launch} {e : Env} {s : State} {m : MethodId} {below : List Frame} {meth : Method} {c : Code} {b L : Nat} {xs : Nat → Int32} (hlt : l.stackTraces = false) (C0 : lw_At p s m meth c b L xs) {g : gT} (ha : aM g s.heap.size s) (hnc : nC s) {h mo ou i cc sc : Nat} (hi : i + 8 ≤ L) (hL : L ≤ 4096) (hcc : cc + 6 ≤ 601024) (hsc : sc + 158 ≤ 7293033) (K : lK p l e s m below meth c b g h mo ou i (cc + 6) (sc + 158)) {σ : sT} {th : Nat} {wj wm : va_W} {fo : Nat → Int64} {H : Heap} {locs : List Loc} {ls : Array Slot} (hI : lI g s h mo ou σ th wj wm fo H locs) (hl : lv_has ls 8 [(0, .ref b), (1, .ref h), (2, .ref mo), (3, .ref ou), (4, .int (nI i))]) : W p l e room_1 s m #[Value.ref b] below meth c H locs cc sc (lw_Z below #[Value.ref b] s) (F0 m 509 ls []) := by
  obtain ⟨hx, hb, hr, hml, hown, hts, hX, hbl, hlocks, hgv⟩ := id C0
  have hbA : ¬ zA s.heap.size b := Nat.not_le.mpr hbl
  have htB : ∀ w ∈ tB, w.before #[Value.ref b] s = true := fun w h => hts w (tB_in h)
  have hz : ∀ q, zA s.heap.size q → s.heap.size ≤ q := fun _ h => h
  have hown : s.vm.findClass R_L = some m.cls := hown
  have hb : c.code = c_L_law := hb
  obtain ⟨hj, hm, hP, hD, hS⟩ := hI
  refine lv_aload_n hx hb d_L_law_509 rfl (lv_at hl 1 rfl) ?_
  refine lv_aload_n hx hb d_L_law_510 rfl (lv_at hl 0 rfl) ?_
  refine lv_iload hx hb d_L_law_511 (lv_at hl 4 rfl) ?_
  refine lv_iconst (v := (nI (1))) hx hb d_L_law_513 (by decide) ?_
  refine jv_iadd hx hb d_L_law_514 ?_
  refine ja_sld (k := i + 1) hx hb hX hbl hbA hS (by omega) (by omega) d_L_law_515 ?_
  refine lv_aload_n hx hb d_L_law_516 rfl (lv_at hl 3 rfl) ?_
  obtain ⟨hPX, hPm⟩ := ap_P hP
  obtain ⟨hDX, hDm⟩ := ap_D hD
  have hFx := fr_L hD hS
  refine vx_calli (vx_runSX (As := [.ref h, .int (xs (i + 1)), .ref ou]) (rest := []) ⟨hx, hb, hml, hown, htB⟩ (h_pieces l hlt g s.heap.size _ h σ wj hj ou fo (xs (i + 1))) (vx_cwSW 3 htB (gS kw_353 kw_354 kw_0 g_L_pieces) rfl rfl rfl (by decide +kernel) ⟨Nat.le_of_ble_eq_true rfl, Nat.le_of_ble_eq_true rfl⟩) (pre_SL hS hz ha hnc ⟨hPX, hDX⟩) rfl rfl hl.1 rfl (lv_room (Nat.le_of_ble_eq_true rfl)) d_L_law_517 ⟨by show cc + 1 ≤ 601024; omega, by show sc + 6 ≤ 7293033; omega⟩) hS (fun q _ h => hFx q h) hFx (fun q _ h => h.elim) (fun E ce q9 u t H1 locs ht hal hpx _ _ _ _ _ _ _ => hpx.elim) (fun rr u t H1 locs ht hvm hw hB hz1 hk1 hS => ?_)
  obtain ⟨wn, fn⟩ := u
  dsimp only at hw hB
  obtain ⟨hc4, hrr, hans, hj'⟩ := hw
  subst hrr
  obtain ⟨hP1, hD1⟩ := hB
  rw [ht] at hP1
  obtain ⟨hP, hD⟩ := jn (List.Perm.refl _) hP hD hk1 hFx hP1 hD1
  clear hPX hPm hDX hDm hFx hk1 hz1 hvm ht hP1 hD1
  generalize H1 = H at hP hS ⊢
  refine lv_istore (lv' := [(5, .int (nI (s_pieces σ (xs (i + 1))).1)), (0, .ref b), (1, .ref h), (2, .ref mo), (3, .ref ou), (4, .int (nI (i)))]) hx hb d_L_law_520 hl (by decide) rfl (fun ls hl => ?_)
  refine lv_aload_n hx hb d_L_law_522 rfl (lv_at hl 3 rfl) ?_
  refine lv_aload_n hx hb d_L_law_523 rfl (lv_at hl 1 rfl) ?_
  refine lv_iload hx hb d_L_law_524 (lv_at hl 5 rfl) ?_
  refine lv_iconst (v := (nI (1))) hx hb d_L_law_526 (by decide) ?_
  refine jv_iadd hx hb d_L_law_527 ?_
  refine ja_sld (k := i + 1) hx hb hX hbl hbA hS (by omega) (by omega) d_L_law_528 ?_
  obtain ⟨hPX, hPm⟩ := ap_P hP
  obtain ⟨hDX, hDm⟩ := ap_D hD
  obtain ⟨fsR, hrec⟩ := mI_recv hm
  have hFm := fr_R hD hS
  refine va_calli (va_runV (As := [.int (xs (i + 1))]) (rest := []) ⟨hx, hb, hml, hown, htB⟩ (s_M_pieces l g s.heap.size _ mo σ th wm hm (xs (i + 1))) (cwV 1 htB (gV kw_577 kw_578 kw_579 kw_3 g_M_pieces) rfl rfl rfl (by decide +kernel) ⟨Nat.le_of_ble_eq_true rfl, Nat.le_of_ble_eq_true rfl⟩) (pre_V hS hz ha (va_recv ha.1 hPm (ci := 3) (q0 := 0) rfl hrec) ⟨hPm, hDm⟩) rfl rfl hl.1 rfl (lv_room (Nat.le_of_ble_eq_true rfl)) d_L_law_529 ⟨by show cc + 1 + 0 ≤ 601024; omega, by show sc + 6 + 0 ≤ 7293033; omega⟩) hS (fun q _ h => hFm q h) hFm (fun r2 wm t H1 locs ht hvm hw hB hz1 hk1 hS => ?_)
  obtain ⟨hm, hP1, hD1⟩ := hB
  rw [ht] at hP1
  obtain ⟨hP, hD⟩ := jn2 hP hD hk1 hFm hP1 hD1
  clear hPX hPm hDX hDm hFm hk1 hz1 hvm ht hP1 hD1
  generalize H1 = H at hP hS ⊢
  refine lv_istore (lv' := [(6, .int (r2)), (5, .int (nI (s_pieces σ (xs (i + 1))).1)), (0, .ref b), (1, .ref h), (2, .ref mo), (3, .ref ou), (4, .int (nI (i)))]) hx hb d_L_law_532 hl (by decide) rfl (fun ls hl => ?_)
  refine lv_aload_n hx hb d_L_law_534 rfl (lv_at hl 4 rfl) ?_
  obtain ⟨hPX, hPm⟩ := ap_P hP
  obtain ⟨hDX, hDm⟩ := ap_D hD
  obtain ⟨fsR, hrec⟩ := mI_recv hm
  refine va_calli (va_runV (As := []) (rest := []) ⟨hx, hb, hml, hown, htB⟩ (s_M_thrown l g s.heap.size _ mo _ _ _ hm) (cwV 0 htB (gV kw_501 kw_502 kw_503 kw_3 g_M_thrown) rfl rfl rfl (by decide +kernel) ⟨Nat.le_of_ble_eq_true rfl, Nat.le_of_ble_eq_true rfl⟩) (pre_V hS hz ha (va_recv ha.1 hPm (ci := 3) (q0 := 0) rfl hrec) ⟨hPm, hDm⟩) rfl rfl hl.1 rfl (lv_room (Nat.le_of_ble_eq_true rfl)) d_L_law_535 ⟨by show cc + 1 + 0 ≤ 601024; omega, by show sc + 6 + 0 ≤ 7293033; omega⟩) hS (fun q _ h => h.elim) (fun q h => h.elim) (fun r3 u t H1 locs ht hvm hw hB hz1 hk1 hS => ?_)
  obtain rfl := hB.symm.trans ht
  subst hw
  refine lv_iload hx hb d_L_law_538 (lv_at hl 1 rfl) ?_
  refine lv_icmp_eq (tgt := 545) hx hb d_L_law_540 (by decide) (fun c_1 => ?_) (fun c_1 => absurd c_1 (fun q => q rfl))
  refine lv_iload hx hb d_L_law_545 (lv_at hl 1 rfl) ?_
  refine lv_if_ne (tgt := 562) hx hb d_L_law_547 (by decide) (fun c_2 => ?_) (fun c_2 => ?_)
  · refine lv_goto (tgt := 1116) hx hb d_L_law_562 (by decide) ?_
    exact W.widen (k := cc + 6) (n := sc + 158) (by omega) (by omega) (K _ _ _ _ _ _ _ _ ⟨hj', hm, hP, hD, hS⟩ (lv_sub hl [2, 3, 4, 5, 6] rfl))
  · refine lv_aload_n hx hb d_L_law_550 rfl (lv_at hl 5 rfl) ?_
    refine lv_iconst (v := (nI (0))) hx hb d_L_law_551 (by decide) ?_
    refine ja_lald (k := 0) hx hb ha.1 hP 0 1 rfl rfl (by decide) (by decide) d_L_law_552 ?_
    refine lv_iload hx hb d_L_law_553 (lv_at hl 0 rfl) ?_
    refine lv_i2l (v := ((r2)).toInt64) hx hb d_L_law_555 rfl ?_
    refine W.lcmp hx hb d_L_law_556 ?_
    refine lv_if_eq (tgt := 562) hx hb d_L_law_557 (by decide) (fun c_3 => ?_) (fun c_3 => absurd c_3 (fun q => q ((lg_cmp_eq _ _).mpr ((hans (code_0 hc4 c_2)).trans (hw (code_0 hc4 c_2))))))
    refine lv_goto (tgt := 1116) hx hb d_L_law_562 (by decide) ?_
    exact W.widen (k := cc + 6) (n := sc + 158) (by omega) (by omega) (K _ _ _ _ _ _ _ _ ⟨hj', hm, hP, hD, hS⟩ (lv_sub hl [2, 3, 4, 5, 6] rfl))
set_option maxHeartbeats 4000000 in
set_option maxRecDepth 100000 in
theorem lc_corner {p : Program} {l : Launch} {e : Env} {s : State} {m : MethodId} {below : List Frame} {meth : Method} {c : Code} {b L : Nat} {xs : Nat → Int32} (hlt : l.stackTraces = false) (C0 : lw_At p s m meth c b L xs) {g : gT} (ha : aM g s.heap.size s) (hnc : nC s) {h mo ou i cc sc : Nat} (hi : i + 8 ≤ L) (hL : L ≤ 4096) (hcc : cc + 6 ≤ 601024) (hsc : sc + 158 ≤ 7293033) (K : lK p l e s m below meth c b g h mo ou i (cc + 6) (sc + 158)) {σ : sT} {th : Nat} {wj wm : va_W} {fo : Nat → Int64} {H : Heap} {locs : List Loc} {ls : Array Slot} (hI : lI g s h mo ou σ th wj wm fo H locs) (hl : lv_has ls 8 [(0, .ref b), (1, .ref h), (2, .ref mo), (3, .ref ou), (4, .int (nI i))]) : W p l e room_1 s m #[Value.ref b] below meth c H locs cc sc (lw_Z below #[Value.ref b] s) (F0 m 565 ls []) := by
  obtain ⟨hx, hb, hr, hml, hown, hts, hX, hbl, hlocks, hgv⟩ := id C0
  have hbA : ¬ zA s.heap.size b := Nat.not_le.mpr hbl
  have htB : ∀ w ∈ tB, w.before #[Value.ref b] s = true := fun w h => hts w (tB_in h)
  have hz : ∀ q, zA s.heap.size q → s.heap.size ≤ q := fun _ h => h
  have hown : s.vm.findClass R_L = some m.cls := hown
  have hb : c.code = c_L_law := hb
  obtain ⟨hj, hm, hP, hD, hS⟩ := hI
  refine lv_aload_n hx hb d_L_law_565 rfl (lv_at hl 1 rfl) ?_
  refine lv_aload_n hx hb d_L_law_566 rfl (lv_at hl 0 rfl) ?_
  refine lv_iload hx hb d_L_law_567 (lv_at hl 4 rfl) ?_
  refine lv_iconst (v := (nI (1))) hx hb d_L_law_569 (by decide) ?_
  refine jv_iadd hx hb d_L_law_570 ?_
  refine ja_sld (k := i + 1) hx hb hX hbl hbA hS (by omega) (by omega) d_L_law_571 ?_
  refine lv_aload_n hx hb d_L_law_572 rfl (lv_at hl 0 rfl) ?_
  refine lv_iload hx hb d_L_law_573 (lv_at hl 4 rfl) ?_
  refine lv_iconst (v := (nI (2))) hx hb d_L_law_575 (by decide) ?_
  refine jv_iadd hx hb d_L_law_576 ?_
  refine ja_sld (k := i + 2) hx hb hX hbl hbA hS (by omega) (by omega) d_L_law_577 ?_
  refine lv_aload_n hx hb d_L_law_578 rfl (lv_at hl 0 rfl) ?_
  refine lv_iload hx hb d_L_law_579 (lv_at hl 4 rfl) ?_
  refine lv_iconst (v := (nI (3))) hx hb d_L_law_581 (by decide) ?_
  refine jv_iadd hx hb d_L_law_582 ?_
  refine ja_sld (k := i + 3) hx hb hX hbl hbA hS (by omega) (by omega) d_L_law_583 ?_
  refine lv_aload_n hx hb d_L_law_584 rfl (lv_at hl 3 rfl) ?_
  obtain ⟨hPX, hPm⟩ := ap_P hP
  obtain ⟨hDX, hDm⟩ := ap_D hD
  have hFx := fr_L hD hS
  refine vx_calli (vx_runSX (As := [.ref h, .int (xs (i + 1)), .int (xs (i + 2)), .int (xs (i + 3)), .ref ou]) (rest := []) ⟨hx, hb, hml, hown, htB⟩ (h_corner l hlt g s.heap.size _ h σ wj hj ou fo (xs (i + 1)) (xs (i + 2)) (xs (i + 3))) (vx_cwSW 5 htB (gS kw_360 kw_361 kw_0 g_L_corner) rfl rfl rfl (by decide +kernel) ⟨Nat.le_of_ble_eq_true rfl, Nat.le_of_ble_eq_true rfl⟩) (pre_SL hS hz ha hnc ⟨hPX, hDX⟩) rfl rfl hl.1 rfl (lv_room (Nat.le_of_ble_eq_true rfl)) d_L_law_585 ⟨by show cc + 2 ≤ 601024; omega, by show sc + 12 ≤ 7293033; omega⟩) hS (fun q _ h => hFx q h) hFx (fun q _ h => h.elim) (fun E ce q9 u t H1 locs ht hal hpx _ _ _ _ _ _ _ => hpx.elim) (fun rr u t H1 locs ht hvm hw hB hz1 hk1 hS => ?_)
  obtain ⟨wn, fn⟩ := u
  dsimp only at hw hB
  obtain ⟨hc4, hrr, hans, hj'⟩ := hw
  subst hrr
  obtain ⟨hP1, hD1⟩ := hB
  rw [ht] at hP1
  obtain ⟨hP, hD⟩ := jn (List.Perm.refl _) hP hD hk1 hFx hP1 hD1
  clear hPX hPm hDX hDm hFx hk1 hz1 hvm ht hP1 hD1
  generalize H1 = H at hP hS ⊢
  refine lv_istore (lv' := [(5, .int (nI (s_corner σ (xs (i + 1)) (xs (i + 2)) (xs (i + 3))).1)), (0, .ref b), (1, .ref h), (2, .ref mo), (3, .ref ou), (4, .int (nI (i)))]) hx hb d_L_law_588 hl (by decide) rfl (fun ls hl => ?_)
  refine lv_aload_n hx hb d_L_law_590 rfl (lv_at hl 3 rfl) ?_
  refine lv_aload_n hx hb d_L_law_591 rfl (lv_at hl 1 rfl) ?_
  refine lv_iload hx hb d_L_law_592 (lv_at hl 5 rfl) ?_
  refine lv_iconst (v := (nI (1))) hx hb d_L_law_594 (by decide) ?_
  refine jv_iadd hx hb d_L_law_595 ?_
  refine ja_sld (k := i + 1) hx hb hX hbl hbA hS (by omega) (by omega) d_L_law_596 ?_
  refine lv_aload_n hx hb d_L_law_597 rfl (lv_at hl 1 rfl) ?_
  refine lv_iload hx hb d_L_law_598 (lv_at hl 5 rfl) ?_
  refine lv_iconst (v := (nI (2))) hx hb d_L_law_600 (by decide) ?_
  refine jv_iadd hx hb d_L_law_601 ?_
  refine ja_sld (k := i + 2) hx hb hX hbl hbA hS (by omega) (by omega) d_L_law_602 ?_
  refine lv_aload_n hx hb d_L_law_603 rfl (lv_at hl 1 rfl) ?_
  refine lv_iload hx hb d_L_law_604 (lv_at hl 5 rfl) ?_
  refine lv_iconst (v := (nI (3))) hx hb d_L_law_606 (by decide) ?_
  refine jv_iadd hx hb d_L_law_607 ?_
  refine ja_sld (k := i + 3) hx hb hX hbl hbA hS (by omega) (by omega) d_L_law_608 ?_
  obtain ⟨hPX, hPm⟩ := ap_P hP
  obtain ⟨hDX, hDm⟩ := ap_D hD
  obtain ⟨fsR, hrec⟩ := mI_recv hm
  have hFm := fr_R hD hS
  refine va_calli (va_runV (As := [.int (xs (i + 1)), .int (xs (i + 2)), .int (xs (i + 3))]) (rest := []) ⟨hx, hb, hml, hown, htB⟩ (s_M_corner l g s.heap.size _ mo σ th wm hm (xs (i + 1)) (xs (i + 2)) (xs (i + 3))) (cwV 3 htB (gV kw_581 kw_582 kw_583 kw_3 g_M_corner) rfl rfl rfl (by decide +kernel) ⟨Nat.le_of_ble_eq_true rfl, Nat.le_of_ble_eq_true rfl⟩) (pre_V hS hz ha (va_recv ha.1 hPm (ci := 3) (q0 := 0) rfl hrec) ⟨hPm, hDm⟩) rfl rfl hl.1 rfl (lv_room (Nat.le_of_ble_eq_true rfl)) d_L_law_609 ⟨by show cc + 2 + 0 ≤ 601024; omega, by show sc + 12 + 0 ≤ 7293033; omega⟩) hS (fun q _ h => hFm q h) hFm (fun r2 wm t H1 locs ht hvm hw hB hz1 hk1 hS => ?_)
  obtain ⟨hm, hP1, hD1⟩ := hB
  rw [ht] at hP1
  obtain ⟨hP, hD⟩ := jn2 hP hD hk1 hFm hP1 hD1
  clear hPX hPm hDX hDm hFm hk1 hz1 hvm ht hP1 hD1
  generalize H1 = H at hP hS ⊢
  refine lv_istore (lv' := [(6, .int (r2)), (5, .int (nI (s_corner σ (xs (i + 1)) (xs (i + 2)) (xs (i + 3))).1)), (0, .ref b), (1, .ref h), (2, .ref mo), (3, .ref ou), (4, .int (nI (i)))]) hx hb d_L_law_612 hl (by decide) rfl (fun ls hl => ?_)
  refine lv_aload_n hx hb d_L_law_614 rfl (lv_at hl 4 rfl) ?_
  obtain ⟨hPX, hPm⟩ := ap_P hP
  obtain ⟨hDX, hDm⟩ := ap_D hD
  obtain ⟨fsR, hrec⟩ := mI_recv hm
  refine va_calli (va_runV (As := []) (rest := []) ⟨hx, hb, hml, hown, htB⟩ (s_M_thrown l g s.heap.size _ mo _ _ _ hm) (cwV 0 htB (gV kw_501 kw_502 kw_503 kw_3 g_M_thrown) rfl rfl rfl (by decide +kernel) ⟨Nat.le_of_ble_eq_true rfl, Nat.le_of_ble_eq_true rfl⟩) (pre_V hS hz ha (va_recv ha.1 hPm (ci := 3) (q0 := 0) rfl hrec) ⟨hPm, hDm⟩) rfl rfl hl.1 rfl (lv_room (Nat.le_of_ble_eq_true rfl)) d_L_law_615 ⟨by show cc + 2 + 0 ≤ 601024; omega, by show sc + 12 + 0 ≤ 7293033; omega⟩) hS (fun q _ h => h.elim) (fun q h => h.elim) (fun r3 u t H1 locs ht hvm hw hB hz1 hk1 hS => ?_)
  obtain rfl := hB.symm.trans ht
  subst hw
  refine lv_iload hx hb d_L_law_618 (lv_at hl 1 rfl) ?_
  refine lv_icmp_eq (tgt := 625) hx hb d_L_law_620 (by decide) (fun c_1 => ?_) (fun c_1 => absurd c_1 (fun q => q rfl))
  refine lv_iload hx hb d_L_law_625 (lv_at hl 1 rfl) ?_
  refine lv_if_ne (tgt := 642) hx hb d_L_law_627 (by decide) (fun c_2 => ?_) (fun c_2 => ?_)
  · refine lv_goto (tgt := 1116) hx hb d_L_law_642 (by decide) ?_
    exact W.widen (k := cc + 6) (n := sc + 158) (by omega) (by omega) (K _ _ _ _ _ _ _ _ ⟨hj', hm, hP, hD, hS⟩ (lv_sub hl [2, 3, 4, 5, 6] rfl))
  · refine lv_aload_n hx hb d_L_law_630 rfl (lv_at hl 5 rfl) ?_
    refine lv_iconst (v := (nI (0))) hx hb d_L_law_631 (by decide) ?_
    refine ja_lald (k := 0) hx hb ha.1 hP 0 1 rfl rfl (by decide) (by decide) d_L_law_632 ?_
    refine lv_iload hx hb d_L_law_633 (lv_at hl 0 rfl) ?_
    refine lv_i2l (v := ((r2)).toInt64) hx hb d_L_law_635 rfl ?_
    refine W.lcmp hx hb d_L_law_636 ?_
    refine lv_if_eq (tgt := 642) hx hb d_L_law_637 (by decide) (fun c_3 => ?_) (fun c_3 => absurd c_3 (fun q => q ((lg_cmp_eq _ _).mpr ((hans (code_0 hc4 c_2)).trans (hw (code_0 hc4 c_2))))))
    refine lv_goto (tgt := 1116) hx hb d_L_law_642 (by decide) ?_
    exact W.widen (k := cc + 6) (n := sc + 158) (by omega) (by omega) (K _ _ _ _ _ _ _ _ ⟨hj', hm, hP, hD, hS⟩ (lv_sub hl [2, 3, 4, 5, 6] rfl))
set_option maxHeartbeats 4000000 in
set_option maxRecDepth 100000 in
theorem lc_volume {p : Program} {l : Launch} {e : Env} {s : State} {m : MethodId} {below : List Frame} {meth : Method} {c : Code} {b L : Nat} {xs : Nat → Int32} (hlt : l.stackTraces = false) (C0 : lw_At p s m meth c b L xs) {g : gT} (ha : aM g s.heap.size s) (hnc : nC s) {h mo ou i cc sc : Nat} (hi : i + 8 ≤ L) (hL : L ≤ 4096) (hcc : cc + 6 ≤ 601024) (hsc : sc + 158 ≤ 7293033) (K : lK p l e s m below meth c b g h mo ou i (cc + 6) (sc + 158)) {σ : sT} {th : Nat} {wj wm : va_W} {fo : Nat → Int64} {H : Heap} {locs : List Loc} {ls : Array Slot} (hI : lI g s h mo ou σ th wj wm fo H locs) (hl : lv_has ls 8 [(0, .ref b), (1, .ref h), (2, .ref mo), (3, .ref ou), (4, .int (nI i))]) : W p l e room_1 s m #[Value.ref b] below meth c H locs cc sc (lw_Z below #[Value.ref b] s) (F0 m 645 ls []) := by
  obtain ⟨hx, hb, hr, hml, hown, hts, hX, hbl, hlocks, hgv⟩ := id C0
  have hbA : ¬ zA s.heap.size b := Nat.not_le.mpr hbl
  have htB : ∀ w ∈ tB, w.before #[Value.ref b] s = true := fun w h => hts w (tB_in h)
  have hz : ∀ q, zA s.heap.size q → s.heap.size ≤ q := fun _ h => h
  have hown : s.vm.findClass R_L = some m.cls := hown
  have hb : c.code = c_L_law := hb
  obtain ⟨hj, hm, hP, hD, hS⟩ := hI
  refine lv_aload_n hx hb d_L_law_645 rfl (lv_at hl 1 rfl) ?_
  refine lv_aload_n hx hb d_L_law_646 rfl (lv_at hl 0 rfl) ?_
  refine lv_iload hx hb d_L_law_647 (lv_at hl 4 rfl) ?_
  refine lv_iconst (v := (nI (1))) hx hb d_L_law_649 (by decide) ?_
  refine jv_iadd hx hb d_L_law_650 ?_
  refine ja_sld (k := i + 1) hx hb hX hbl hbA hS (by omega) (by omega) d_L_law_651 ?_
  refine lv_aload_n hx hb d_L_law_652 rfl (lv_at hl 3 rfl) ?_
  obtain ⟨hPX, hPm⟩ := ap_P hP
  obtain ⟨hDX, hDm⟩ := ap_D hD
  have hFx := fr_L hD hS
  refine vx_calli (vx_runSX (As := [.ref h, .int (xs (i + 1)), .ref ou]) (rest := []) ⟨hx, hb, hml, hown, htB⟩ (h_volume l hlt g s.heap.size _ h σ wj hj ou fo (xs (i + 1))) (vx_cwSW 3 htB (gS kw_369 kw_370 kw_0 g_L_volume) rfl rfl rfl (by decide +kernel) ⟨Nat.le_of_ble_eq_true rfl, Nat.le_of_ble_eq_true rfl⟩) (pre_SL hS hz ha hnc ⟨hPX, hDX⟩) rfl rfl hl.1 rfl (lv_room (Nat.le_of_ble_eq_true rfl)) d_L_law_653 ⟨by show cc + 1 ≤ 601024; omega, by show sc + 6 ≤ 7293033; omega⟩) hS (fun q _ h => hFx q h) hFx (fun q _ h => h.elim) (fun E ce q9 u t H1 locs ht hal hpx _ _ _ _ _ _ _ => hpx.elim) (fun rr u t H1 locs ht hvm hw hB hz1 hk1 hS => ?_)
  obtain ⟨wn, fn⟩ := u
  dsimp only at hw hB
  obtain ⟨hc4, hrr, hans, hj'⟩ := hw
  subst hrr
  obtain ⟨hP1, hD1⟩ := hB
  rw [ht] at hP1
  obtain ⟨hP, hD⟩ := jn (List.Perm.refl _) hP hD hk1 hFx hP1 hD1
  clear hPX hPm hDX hDm hFx hk1 hz1 hvm ht hP1 hD1
  generalize H1 = H at hP hS ⊢
  refine lv_istore (lv' := [(5, .int (nI (s_volume σ (xs (i + 1))).1)), (0, .ref b), (1, .ref h), (2, .ref mo), (3, .ref ou), (4, .int (nI (i)))]) hx hb d_L_law_656 hl (by decide) rfl (fun ls hl => ?_)
  refine lv_aload_n hx hb d_L_law_658 rfl (lv_at hl 3 rfl) ?_
  refine lv_aload_n hx hb d_L_law_659 rfl (lv_at hl 1 rfl) ?_
  refine lv_iload hx hb d_L_law_660 (lv_at hl 5 rfl) ?_
  refine lv_iconst (v := (nI (1))) hx hb d_L_law_662 (by decide) ?_
  refine jv_iadd hx hb d_L_law_663 ?_
  refine ja_sld (k := i + 1) hx hb hX hbl hbA hS (by omega) (by omega) d_L_law_664 ?_
  obtain ⟨hPX, hPm⟩ := ap_P hP
  obtain ⟨hDX, hDm⟩ := ap_D hD
  obtain ⟨fsR, hrec⟩ := mI_recv hm
  have hFm := fr_R hD hS
  refine va_calll (va_runV (As := [.int (xs (i + 1))]) (rest := []) ⟨hx, hb, hml, hown, htB⟩ (s_M_volume l g s.heap.size _ mo σ th wm hm (xs (i + 1))) (cwV 1 htB (gV kw_585 kw_586 kw_587 kw_3 g_M_volume) rfl rfl rfl (by decide +kernel) ⟨Nat.le_of_ble_eq_true rfl, Nat.le_of_ble_eq_true rfl⟩) (pre_V hS hz ha (va_recv ha.1 hPm (ci := 3) (q0 := 0) rfl hrec) ⟨hPm, hDm⟩) rfl rfl hl.1 rfl (lv_room (Nat.le_of_ble_eq_true rfl)) d_L_law_665 ⟨by show cc + 1 + 0 ≤ 601024; omega, by show sc + 6 + 0 ≤ 7293033; omega⟩) hS (fun q _ h => hFm q h) hFm (fun r2 wm t H1 locs ht hvm hw hB hz1 hk1 hS => ?_)
  obtain ⟨hm, hP1, hD1⟩ := hB
  rw [ht] at hP1
  obtain ⟨hP, hD⟩ := jn2 hP hD hk1 hFm hP1 hD1
  clear hPX hPm hDX hDm hFm hk1 hz1 hvm ht hP1 hD1
  generalize H1 = H at hP hS ⊢
  refine lv_lstore (lv' := [(6, .long (r2)), (5, .int (nI (s_volume σ (xs (i + 1))).1)), (0, .ref b), (1, .ref h), (2, .ref mo), (3, .ref ou), (4, .int (nI (i)))]) hx hb d_L_law_668 hl (by decide) rfl (fun ls hl => ?_)
  refine lv_aload_n hx hb d_L_law_670 rfl (lv_at hl 4 rfl) ?_
  obtain ⟨hPX, hPm⟩ := ap_P hP
  obtain ⟨hDX, hDm⟩ := ap_D hD
  obtain ⟨fsR, hrec⟩ := mI_recv hm
  refine va_calli (va_runV (As := []) (rest := []) ⟨hx, hb, hml, hown, htB⟩ (s_M_thrown l g s.heap.size _ mo _ _ _ hm) (cwV 0 htB (gV kw_501 kw_502 kw_503 kw_3 g_M_thrown) rfl rfl rfl (by decide +kernel) ⟨Nat.le_of_ble_eq_true rfl, Nat.le_of_ble_eq_true rfl⟩) (pre_V hS hz ha (va_recv ha.1 hPm (ci := 3) (q0 := 0) rfl hrec) ⟨hPm, hDm⟩) rfl rfl hl.1 rfl (lv_room (Nat.le_of_ble_eq_true rfl)) d_L_law_671 ⟨by show cc + 1 + 0 ≤ 601024; omega, by show sc + 6 + 0 ≤ 7293033; omega⟩) hS (fun q _ h => h.elim) (fun q h => h.elim) (fun r3 u t H1 locs ht hvm hw hB hz1 hk1 hS => ?_)
  obtain rfl := hB.symm.trans ht
  subst hw
  refine lv_iload hx hb d_L_law_674 (lv_at hl 1 rfl) ?_
  refine lv_icmp_eq (tgt := 681) hx hb d_L_law_676 (by decide) (fun c_1 => ?_) (fun c_1 => absurd c_1 (fun q => q rfl))
  refine lv_iload hx hb d_L_law_681 (lv_at hl 1 rfl) ?_
  refine lv_if_ne (tgt := 697) hx hb d_L_law_683 (by decide) (fun c_2 => ?_) (fun c_2 => ?_)
  · refine lv_goto (tgt := 1116) hx hb d_L_law_697 (by decide) ?_
    exact W.widen (k := cc + 6) (n := sc + 158) (by omega) (by omega) (K _ _ _ _ _ _ _ _ ⟨hj', hm, hP, hD, hS⟩ (lv_sub hl [2, 3, 4, 5, 6] rfl))
  · refine lv_aload_n hx hb d_L_law_686 rfl (lv_at hl 5 rfl) ?_
    refine lv_iconst (v := (nI (0))) hx hb d_L_law_687 (by decide) ?_
    refine ja_lald (k := 0) hx hb ha.1 hP 0 1 rfl rfl (by decide) (by decide) d_L_law_688 ?_
    refine lv_lload hx hb d_L_law_689 (lv_at hl 0 rfl) ?_
    refine W.lcmp hx hb d_L_law_691 ?_
    refine lv_if_eq (tgt := 697) hx hb d_L_law_692 (by decide) (fun c_3 => ?_) (fun c_3 => absurd c_3 (fun q => q ((lg_cmp_eq _ _).mpr ((hans (code_0 hc4 c_2)).trans (hw (code_0 hc4 c_2))))))
    refine lv_goto (tgt := 1116) hx hb d_L_law_697 (by decide) ?_
    exact W.widen (k := cc + 6) (n := sc + 158) (by omega) (by omega) (K _ _ _ _ _ _ _ _ ⟨hj', hm, hP, hD, hS⟩ (lv_sub hl [2, 3, 4, 5, 6] rfl))
set_option maxHeartbeats 4000000 in
set_option maxRecDepth 100000 in
theorem lc_overlap {p : Program} {l : Launch} {e : Env} {s : State} {m : MethodId} {below : List Frame} {meth : Method} {c : Code} {b L : Nat} {xs : Nat → Int32} (hlt : l.stackTraces = false) (C0 : lw_At p s m meth c b L xs) {g : gT} (ha : aM g s.heap.size s) (hnc : nC s) {h mo ou i cc sc : Nat} (hi : i + 8 ≤ L) (hL : L ≤ 4096) (hcc : cc + 6 ≤ 601024) (hsc : sc + 158 ≤ 7293033) (K : lK p l e s m below meth c b g h mo ou i (cc + 6) (sc + 158)) {σ : sT} {th : Nat} {wj wm : va_W} {fo : Nat → Int64} {H : Heap} {locs : List Loc} {ls : Array Slot} (hI : lI g s h mo ou σ th wj wm fo H locs) (hl : lv_has ls 8 [(0, .ref b), (1, .ref h), (2, .ref mo), (3, .ref ou), (4, .int (nI i))]) : W p l e room_1 s m #[Value.ref b] below meth c H locs cc sc (lw_Z below #[Value.ref b] s) (F0 m 700 ls []) := by
  obtain ⟨hx, hb, hr, hml, hown, hts, hX, hbl, hlocks, hgv⟩ := id C0
  have hbA : ¬ zA s.heap.size b := Nat.not_le.mpr hbl
  have htB : ∀ w ∈ tB, w.before #[Value.ref b] s = true := fun w h => hts w (tB_in h)
  have hz : ∀ q, zA s.heap.size q → s.heap.size ≤ q := fun _ h => h
  have hown : s.vm.findClass R_L = some m.cls := hown
  have hb : c.code = c_L_law := hb
  obtain ⟨hj, hm, hP, hD, hS⟩ := hI
  refine lv_aload_n hx hb d_L_law_700 rfl (lv_at hl 1 rfl) ?_
  refine lv_aload_n hx hb d_L_law_701 rfl (lv_at hl 0 rfl) ?_
  refine lv_iload hx hb d_L_law_702 (lv_at hl 4 rfl) ?_
  refine lv_iconst (v := (nI (1))) hx hb d_L_law_704 (by decide) ?_
  refine jv_iadd hx hb d_L_law_705 ?_
  refine ja_sld (k := i + 1) hx hb hX hbl hbA hS (by omega) (by omega) d_L_law_706 ?_
  refine lv_aload_n hx hb d_L_law_707 rfl (lv_at hl 0 rfl) ?_
  refine lv_iload hx hb d_L_law_708 (lv_at hl 4 rfl) ?_
  refine lv_iconst (v := (nI (2))) hx hb d_L_law_710 (by decide) ?_
  refine jv_iadd hx hb d_L_law_711 ?_
  refine ja_sld (k := i + 2) hx hb hX hbl hbA hS (by omega) (by omega) d_L_law_712 ?_
  refine lv_aload_n hx hb d_L_law_713 rfl (lv_at hl 3 rfl) ?_
  obtain ⟨hPX, hPm⟩ := ap_P hP
  obtain ⟨hDX, hDm⟩ := ap_D hD
  have hFx := fr_L hD hS
  refine vx_calli (vx_runSX (As := [.ref h, .int (xs (i + 1)), .int (xs (i + 2)), .ref ou]) (rest := []) ⟨hx, hb, hml, hown, htB⟩ (h_overlap l hlt g s.heap.size _ h σ wj hj ou fo (xs (i + 1)) (xs (i + 2))) (vx_cwSW 4 htB (gS kw_376 kw_377 kw_0 g_L_overlap) rfl rfl rfl (by decide +kernel) ⟨Nat.le_of_ble_eq_true rfl, Nat.le_of_ble_eq_true rfl⟩) (pre_SL hS hz ha hnc ⟨hPX, hDX⟩) rfl rfl hl.1 rfl (lv_room (Nat.le_of_ble_eq_true rfl)) d_L_law_714 ⟨by show cc + 3 ≤ 601024; omega, by show sc + 18 ≤ 7293033; omega⟩) hS (fun q _ h => hFx q h) hFx (fun q _ h => h.elim) (fun E ce q9 u t H1 locs ht hal hpx _ _ _ _ _ _ _ => hpx.elim) (fun rr u t H1 locs ht hvm hw hB hz1 hk1 hS => ?_)
  obtain ⟨wn, fn⟩ := u
  dsimp only at hw hB
  obtain ⟨hc4, hrr, hans, hj'⟩ := hw
  subst hrr
  obtain ⟨hP1, hD1⟩ := hB
  rw [ht] at hP1
  obtain ⟨hP, hD⟩ := jn (List.Perm.refl _) hP hD hk1 hFx hP1 hD1
  clear hPX hPm hDX hDm hFx hk1 hz1 hvm ht hP1 hD1
  generalize H1 = H at hP hS ⊢
  refine lv_istore (lv' := [(5, .int (nI (s_two ovL σ (xs (i + 1)) (xs (i + 2))).1)), (0, .ref b), (1, .ref h), (2, .ref mo), (3, .ref ou), (4, .int (nI (i)))]) hx hb d_L_law_717 hl (by decide) rfl (fun ls hl => ?_)
  refine lv_aload_n hx hb d_L_law_719 rfl (lv_at hl 3 rfl) ?_
  refine lv_aload_n hx hb d_L_law_720 rfl (lv_at hl 1 rfl) ?_
  refine lv_iload hx hb d_L_law_721 (lv_at hl 5 rfl) ?_
  refine lv_iconst (v := (nI (1))) hx hb d_L_law_723 (by decide) ?_
  refine jv_iadd hx hb d_L_law_724 ?_
  refine ja_sld (k := i + 1) hx hb hX hbl hbA hS (by omega) (by omega) d_L_law_725 ?_
  refine lv_aload_n hx hb d_L_law_726 rfl (lv_at hl 1 rfl) ?_
  refine lv_iload hx hb d_L_law_727 (lv_at hl 5 rfl) ?_
  refine lv_iconst (v := (nI (2))) hx hb d_L_law_729 (by decide) ?_
  refine jv_iadd hx hb d_L_law_730 ?_
  refine ja_sld (k := i + 2) hx hb hX hbl hbA hS (by omega) (by omega) d_L_law_731 ?_
  obtain ⟨hPX, hPm⟩ := ap_P hP
  obtain ⟨hDX, hDm⟩ := ap_D hD
  obtain ⟨fsR, hrec⟩ := mI_recv hm
  have hFm := fr_R hD hS
  refine va_calll (va_runV (As := [.int (xs (i + 1)), .int (xs (i + 2))]) (rest := []) ⟨hx, hb, hml, hown, htB⟩ (s_M_overlap l g s.heap.size _ mo σ th wm hm (xs (i + 1)) (xs (i + 2))) (cwV 2 htB (gV kw_589 kw_590 kw_591 kw_3 g_M_overlap) rfl rfl rfl (by decide +kernel) ⟨Nat.le_of_ble_eq_true rfl, Nat.le_of_ble_eq_true rfl⟩) (pre_V hS hz ha (va_recv ha.1 hPm (ci := 3) (q0 := 0) rfl hrec) ⟨hPm, hDm⟩) rfl rfl hl.1 rfl (lv_room (Nat.le_of_ble_eq_true rfl)) d_L_law_732 ⟨by show cc + 3 + 0 ≤ 601024; omega, by show sc + 18 + 0 ≤ 7293033; omega⟩) hS (fun q _ h => hFm q h) hFm (fun r2 wm t H1 locs ht hvm hw hB hz1 hk1 hS => ?_)
  obtain ⟨hm, hP1, hD1⟩ := hB
  rw [ht] at hP1
  obtain ⟨hP, hD⟩ := jn2 hP hD hk1 hFm hP1 hD1
  clear hPX hPm hDX hDm hFm hk1 hz1 hvm ht hP1 hD1
  generalize H1 = H at hP hS ⊢
  refine lv_lstore (lv' := [(6, .long (r2)), (5, .int (nI (s_two ovL σ (xs (i + 1)) (xs (i + 2))).1)), (0, .ref b), (1, .ref h), (2, .ref mo), (3, .ref ou), (4, .int (nI (i)))]) hx hb d_L_law_735 hl (by decide) rfl (fun ls hl => ?_)
  refine lv_aload_n hx hb d_L_law_737 rfl (lv_at hl 4 rfl) ?_
  obtain ⟨hPX, hPm⟩ := ap_P hP
  obtain ⟨hDX, hDm⟩ := ap_D hD
  obtain ⟨fsR, hrec⟩ := mI_recv hm
  refine va_calli (va_runV (As := []) (rest := []) ⟨hx, hb, hml, hown, htB⟩ (s_M_thrown l g s.heap.size _ mo _ _ _ hm) (cwV 0 htB (gV kw_501 kw_502 kw_503 kw_3 g_M_thrown) rfl rfl rfl (by decide +kernel) ⟨Nat.le_of_ble_eq_true rfl, Nat.le_of_ble_eq_true rfl⟩) (pre_V hS hz ha (va_recv ha.1 hPm (ci := 3) (q0 := 0) rfl hrec) ⟨hPm, hDm⟩) rfl rfl hl.1 rfl (lv_room (Nat.le_of_ble_eq_true rfl)) d_L_law_738 ⟨by show cc + 3 + 0 ≤ 601024; omega, by show sc + 18 + 0 ≤ 7293033; omega⟩) hS (fun q _ h => h.elim) (fun q h => h.elim) (fun r3 u t H1 locs ht hvm hw hB hz1 hk1 hS => ?_)
  obtain rfl := hB.symm.trans ht
  subst hw
  refine lv_iload hx hb d_L_law_741 (lv_at hl 1 rfl) ?_
  refine lv_icmp_eq (tgt := 748) hx hb d_L_law_743 (by decide) (fun c_1 => ?_) (fun c_1 => absurd c_1 (fun q => q rfl))
  refine lv_iload hx hb d_L_law_748 (lv_at hl 1 rfl) ?_
  refine lv_if_ne (tgt := 764) hx hb d_L_law_750 (by decide) (fun c_2 => ?_) (fun c_2 => ?_)
  · refine lv_goto (tgt := 1116) hx hb d_L_law_764 (by decide) ?_
    exact W.widen (k := cc + 6) (n := sc + 158) (by omega) (by omega) (K _ _ _ _ _ _ _ _ ⟨hj', hm, hP, hD, hS⟩ (lv_sub hl [2, 3, 4, 5, 6] rfl))
  · refine lv_aload_n hx hb d_L_law_753 rfl (lv_at hl 5 rfl) ?_
    refine lv_iconst (v := (nI (0))) hx hb d_L_law_754 (by decide) ?_
    refine ja_lald (k := 0) hx hb ha.1 hP 0 1 rfl rfl (by decide) (by decide) d_L_law_755 ?_
    refine lv_lload hx hb d_L_law_756 (lv_at hl 0 rfl) ?_
    refine W.lcmp hx hb d_L_law_758 ?_
    refine lv_if_eq (tgt := 764) hx hb d_L_law_759 (by decide) (fun c_3 => ?_) (fun c_3 => absurd c_3 (fun q => q ((lg_cmp_eq _ _).mpr ((hans (code_0 hc4 c_2)).trans (hw (code_0 hc4 c_2))))))
    refine lv_goto (tgt := 1116) hx hb d_L_law_764 (by decide) ?_
    exact W.widen (k := cc + 6) (n := sc + 158) (by omega) (by omega) (K _ _ _ _ _ _ _ _ ⟨hj', hm, hP, hD, hS⟩ (lv_sub hl [2, 3, 4, 5, 6] rfl))
set_option maxHeartbeats 4000000 in
set_option maxRecDepth 100000 in
theorem lc_touch {p : Program} {l : Launch} {e : Env} {s : State} {m : MethodId} {below : List Frame} {meth : Method} {c : Code} {b L : Nat} {xs : Nat → Int32} (hlt : l.stackTraces = false) (C0 : lw_At p s m meth c b L xs) {g : gT} (ha : aM g s.heap.size s) (hnc : nC s) {h mo ou i cc sc : Nat} (hi : i + 8 ≤ L) (hL : L ≤ 4096) (hcc : cc + 6 ≤ 601024) (hsc : sc + 158 ≤ 7293033) (K : lK p l e s m below meth c b g h mo ou i (cc + 6) (sc + 158)) {σ : sT} {th : Nat} {wj wm : va_W} {fo : Nat → Int64} {H : Heap} {locs : List Loc} {ls : Array Slot} (hI : lI g s h mo ou σ th wj wm fo H locs) (hl : lv_has ls 8 [(0, .ref b), (1, .ref h), (2, .ref mo), (3, .ref ou), (4, .int (nI i))]) : W p l e room_1 s m #[Value.ref b] below meth c H locs cc sc (lw_Z below #[Value.ref b] s) (F0 m 767 ls []) := by
  obtain ⟨hx, hb, hr, hml, hown, hts, hX, hbl, hlocks, hgv⟩ := id C0
  have hbA : ¬ zA s.heap.size b := Nat.not_le.mpr hbl
  have htB : ∀ w ∈ tB, w.before #[Value.ref b] s = true := fun w h => hts w (tB_in h)
  have hz : ∀ q, zA s.heap.size q → s.heap.size ≤ q := fun _ h => h
  have hown : s.vm.findClass R_L = some m.cls := hown
  have hb : c.code = c_L_law := hb
  obtain ⟨hj, hm, hP, hD, hS⟩ := hI
  refine lv_aload_n hx hb d_L_law_767 rfl (lv_at hl 1 rfl) ?_
  refine lv_aload_n hx hb d_L_law_768 rfl (lv_at hl 0 rfl) ?_
  refine lv_iload hx hb d_L_law_769 (lv_at hl 4 rfl) ?_
  refine lv_iconst (v := (nI (1))) hx hb d_L_law_771 (by decide) ?_
  refine jv_iadd hx hb d_L_law_772 ?_
  refine ja_sld (k := i + 1) hx hb hX hbl hbA hS (by omega) (by omega) d_L_law_773 ?_
  refine lv_aload_n hx hb d_L_law_774 rfl (lv_at hl 0 rfl) ?_
  refine lv_iload hx hb d_L_law_775 (lv_at hl 4 rfl) ?_
  refine lv_iconst (v := (nI (2))) hx hb d_L_law_777 (by decide) ?_
  refine jv_iadd hx hb d_L_law_778 ?_
  refine ja_sld (k := i + 2) hx hb hX hbl hbA hS (by omega) (by omega) d_L_law_779 ?_
  refine lv_aload_n hx hb d_L_law_780 rfl (lv_at hl 3 rfl) ?_
  obtain ⟨hPX, hPm⟩ := ap_P hP
  obtain ⟨hDX, hDm⟩ := ap_D hD
  have hFx := fr_L hD hS
  refine vx_calli (vx_runSX (As := [.ref h, .int (xs (i + 1)), .int (xs (i + 2)), .ref ou]) (rest := []) ⟨hx, hb, hml, hown, htB⟩ (h_touch l hlt g s.heap.size _ h σ wj hj ou fo (xs (i + 1)) (xs (i + 2))) (vx_cwSW 4 htB (gS kw_383 kw_384 kw_0 g_L_touch) rfl rfl rfl (by decide +kernel) ⟨Nat.le_of_ble_eq_true rfl, Nat.le_of_ble_eq_true rfl⟩) (pre_SL hS hz ha hnc ⟨hPX, hDX⟩) rfl rfl hl.1 rfl (lv_room (Nat.le_of_ble_eq_true rfl)) d_L_law_781 ⟨by show cc + 3 ≤ 601024; omega, by show sc + 18 ≤ 7293033; omega⟩) hS (fun q _ h => hFx q h) hFx (fun q _ h => h.elim) (fun E ce q9 u t H1 locs ht hal hpx _ _ _ _ _ _ _ => hpx.elim) (fun rr u t H1 locs ht hvm hw hB hz1 hk1 hS => ?_)
  obtain ⟨wn, fn⟩ := u
  dsimp only at hw hB
  obtain ⟨hc4, hrr, hans, hj'⟩ := hw
  subst hrr
  obtain ⟨hP1, hD1⟩ := hB
  rw [ht] at hP1
  obtain ⟨hP, hD⟩ := jn (List.Perm.refl _) hP hD hk1 hFx hP1 hD1
  clear hPX hPm hDX hDm hFx hk1 hz1 hvm ht hP1 hD1
  generalize H1 = H at hP hS ⊢
  refine lv_istore (lv' := [(5, .int (nI (s_two toL σ (xs (i + 1)) (xs (i + 2))).1)), (0, .ref b), (1, .ref h), (2, .ref mo), (3, .ref ou), (4, .int (nI (i)))]) hx hb d_L_law_784 hl (by decide) rfl (fun ls hl => ?_)
  refine lv_aload_n hx hb d_L_law_786 rfl (lv_at hl 3 rfl) ?_
  refine lv_aload_n hx hb d_L_law_787 rfl (lv_at hl 1 rfl) ?_
  refine lv_iload hx hb d_L_law_788 (lv_at hl 5 rfl) ?_
  refine lv_iconst (v := (nI (1))) hx hb d_L_law_790 (by decide) ?_
  refine jv_iadd hx hb d_L_law_791 ?_
  refine ja_sld (k := i + 1) hx hb hX hbl hbA hS (by omega) (by omega) d_L_law_792 ?_
  refine lv_aload_n hx hb d_L_law_793 rfl (lv_at hl 1 rfl) ?_
  refine lv_iload hx hb d_L_law_794 (lv_at hl 5 rfl) ?_
  refine lv_iconst (v := (nI (2))) hx hb d_L_law_796 (by decide) ?_
  refine jv_iadd hx hb d_L_law_797 ?_
  refine ja_sld (k := i + 2) hx hb hX hbl hbA hS (by omega) (by omega) d_L_law_798 ?_
  obtain ⟨hPX, hPm⟩ := ap_P hP
  obtain ⟨hDX, hDm⟩ := ap_D hD
  obtain ⟨fsR, hrec⟩ := mI_recv hm
  have hFm := fr_R hD hS
  refine va_calll (va_runV (As := [.int (xs (i + 1)), .int (xs (i + 2))]) (rest := []) ⟨hx, hb, hml, hown, htB⟩ (s_M_touch l g s.heap.size _ mo σ th wm hm (xs (i + 1)) (xs (i + 2))) (cwV 2 htB (gV kw_605 kw_606 kw_607 kw_3 g_M_touch) rfl rfl rfl (by decide +kernel) ⟨Nat.le_of_ble_eq_true rfl, Nat.le_of_ble_eq_true rfl⟩) (pre_V hS hz ha (va_recv ha.1 hPm (ci := 3) (q0 := 0) rfl hrec) ⟨hPm, hDm⟩) rfl rfl hl.1 rfl (lv_room (Nat.le_of_ble_eq_true rfl)) d_L_law_799 ⟨by show cc + 3 + 0 ≤ 601024; omega, by show sc + 18 + 0 ≤ 7293033; omega⟩) hS (fun q _ h => hFm q h) hFm (fun r2 wm t H1 locs ht hvm hw hB hz1 hk1 hS => ?_)
  obtain ⟨hm, hP1, hD1⟩ := hB
  rw [ht] at hP1
  obtain ⟨hP, hD⟩ := jn2 hP hD hk1 hFm hP1 hD1
  clear hPX hPm hDX hDm hFm hk1 hz1 hvm ht hP1 hD1
  generalize H1 = H at hP hS ⊢
  refine lv_lstore (lv' := [(6, .long (r2)), (5, .int (nI (s_two toL σ (xs (i + 1)) (xs (i + 2))).1)), (0, .ref b), (1, .ref h), (2, .ref mo), (3, .ref ou), (4, .int (nI (i)))]) hx hb d_L_law_802 hl (by decide) rfl (fun ls hl => ?_)
  refine lv_aload_n hx hb d_L_law_804 rfl (lv_at hl 4 rfl) ?_
  obtain ⟨hPX, hPm⟩ := ap_P hP
  obtain ⟨hDX, hDm⟩ := ap_D hD
  obtain ⟨fsR, hrec⟩ := mI_recv hm
  refine va_calli (va_runV (As := []) (rest := []) ⟨hx, hb, hml, hown, htB⟩ (s_M_thrown l g s.heap.size _ mo _ _ _ hm) (cwV 0 htB (gV kw_501 kw_502 kw_503 kw_3 g_M_thrown) rfl rfl rfl (by decide +kernel) ⟨Nat.le_of_ble_eq_true rfl, Nat.le_of_ble_eq_true rfl⟩) (pre_V hS hz ha (va_recv ha.1 hPm (ci := 3) (q0 := 0) rfl hrec) ⟨hPm, hDm⟩) rfl rfl hl.1 rfl (lv_room (Nat.le_of_ble_eq_true rfl)) d_L_law_805 ⟨by show cc + 3 + 0 ≤ 601024; omega, by show sc + 18 + 0 ≤ 7293033; omega⟩) hS (fun q _ h => h.elim) (fun q h => h.elim) (fun r3 u t H1 locs ht hvm hw hB hz1 hk1 hS => ?_)
  obtain rfl := hB.symm.trans ht
  subst hw
  refine lv_iload hx hb d_L_law_808 (lv_at hl 1 rfl) ?_
  refine lv_icmp_eq (tgt := 815) hx hb d_L_law_810 (by decide) (fun c_1 => ?_) (fun c_1 => absurd c_1 (fun q => q rfl))
  refine lv_iload hx hb d_L_law_815 (lv_at hl 1 rfl) ?_
  refine lv_if_ne (tgt := 831) hx hb d_L_law_817 (by decide) (fun c_2 => ?_) (fun c_2 => ?_)
  · refine lv_goto (tgt := 1116) hx hb d_L_law_831 (by decide) ?_
    exact W.widen (k := cc + 6) (n := sc + 158) (by omega) (by omega) (K _ _ _ _ _ _ _ _ ⟨hj', hm, hP, hD, hS⟩ (lv_sub hl [2, 3, 4, 5, 6] rfl))
  · refine lv_aload_n hx hb d_L_law_820 rfl (lv_at hl 5 rfl) ?_
    refine lv_iconst (v := (nI (0))) hx hb d_L_law_821 (by decide) ?_
    refine ja_lald (k := 0) hx hb ha.1 hP 0 1 rfl rfl (by decide) (by decide) d_L_law_822 ?_
    refine lv_lload hx hb d_L_law_823 (lv_at hl 0 rfl) ?_
    refine W.lcmp hx hb d_L_law_825 ?_
    refine lv_if_eq (tgt := 831) hx hb d_L_law_826 (by decide) (fun c_3 => ?_) (fun c_3 => absurd c_3 (fun q => q ((lg_cmp_eq _ _).mpr ((hans (code_0 hc4 c_2)).trans (hw (code_0 hc4 c_2))))))
    refine lv_goto (tgt := 1116) hx hb d_L_law_831 (by decide) ?_
    exact W.widen (k := cc + 6) (n := sc + 158) (by omega) (by omega) (K _ _ _ _ _ _ _ _ ⟨hj', hm, hP, hD, hS⟩ (lv_sub hl [2, 3, 4, 5, 6] rfl))
set_option maxHeartbeats 4000000 in
set_option maxRecDepth 100000 in
theorem lc_has {p : Program} {l : Launch} {e : Env} {s : State} {m : MethodId} {below : List Frame} {meth : Method} {c : Code} {b L : Nat} {xs : Nat → Int32} (hlt : l.stackTraces = false) (C0 : lw_At p s m meth c b L xs) {g : gT} (ha : aM g s.heap.size s) (hnc : nC s) {h mo ou i cc sc : Nat} (hi : i + 8 ≤ L) (hL : L ≤ 4096) (hcc : cc + 6 ≤ 601024) (hsc : sc + 158 ≤ 7293033) (K : lK p l e s m below meth c b g h mo ou i (cc + 6) (sc + 158)) {σ : sT} {th : Nat} {wj wm : va_W} {fo : Nat → Int64} {H : Heap} {locs : List Loc} {ls : Array Slot} (hI : lI g s h mo ou σ th wj wm fo H locs) (hl : lv_has ls 8 [(0, .ref b), (1, .ref h), (2, .ref mo), (3, .ref ou), (4, .int (nI i))]) : W p l e room_1 s m #[Value.ref b] below meth c H locs cc sc (lw_Z below #[Value.ref b] s) (F0 m 834 ls []) := by
  obtain ⟨hx, hb, hr, hml, hown, hts, hX, hbl, hlocks, hgv⟩ := id C0
  have hbA : ¬ zA s.heap.size b := Nat.not_le.mpr hbl
  have htB : ∀ w ∈ tB, w.before #[Value.ref b] s = true := fun w h => hts w (tB_in h)
  have hz : ∀ q, zA s.heap.size q → s.heap.size ≤ q := fun _ h => h
  have hown : s.vm.findClass R_L = some m.cls := hown
  have hb : c.code = c_L_law := hb
  obtain ⟨hj, hm, hP, hD, hS⟩ := hI
  refine lv_aload_n hx hb d_L_law_834 rfl (lv_at hl 1 rfl) ?_
  refine lv_aload_n hx hb d_L_law_835 rfl (lv_at hl 0 rfl) ?_
  refine lv_iload hx hb d_L_law_836 (lv_at hl 4 rfl) ?_
  refine lv_iconst (v := (nI (1))) hx hb d_L_law_838 (by decide) ?_
  refine jv_iadd hx hb d_L_law_839 ?_
  refine ja_sld (k := i + 1) hx hb hX hbl hbA hS (by omega) (by omega) d_L_law_840 ?_
  refine lv_aload_n hx hb d_L_law_841 rfl (lv_at hl 0 rfl) ?_
  refine lv_iload hx hb d_L_law_842 (lv_at hl 4 rfl) ?_
  refine lv_iconst (v := (nI (2))) hx hb d_L_law_844 (by decide) ?_
  refine jv_iadd hx hb d_L_law_845 ?_
  refine ja_sld (k := i + 2) hx hb hX hbl hbA hS (by omega) (by omega) d_L_law_846 ?_
  refine lv_aload_n hx hb d_L_law_847 rfl (lv_at hl 0 rfl) ?_
  refine lv_iload hx hb d_L_law_848 (lv_at hl 4 rfl) ?_
  refine lv_iconst (v := (nI (3))) hx hb d_L_law_850 (by decide) ?_
  refine jv_iadd hx hb d_L_law_851 ?_
  refine ja_sld (k := i + 3) hx hb hX hbl hbA hS (by omega) (by omega) d_L_law_852 ?_
  refine lv_aload_n hx hb d_L_law_853 rfl (lv_at hl 0 rfl) ?_
  refine lv_iload hx hb d_L_law_854 (lv_at hl 4 rfl) ?_
  refine lv_iconst (v := (nI (4))) hx hb d_L_law_856 (by decide) ?_
  refine jv_iadd hx hb d_L_law_857 ?_
  refine ja_sld (k := i + 4) hx hb hX hbl hbA hS (by omega) (by omega) d_L_law_858 ?_
  refine lv_aload_n hx hb d_L_law_859 rfl (lv_at hl 3 rfl) ?_
  obtain ⟨hPX, hPm⟩ := ap_P hP
  obtain ⟨hDX, hDm⟩ := ap_D hD
  have hFx := fr_L hD hS
  refine vx_calli (vx_runSX (As := [.ref h, .int (xs (i + 1)), .int (xs (i + 2)), .int (xs (i + 3)), .int (xs (i + 4)), .ref ou]) (rest := []) ⟨hx, hb, hml, hown, htB⟩ (h_has l hlt g s.heap.size _ h σ wj hj ou fo (xs (i + 1)) (xs (i + 2)) (xs (i + 3)) (xs (i + 4))) (vx_cwSW 6 htB (gS kw_396 kw_397 kw_0 g_L_has) rfl rfl rfl (by decide +kernel) ⟨Nat.le_of_ble_eq_true rfl, Nat.le_of_ble_eq_true rfl⟩) (pre_SL hS hz ha hnc ⟨hPX, hDX⟩) rfl rfl hl.1 rfl (lv_room (Nat.le_of_ble_eq_true rfl)) d_L_law_860 ⟨by show cc + 1 ≤ 601024; omega, by show sc + 6 ≤ 7293033; omega⟩) hS (fun q _ h => hFx q h) hFx (fun q _ h => h.elim) (fun E ce q9 u t H1 locs ht hal hpx _ _ _ _ _ _ _ => hpx.elim) (fun rr u t H1 locs ht hvm hw hB hz1 hk1 hS => ?_)
  obtain ⟨wn, fn⟩ := u
  dsimp only at hw hB
  obtain ⟨hc4, hrr, hans, hj'⟩ := hw
  subst hrr
  obtain ⟨hP1, hD1⟩ := hB
  rw [ht] at hP1
  obtain ⟨hP, hD⟩ := jn (List.Perm.refl _) hP hD hk1 hFx hP1 hD1
  clear hPX hPm hDX hDm hFx hk1 hz1 hvm ht hP1 hD1
  generalize H1 = H at hP hS ⊢
  refine lv_istore (lv' := [(5, .int (nI (s_has σ (xs (i + 1)) (xs (i + 2)) (xs (i + 3)) (xs (i + 4))).1)), (0, .ref b), (1, .ref h), (2, .ref mo), (3, .ref ou), (4, .int (nI (i)))]) hx hb d_L_law_863 hl (by decide) rfl (fun ls hl => ?_)
  refine lv_aload_n hx hb d_L_law_865 rfl (lv_at hl 3 rfl) ?_
  refine lv_aload_n hx hb d_L_law_866 rfl (lv_at hl 1 rfl) ?_
  refine lv_iload hx hb d_L_law_867 (lv_at hl 5 rfl) ?_
  refine lv_iconst (v := (nI (1))) hx hb d_L_law_869 (by decide) ?_
  refine jv_iadd hx hb d_L_law_870 ?_
  refine ja_sld (k := i + 1) hx hb hX hbl hbA hS (by omega) (by omega) d_L_law_871 ?_
  refine lv_aload_n hx hb d_L_law_872 rfl (lv_at hl 1 rfl) ?_
  refine lv_iload hx hb d_L_law_873 (lv_at hl 5 rfl) ?_
  refine lv_iconst (v := (nI (2))) hx hb d_L_law_875 (by decide) ?_
  refine jv_iadd hx hb d_L_law_876 ?_
  refine ja_sld (k := i + 2) hx hb hX hbl hbA hS (by omega) (by omega) d_L_law_877 ?_
  refine lv_aload_n hx hb d_L_law_878 rfl (lv_at hl 1 rfl) ?_
  refine lv_iload hx hb d_L_law_879 (lv_at hl 5 rfl) ?_
  refine lv_iconst (v := (nI (3))) hx hb d_L_law_881 (by decide) ?_
  refine jv_iadd hx hb d_L_law_882 ?_
  refine ja_sld (k := i + 3) hx hb hX hbl hbA hS (by omega) (by omega) d_L_law_883 ?_
  refine lv_aload_n hx hb d_L_law_884 rfl (lv_at hl 1 rfl) ?_
  refine lv_iload hx hb d_L_law_885 (lv_at hl 5 rfl) ?_
  refine lv_iconst (v := (nI (4))) hx hb d_L_law_887 (by decide) ?_
  refine jv_iadd hx hb d_L_law_888 ?_
  refine ja_sld (k := i + 4) hx hb hX hbl hbA hS (by omega) (by omega) d_L_law_889 ?_
  obtain ⟨hPX, hPm⟩ := ap_P hP
  obtain ⟨hDX, hDm⟩ := ap_D hD
  obtain ⟨fsR, hrec⟩ := mI_recv hm
  have hFm := fr_R hD hS
  refine va_calli (va_runV (As := [.int (xs (i + 1)), .int (xs (i + 2)), .int (xs (i + 3)), .int (xs (i + 4))]) (rest := []) ⟨hx, hb, hml, hown, htB⟩ (s_M_has l g s.heap.size _ mo σ th wm hm (xs (i + 1)) (xs (i + 2)) (xs (i + 3)) (xs (i + 4))) (cwV 4 htB (gV kw_613 kw_614 kw_615 kw_3 g_M_has) rfl rfl rfl (by decide +kernel) ⟨Nat.le_of_ble_eq_true rfl, Nat.le_of_ble_eq_true rfl⟩) (pre_V hS hz ha (va_recv ha.1 hPm (ci := 3) (q0 := 0) rfl hrec) ⟨hPm, hDm⟩) rfl rfl hl.1 rfl (lv_room (Nat.le_of_ble_eq_true rfl)) d_L_law_890 ⟨by show cc + 1 + 0 ≤ 601024; omega, by show sc + 6 + 0 ≤ 7293033; omega⟩) hS (fun q _ h => hFm q h) hFm (fun r2 wm t H1 locs ht hvm hw hB hz1 hk1 hS => ?_)
  obtain ⟨hm, hP1, hD1⟩ := hB
  rw [ht] at hP1
  obtain ⟨hP, hD⟩ := jn2 hP hD hk1 hFm hP1 hD1
  clear hPX hPm hDX hDm hFm hk1 hz1 hvm ht hP1 hD1
  generalize H1 = H at hP hS ⊢
  obtain ⟨hw, h01⟩ := hw
  refine lv_istore (lv' := [(6, .int (r2)), (5, .int (nI (s_has σ (xs (i + 1)) (xs (i + 2)) (xs (i + 3)) (xs (i + 4))).1)), (0, .ref b), (1, .ref h), (2, .ref mo), (3, .ref ou), (4, .int (nI (i)))]) hx hb d_L_law_893 hl (by decide) rfl (fun ls hl => ?_)
  refine lv_aload_n hx hb d_L_law_895 rfl (lv_at hl 4 rfl) ?_
  obtain ⟨hPX, hPm⟩ := ap_P hP
  obtain ⟨hDX, hDm⟩ := ap_D hD
  obtain ⟨fsR, hrec⟩ := mI_recv hm
  refine va_calli (va_runV (As := []) (rest := []) ⟨hx, hb, hml, hown, htB⟩ (s_M_thrown l g s.heap.size _ mo _ _ _ hm) (cwV 0 htB (gV kw_501 kw_502 kw_503 kw_3 g_M_thrown) rfl rfl rfl (by decide +kernel) ⟨Nat.le_of_ble_eq_true rfl, Nat.le_of_ble_eq_true rfl⟩) (pre_V hS hz ha (va_recv ha.1 hPm (ci := 3) (q0 := 0) rfl hrec) ⟨hPm, hDm⟩) rfl rfl hl.1 rfl (lv_room (Nat.le_of_ble_eq_true rfl)) d_L_law_896 ⟨by show cc + 1 + 0 ≤ 601024; omega, by show sc + 6 + 0 ≤ 7293033; omega⟩) hS (fun q _ h => h.elim) (fun q h => h.elim) (fun r3 u t H1 locs ht hvm hw hB hz1 hk1 hS => ?_)
  obtain rfl := hB.symm.trans ht
  subst hw
  refine lv_iload hx hb d_L_law_899 (lv_at hl 1 rfl) ?_
  refine lv_icmp_eq (tgt := 906) hx hb d_L_law_901 (by decide) (fun c_1 => ?_) (fun c_1 => absurd c_1 (fun q => q rfl))
  refine lv_iload hx hb d_L_law_906 (lv_at hl 1 rfl) ?_
  refine lv_if_ne (tgt := 930) hx hb d_L_law_908 (by decide) (fun c_2 => ?_) (fun c_2 => ?_)
  · refine lv_goto (tgt := 1116) hx hb d_L_law_930 (by decide) ?_
    exact W.widen (k := cc + 6) (n := sc + 158) (by omega) (by omega) (K _ _ _ _ _ _ _ _ ⟨hj', hm, hP, hD, hS⟩ (lv_sub hl [2, 3, 4, 5, 6] rfl))
  · refine lv_aload_n hx hb d_L_law_911 rfl (lv_at hl 5 rfl) ?_
    refine lv_iconst (v := (nI (0))) hx hb d_L_law_912 (by decide) ?_
    refine ja_lald (k := 0) hx hb ha.1 hP 0 1 rfl rfl (by decide) (by decide) d_L_law_913 ?_
    refine lv_iload hx hb d_L_law_914 (lv_at hl 0 rfl) ?_
    refine lv_if_eq (tgt := 923) hx hb d_L_law_916 (by decide) (fun c_3 => ?_) (fun c_3 => ?_)
    · refine lv_lconst (v := 0) hx hb d_L_law_923 (by decide) ?_
      refine W.lcmp hx hb d_L_law_924 ?_
      refine lv_if_eq (tgt := 930) hx hb d_L_law_925 (by decide) (fun c_4 => ?_) (fun c_4 => absurd c_4 (fun q => q ((lg_cmp_eq _ _).mpr ((hans (code_0 hc4 c_2)).trans ((b_01 (hw (code_0 hc4 c_2)) h01).1 c_3).symm))))
      refine lv_goto (tgt := 1116) hx hb d_L_law_930 (by decide) ?_
      exact W.widen (k := cc + 6) (n := sc + 158) (by omega) (by omega) (K _ _ _ _ _ _ _ _ ⟨hj', hm, hP, hD, hS⟩ (lv_sub hl [2, 3, 4, 5, 6] rfl))
    · refine lv_lconst (v := 1) hx hb d_L_law_919 (by decide) ?_
      refine lv_goto (tgt := 924) hx hb d_L_law_920 (by decide) ?_
      refine W.lcmp hx hb d_L_law_924 ?_
      refine lv_if_eq (tgt := 930) hx hb d_L_law_925 (by decide) (fun c_5 => ?_) (fun c_5 => absurd c_5 (fun q => q ((lg_cmp_eq _ _).mpr ((hans (code_0 hc4 c_2)).trans ((b_01 (hw (code_0 hc4 c_2)) h01).2 c_3).symm))))
      refine lv_goto (tgt := 1116) hx hb d_L_law_930 (by decide) ?_
      exact W.widen (k := cc + 6) (n := sc + 158) (by omega) (by omega) (K _ _ _ _ _ _ _ _ ⟨hj', hm, hP, hD, hS⟩ (lv_sub hl [2, 3, 4, 5, 6] rfl))
set_option maxHeartbeats 4000000 in
set_option maxRecDepth 100000 in
theorem lc_row {p : Program} {l : Launch} {e : Env} {s : State} {m : MethodId} {below : List Frame} {meth : Method} {c : Code} {b L : Nat} {xs : Nat → Int32} (hlt : l.stackTraces = false) (C0 : lw_At p s m meth c b L xs) {g : gT} (ha : aM g s.heap.size s) (hnc : nC s) {h mo ou i cc sc : Nat} (hi : i + 8 ≤ L) (hL : L ≤ 4096) (hcc : cc + 6 ≤ 601024) (hsc : sc + 158 ≤ 7293033) (K : lK p l e s m below meth c b g h mo ou i (cc + 6) (sc + 158)) {σ : sT} {th : Nat} {wj wm : va_W} {fo : Nat → Int64} {H : Heap} {locs : List Loc} {ls : Array Slot} (hI : lI g s h mo ou σ th wj wm fo H locs) (hl : lv_has ls 8 [(0, .ref b), (1, .ref h), (2, .ref mo), (3, .ref ou), (4, .int (nI i))]) : W p l e room_1 s m #[Value.ref b] below meth c H locs cc sc (lw_Z below #[Value.ref b] s) (F0 m 933 ls []) := by
  obtain ⟨hx, hb, hr, hml, hown, hts, hX, hbl, hlocks, hgv⟩ := id C0
  have hbA : ¬ zA s.heap.size b := Nat.not_le.mpr hbl
  have htB : ∀ w ∈ tB, w.before #[Value.ref b] s = true := fun w h => hts w (tB_in h)
  have hz : ∀ q, zA s.heap.size q → s.heap.size ≤ q := fun _ h => h
  have hown : s.vm.findClass R_L = some m.cls := hown
  have hb : c.code = c_L_law := hb
  obtain ⟨hj, hm, hP, hD, hS⟩ := hI
  refine lv_aload_n hx hb d_L_law_933 rfl (lv_at hl 1 rfl) ?_
  refine lv_aload_n hx hb d_L_law_934 rfl (lv_at hl 0 rfl) ?_
  refine lv_iload hx hb d_L_law_935 (lv_at hl 4 rfl) ?_
  refine lv_iconst (v := (nI (1))) hx hb d_L_law_937 (by decide) ?_
  refine jv_iadd hx hb d_L_law_938 ?_
  refine ja_sld (k := i + 1) hx hb hX hbl hbA hS (by omega) (by omega) d_L_law_939 ?_
  refine lv_aload_n hx hb d_L_law_940 rfl (lv_at hl 0 rfl) ?_
  refine lv_iload hx hb d_L_law_941 (lv_at hl 4 rfl) ?_
  refine lv_iconst (v := (nI (2))) hx hb d_L_law_943 (by decide) ?_
  refine jv_iadd hx hb d_L_law_944 ?_
  refine ja_sld (k := i + 2) hx hb hX hbl hbA hS (by omega) (by omega) d_L_law_945 ?_
  obtain ⟨hPX, hPm⟩ := ap_P hP
  obtain ⟨hDX, hDm⟩ := ap_D hD
  have hFx : ∀ q, va_A wj H.size q → zA s.heap.size q := fun q h9 => fr_L hD hS q (tl_A q h9)
  refine vx_calli (vx_runSX (As := [.ref h, .int (xs (i + 1)), .int (xs (i + 2))]) (rest := []) ⟨hx, hb, hml, hown, htB⟩ (h_row l hlt g s.heap.size _ h σ wj hj (xs (i + 1)) (xs (i + 2))) (vx_cwSW 3 htB (gS kw_407 kw_408 kw_0 g_L_row) rfl rfl rfl (by decide +kernel) ⟨Nat.le_of_ble_eq_true rfl, Nat.le_of_ble_eq_true rfl⟩) (pre_SL hS hz ha hnc ⟨tl_P hPX, tl_D hDX⟩) rfl rfl hl.1 rfl (lv_room (Nat.le_of_ble_eq_true rfl)) d_L_law_946 ⟨by show cc + 2 ≤ 601024; omega, by show sc + 12 ≤ 7293033; omega⟩) hS (fun q _ h => hFx q h) hFx (fun q _ h => h.elim) (fun E ce q9 u t H1 locs ht hal hpx _ _ _ _ _ _ _ => hpx.elim) (fun rr u t H1 locs ht hvm hw hB hz1 hk1 hS => ?_)
  obtain ⟨hc4, hrr, hj'⟩ := hw
  subst hrr
  obtain ⟨hP1, hD1⟩ := hB
  rw [ht] at hP1
  have wn := u
  obtain ⟨hP, hD⟩ := jn (X := wj) (Y := [(ou, eL g 1 fo)] ++ wm) (pmw _ _ _) hP hD hk1 hFx hP1 hD1
  have hP := va_P_perm hP (pmw (ou, eL g 1 fo) u wm)
  have hD := va_D_perm hD (pmw (ou, eL g 1 fo) u wm)
  clear wn
  clear hPX hPm hDX hDm hFx hk1 hz1 hvm ht hP1 hD1
  generalize H1 = H at hP hS ⊢
  refine lv_istore (lv' := [(5, .int (nI (s_row σ (xs (i + 1)) (xs (i + 2))).1)), (0, .ref b), (1, .ref h), (2, .ref mo), (3, .ref ou), (4, .int (nI (i)))]) hx hb d_L_law_949 hl (by decide) rfl (fun ls hl => ?_)
  refine lv_aload_n hx hb d_L_law_951 rfl (lv_at hl 3 rfl) ?_
  refine lv_aload_n hx hb d_L_law_952 rfl (lv_at hl 1 rfl) ?_
  refine lv_iload hx hb d_L_law_953 (lv_at hl 5 rfl) ?_
  refine lv_iconst (v := (nI (1))) hx hb d_L_law_955 (by decide) ?_
  refine jv_iadd hx hb d_L_law_956 ?_
  refine ja_sld (k := i + 1) hx hb hX hbl hbA hS (by omega) (by omega) d_L_law_957 ?_
  refine lv_aload_n hx hb d_L_law_958 rfl (lv_at hl 1 rfl) ?_
  refine lv_iload hx hb d_L_law_959 (lv_at hl 5 rfl) ?_
  refine lv_iconst (v := (nI (2))) hx hb d_L_law_961 (by decide) ?_
  refine jv_iadd hx hb d_L_law_962 ?_
  refine ja_sld (k := i + 2) hx hb hX hbl hbA hS (by omega) (by omega) d_L_law_963 ?_
  obtain ⟨hPX, hPm⟩ := ap_P hP
  obtain ⟨hDX, hDm⟩ := ap_D hD
  obtain ⟨fsR, hrec⟩ := mI_recv hm
  have hFm := fr_R hD hS
  refine va_callv (va_runV (As := [.int (xs (i + 1)), .int (xs (i + 2))]) (rest := []) ⟨hx, hb, hml, hown, htB⟩ (s_M_row l g s.heap.size _ mo σ th wm hm (xs (i + 1)) (xs (i + 2)) (jI_ok hj')) (cwV 2 htB (gV kw_617 kw_618 kw_619 kw_3 g_M_row) rfl rfl rfl (by decide +kernel) ⟨Nat.le_of_ble_eq_true rfl, Nat.le_of_ble_eq_true rfl⟩) (pre_V hS hz ha (va_recv ha.1 hPm (ci := 3) (q0 := 0) rfl hrec) ⟨hPm, hDm⟩) rfl rfl hl.1 rfl (lv_room (Nat.le_of_ble_eq_true rfl)) d_L_law_964 ⟨by show cc + 2 + 0 ≤ 601024; omega, by show sc + 12 + 0 ≤ 7293033; omega⟩) hS (fun q _ h => hFm q h) hFm (fun wm t H1 locs ht hvm hw hB hz1 hk1 hS => ?_)
  obtain ⟨hm, hP1, hD1⟩ := hB
  rw [ht] at hP1
  obtain ⟨hP, hD⟩ := jn2 hP hD hk1 hFm hP1 hD1
  clear hPX hPm hDX hDm hFm hk1 hz1 hvm ht hP1 hD1
  generalize H1 = H at hP hS ⊢
  refine lv_aload_n hx hb d_L_law_967 rfl (lv_at hl 3 rfl) ?_
  obtain ⟨hPX, hPm⟩ := ap_P hP
  obtain ⟨hDX, hDm⟩ := ap_D hD
  obtain ⟨fsR, hrec⟩ := mI_recv hm
  refine va_calli (va_runV (As := []) (rest := []) ⟨hx, hb, hml, hown, htB⟩ (s_M_thrown l g s.heap.size _ mo _ _ _ hm) (cwV 0 htB (gV kw_501 kw_502 kw_503 kw_3 g_M_thrown) rfl rfl rfl (by decide +kernel) ⟨Nat.le_of_ble_eq_true rfl, Nat.le_of_ble_eq_true rfl⟩) (pre_V hS hz ha (va_recv ha.1 hPm (ci := 3) (q0 := 0) rfl hrec) ⟨hPm, hDm⟩) rfl rfl hl.1 rfl (lv_room (Nat.le_of_ble_eq_true rfl)) d_L_law_968 ⟨by show cc + 2 + 0 ≤ 601024; omega, by show sc + 12 + 0 ≤ 7293033; omega⟩) hS (fun q _ h => h.elim) (fun q h => h.elim) (fun r3 u t H1 locs ht hvm hw hB hz1 hk1 hS => ?_)
  obtain rfl := hB.symm.trans ht
  subst hw
  refine lv_iload hx hb d_L_law_971 (lv_at hl 0 rfl) ?_
  refine lv_icmp_eq (tgt := 978) hx hb d_L_law_973 (by decide) (fun c_1 => ?_) (fun c_1 => absurd c_1 (fun q => q rfl))
  refine lv_goto (tgt := 1116) hx hb d_L_law_978 (by decide) ?_
  exact W.widen (k := cc + 6) (n := sc + 158) (by omega) (by omega) (K _ _ _ _ _ _ _ _ ⟨hj', hm, hP, hD, hS⟩ (lv_sub hl [1, 2, 3, 4, 5] rfl))
set_option maxHeartbeats 4000000 in
set_option maxRecDepth 100000 in
theorem lc_strength {p : Program} {l : Launch} {e : Env} {s : State} {m : MethodId} {below : List Frame} {meth : Method} {c : Code} {b L : Nat} {xs : Nat → Int32} (hlt : l.stackTraces = false) (C0 : lw_At p s m meth c b L xs) {g : gT} (ha : aM g s.heap.size s) (hnc : nC s) {h mo ou i cc sc : Nat} (hi : i + 8 ≤ L) (hL : L ≤ 4096) (hcc : cc + 6 ≤ 601024) (hsc : sc + 158 ≤ 7293033) (K : lK p l e s m below meth c b g h mo ou i (cc + 6) (sc + 158)) {σ : sT} {th : Nat} {wj wm : va_W} {fo : Nat → Int64} {H : Heap} {locs : List Loc} {ls : Array Slot} (hI : lI g s h mo ou σ th wj wm fo H locs) (hl : lv_has ls 8 [(0, .ref b), (1, .ref h), (2, .ref mo), (3, .ref ou), (4, .int (nI i))]) : W p l e room_1 s m #[Value.ref b] below meth c H locs cc sc (lw_Z below #[Value.ref b] s) (F0 m 981 ls []) := by
  obtain ⟨hx, hb, hr, hml, hown, hts, hX, hbl, hlocks, hgv⟩ := id C0
  have hbA : ¬ zA s.heap.size b := Nat.not_le.mpr hbl
  have htB : ∀ w ∈ tB, w.before #[Value.ref b] s = true := fun w h => hts w (tB_in h)
  have hz : ∀ q, zA s.heap.size q → s.heap.size ≤ q := fun _ h => h
  have hown : s.vm.findClass R_L = some m.cls := hown
  have hb : c.code = c_L_law := hb
  obtain ⟨hj, hm, hP, hD, hS⟩ := hI
  refine lv_aload_n hx hb d_L_law_981 rfl (lv_at hl 1 rfl) ?_
  refine lv_aload_n hx hb d_L_law_982 rfl (lv_at hl 0 rfl) ?_
  refine lv_iload hx hb d_L_law_983 (lv_at hl 4 rfl) ?_
  refine lv_iconst (v := (nI (1))) hx hb d_L_law_985 (by decide) ?_
  refine jv_iadd hx hb d_L_law_986 ?_
  refine ja_sld (k := i + 1) hx hb hX hbl hbA hS (by omega) (by omega) d_L_law_987 ?_
  refine lv_aload_n hx hb d_L_law_988 rfl (lv_at hl 3 rfl) ?_
  obtain ⟨hPX, hPm⟩ := ap_P hP
  obtain ⟨hDX, hDm⟩ := ap_D hD
  have hFx := fr_L hD hS
  refine vx_calli (vx_runSX (As := [.ref h, .int (xs (i + 1)), .ref ou]) (rest := []) ⟨hx, hb, hml, hown, htB⟩ (h_strength l hlt g s.heap.size _ h σ wj hj ou fo (xs (i + 1))) (vx_cwSW 3 htB (gS kw_415 kw_416 kw_0 g_L_strength) rfl rfl rfl (by decide +kernel) ⟨Nat.le_of_ble_eq_true rfl, Nat.le_of_ble_eq_true rfl⟩) (pre_SL hS hz ha hnc ⟨hPX, hDX⟩) rfl rfl hl.1 rfl (lv_room (Nat.le_of_ble_eq_true rfl)) d_L_law_989 ⟨by show cc + 1 ≤ 601024; omega, by show sc + 6 ≤ 7293033; omega⟩) hS (fun q _ h => hFx q h) hFx (fun q _ h => h.elim) (fun E ce q9 u t H1 locs ht hal hpx _ _ _ _ _ _ _ => hpx.elim) (fun rr u t H1 locs ht hvm hw hB hz1 hk1 hS => ?_)
  obtain ⟨wn, fn⟩ := u
  dsimp only at hw hB
  obtain ⟨hc4, hrr, hans, hj'⟩ := hw
  subst hrr
  obtain ⟨hP1, hD1⟩ := hB
  rw [ht] at hP1
  obtain ⟨hP, hD⟩ := jn (List.Perm.refl _) hP hD hk1 hFx hP1 hD1
  clear hPX hPm hDX hDm hFx hk1 hz1 hvm ht hP1 hD1
  generalize H1 = H at hP hS ⊢
  refine lv_istore (lv' := [(5, .int (nI (s_strength σ (xs (i + 1))).1)), (0, .ref b), (1, .ref h), (2, .ref mo), (3, .ref ou), (4, .int (nI (i)))]) hx hb d_L_law_992 hl (by decide) rfl (fun ls hl => ?_)
  refine lv_aload_n hx hb d_L_law_994 rfl (lv_at hl 3 rfl) ?_
  refine lv_aload_n hx hb d_L_law_995 rfl (lv_at hl 1 rfl) ?_
  refine lv_iload hx hb d_L_law_996 (lv_at hl 5 rfl) ?_
  refine lv_iconst (v := (nI (1))) hx hb d_L_law_998 (by decide) ?_
  refine jv_iadd hx hb d_L_law_999 ?_
  refine ja_sld (k := i + 1) hx hb hX hbl hbA hS (by omega) (by omega) d_L_law_1000 ?_
  obtain ⟨hPX, hPm⟩ := ap_P hP
  obtain ⟨hDX, hDm⟩ := ap_D hD
  obtain ⟨fsR, hrec⟩ := mI_recv hm
  have hFm := fr_R hD hS
  refine va_calll (va_runV (As := [.int (xs (i + 1))]) (rest := []) ⟨hx, hb, hml, hown, htB⟩ (s_M_strength l g s.heap.size _ mo σ th wm hm (xs (i + 1))) (cwV 1 htB (gV kw_621 kw_622 kw_623 kw_3 g_M_strength) rfl rfl rfl (by decide +kernel) ⟨Nat.le_of_ble_eq_true rfl, Nat.le_of_ble_eq_true rfl⟩) (pre_V hS hz ha (va_recv ha.1 hPm (ci := 3) (q0 := 0) rfl hrec) ⟨hPm, hDm⟩) rfl rfl hl.1 rfl (lv_room (Nat.le_of_ble_eq_true rfl)) d_L_law_1001 ⟨by show cc + 1 + 0 ≤ 601024; omega, by show sc + 6 + 0 ≤ 7293033; omega⟩) hS (fun q _ h => hFm q h) hFm (fun r2 wm t H1 locs ht hvm hw hB hz1 hk1 hS => ?_)
  obtain ⟨hm, hP1, hD1⟩ := hB
  rw [ht] at hP1
  obtain ⟨hP, hD⟩ := jn2 hP hD hk1 hFm hP1 hD1
  clear hPX hPm hDX hDm hFm hk1 hz1 hvm ht hP1 hD1
  generalize H1 = H at hP hS ⊢
  refine lv_lstore (lv' := [(6, .long (r2)), (5, .int (nI (s_strength σ (xs (i + 1))).1)), (0, .ref b), (1, .ref h), (2, .ref mo), (3, .ref ou), (4, .int (nI (i)))]) hx hb d_L_law_1004 hl (by decide) rfl (fun ls hl => ?_)
  refine lv_aload_n hx hb d_L_law_1006 rfl (lv_at hl 4 rfl) ?_
  obtain ⟨hPX, hPm⟩ := ap_P hP
  obtain ⟨hDX, hDm⟩ := ap_D hD
  obtain ⟨fsR, hrec⟩ := mI_recv hm
  refine va_calli (va_runV (As := []) (rest := []) ⟨hx, hb, hml, hown, htB⟩ (s_M_thrown l g s.heap.size _ mo _ _ _ hm) (cwV 0 htB (gV kw_501 kw_502 kw_503 kw_3 g_M_thrown) rfl rfl rfl (by decide +kernel) ⟨Nat.le_of_ble_eq_true rfl, Nat.le_of_ble_eq_true rfl⟩) (pre_V hS hz ha (va_recv ha.1 hPm (ci := 3) (q0 := 0) rfl hrec) ⟨hPm, hDm⟩) rfl rfl hl.1 rfl (lv_room (Nat.le_of_ble_eq_true rfl)) d_L_law_1007 ⟨by show cc + 1 + 0 ≤ 601024; omega, by show sc + 6 + 0 ≤ 7293033; omega⟩) hS (fun q _ h => h.elim) (fun q h => h.elim) (fun r3 u t H1 locs ht hvm hw hB hz1 hk1 hS => ?_)
  obtain rfl := hB.symm.trans ht
  subst hw
  refine lv_iload hx hb d_L_law_1010 (lv_at hl 1 rfl) ?_
  refine lv_icmp_eq (tgt := 1017) hx hb d_L_law_1012 (by decide) (fun c_1 => ?_) (fun c_1 => absurd c_1 (fun q => q rfl))
  refine lv_iload hx hb d_L_law_1017 (lv_at hl 1 rfl) ?_
  refine lv_if_ne (tgt := 1033) hx hb d_L_law_1019 (by decide) (fun c_2 => ?_) (fun c_2 => ?_)
  · refine lv_goto (tgt := 1116) hx hb d_L_law_1033 (by decide) ?_
    exact W.widen (k := cc + 6) (n := sc + 158) (by omega) (by omega) (K _ _ _ _ _ _ _ _ ⟨hj', hm, hP, hD, hS⟩ (lv_sub hl [2, 3, 4, 5, 6] rfl))
  · refine lv_aload_n hx hb d_L_law_1022 rfl (lv_at hl 5 rfl) ?_
    refine lv_iconst (v := (nI (0))) hx hb d_L_law_1023 (by decide) ?_
    refine ja_lald (k := 0) hx hb ha.1 hP 0 1 rfl rfl (by decide) (by decide) d_L_law_1024 ?_
    refine lv_lload hx hb d_L_law_1025 (lv_at hl 0 rfl) ?_
    refine W.lcmp hx hb d_L_law_1027 ?_
    refine lv_if_eq (tgt := 1033) hx hb d_L_law_1028 (by decide) (fun c_3 => ?_) (fun c_3 => absurd c_3 (fun q => q ((lg_cmp_eq _ _).mpr ((hans (code_0 hc4 c_2)).trans (hw (code_0 hc4 c_2))))))
    refine lv_goto (tgt := 1116) hx hb d_L_law_1033 (by decide) ?_
    exact W.widen (k := cc + 6) (n := sc + 158) (by omega) (by omega) (K _ _ _ _ _ _ _ _ ⟨hj', hm, hP, hD, hS⟩ (lv_sub hl [2, 3, 4, 5, 6] rfl))
set_option maxHeartbeats 4000000 in
set_option maxRecDepth 100000 in
theorem lc_about {p : Program} {l : Launch} {e : Env} {s : State} {m : MethodId} {below : List Frame} {meth : Method} {c : Code} {b L : Nat} {xs : Nat → Int32} (hlt : l.stackTraces = false) (C0 : lw_At p s m meth c b L xs) {g : gT} (ha : aM g s.heap.size s) (hnc : nC s) {h mo ou i cc sc : Nat} (hi : i + 8 ≤ L) (hL : L ≤ 4096) (hcc : cc + 6 ≤ 601024) (hsc : sc + 158 ≤ 7293033) (K : lK p l e s m below meth c b g h mo ou i (cc + 6) (sc + 158)) {σ : sT} {th : Nat} {wj wm : va_W} {fo : Nat → Int64} {H : Heap} {locs : List Loc} {ls : Array Slot} (hI : lI g s h mo ou σ th wj wm fo H locs) (hl : lv_has ls 8 [(0, .ref b), (1, .ref h), (2, .ref mo), (3, .ref ou), (4, .int (nI i))]) : W p l e room_1 s m #[Value.ref b] below meth c H locs cc sc (lw_Z below #[Value.ref b] s) (F0 m 1036 ls []) := by
  obtain ⟨hx, hb, hr, hml, hown, hts, hX, hbl, hlocks, hgv⟩ := id C0
  have hbA : ¬ zA s.heap.size b := Nat.not_le.mpr hbl
  have htB : ∀ w ∈ tB, w.before #[Value.ref b] s = true := fun w h => hts w (tB_in h)
  have hz : ∀ q, zA s.heap.size q → s.heap.size ≤ q := fun _ h => h
  have hown : s.vm.findClass R_L = some m.cls := hown
  have hb : c.code = c_L_law := hb
  obtain ⟨hj, hm, hP, hD, hS⟩ := hI
  refine lv_aload_n hx hb d_L_law_1036 rfl (lv_at hl 1 rfl) ?_
  refine lv_aload_n hx hb d_L_law_1037 rfl (lv_at hl 0 rfl) ?_
  refine lv_iload hx hb d_L_law_1038 (lv_at hl 4 rfl) ?_
  refine lv_iconst (v := (nI (1))) hx hb d_L_law_1040 (by decide) ?_
  refine jv_iadd hx hb d_L_law_1041 ?_
  refine ja_sld (k := i + 1) hx hb hX hbl hbA hS (by omega) (by omega) d_L_law_1042 ?_
  refine lv_aload_n hx hb d_L_law_1043 rfl (lv_at hl 0 rfl) ?_
  refine lv_iload hx hb d_L_law_1044 (lv_at hl 4 rfl) ?_
  refine lv_iconst (v := (nI (2))) hx hb d_L_law_1046 (by decide) ?_
  refine jv_iadd hx hb d_L_law_1047 ?_
  refine ja_sld (k := i + 2) hx hb hX hbl hbA hS (by omega) (by omega) d_L_law_1048 ?_
  refine lv_aload_n hx hb d_L_law_1049 rfl (lv_at hl 3 rfl) ?_
  obtain ⟨hPX, hPm⟩ := ap_P hP
  obtain ⟨hDX, hDm⟩ := ap_D hD
  have hFx := fr_L hD hS
  refine vx_calli (vx_runSX (As := [.ref h, .int (xs (i + 1)), .int (xs (i + 2)), .ref ou]) (rest := []) ⟨hx, hb, hml, hown, htB⟩ (h_about l hlt g s.heap.size _ h σ wj hj ou fo (xs (i + 1)) (xs (i + 2))) (vx_cwSW 4 htB (gS kw_428 kw_429 kw_0 g_L_about) rfl rfl rfl (by decide +kernel) ⟨Nat.le_of_ble_eq_true rfl, Nat.le_of_ble_eq_true rfl⟩) (pre_SL hS hz ha hnc ⟨hPX, hDX⟩) rfl rfl hl.1 rfl (lv_room (Nat.le_of_ble_eq_true rfl)) d_L_law_1050 ⟨by show cc + 2 ≤ 601024; omega, by show sc + 12 ≤ 7293033; omega⟩) hS (fun q _ h => hFx q h) hFx (fun q _ h => h.elim) (fun E ce q9 u t H1 locs ht hal hpx _ _ _ _ _ _ _ => hpx.elim) (fun rr u t H1 locs ht hvm hw hB hz1 hk1 hS => ?_)
  obtain ⟨wn, fn⟩ := u
  dsimp only at hw hB
  obtain ⟨hc4, hrr, hans, hj'⟩ := hw
  subst hrr
  obtain ⟨hP1, hD1⟩ := hB
  rw [ht] at hP1
  obtain ⟨hP, hD⟩ := jn (List.Perm.refl _) hP hD hk1 hFx hP1 hD1
  clear hPX hPm hDX hDm hFx hk1 hz1 hvm ht hP1 hD1
  generalize H1 = H at hP hS ⊢
  refine lv_istore (lv' := [(5, .int (nI (s_about σ (xs (i + 1)) (xs (i + 2))).1)), (0, .ref b), (1, .ref h), (2, .ref mo), (3, .ref ou), (4, .int (nI (i)))]) hx hb d_L_law_1053 hl (by decide) rfl (fun ls hl => ?_)
  refine lv_aload_n hx hb d_L_law_1055 rfl (lv_at hl 3 rfl) ?_
  refine lv_aload_n hx hb d_L_law_1056 rfl (lv_at hl 1 rfl) ?_
  refine lv_iload hx hb d_L_law_1057 (lv_at hl 5 rfl) ?_
  refine lv_iconst (v := (nI (1))) hx hb d_L_law_1059 (by decide) ?_
  refine jv_iadd hx hb d_L_law_1060 ?_
  refine ja_sld (k := i + 1) hx hb hX hbl hbA hS (by omega) (by omega) d_L_law_1061 ?_
  refine lv_aload_n hx hb d_L_law_1062 rfl (lv_at hl 1 rfl) ?_
  refine lv_iload hx hb d_L_law_1063 (lv_at hl 5 rfl) ?_
  refine lv_iconst (v := (nI (2))) hx hb d_L_law_1065 (by decide) ?_
  refine jv_iadd hx hb d_L_law_1066 ?_
  refine ja_sld (k := i + 2) hx hb hX hbl hbA hS (by omega) (by omega) d_L_law_1067 ?_
  obtain ⟨hPX, hPm⟩ := ap_P hP
  obtain ⟨hDX, hDm⟩ := ap_D hD
  obtain ⟨fsR, hrec⟩ := mI_recv hm
  have hFm := fr_R hD hS
  refine va_calll (va_runV (As := [.int (xs (i + 1)), .int (xs (i + 2))]) (rest := []) ⟨hx, hb, hml, hown, htB⟩ (s_M_about l g s.heap.size _ mo σ th wm hm (xs (i + 1)) (xs (i + 2))) (cwV 2 htB (gV kw_630 kw_631 kw_632 kw_3 g_M_about) rfl rfl rfl (by decide +kernel) ⟨Nat.le_of_ble_eq_true rfl, Nat.le_of_ble_eq_true rfl⟩) (pre_V hS hz ha (va_recv ha.1 hPm (ci := 3) (q0 := 0) rfl hrec) ⟨hPm, hDm⟩) rfl rfl hl.1 rfl (lv_room (Nat.le_of_ble_eq_true rfl)) d_L_law_1068 ⟨by show cc + 2 + 0 ≤ 601024; omega, by show sc + 12 + 0 ≤ 7293033; omega⟩) hS (fun q _ h => hFm q h) hFm (fun r2 wm t H1 locs ht hvm hw hB hz1 hk1 hS => ?_)
  obtain ⟨hm, hP1, hD1⟩ := hB
  rw [ht] at hP1
  obtain ⟨hP, hD⟩ := jn2 hP hD hk1 hFm hP1 hD1
  clear hPX hPm hDX hDm hFm hk1 hz1 hvm ht hP1 hD1
  generalize H1 = H at hP hS ⊢
  refine lv_lstore (lv' := [(6, .long (r2)), (5, .int (nI (s_about σ (xs (i + 1)) (xs (i + 2))).1)), (0, .ref b), (1, .ref h), (2, .ref mo), (3, .ref ou), (4, .int (nI (i)))]) hx hb d_L_law_1071 hl (by decide) rfl (fun ls hl => ?_)
  refine lv_aload_n hx hb d_L_law_1073 rfl (lv_at hl 4 rfl) ?_
  obtain ⟨hPX, hPm⟩ := ap_P hP
  obtain ⟨hDX, hDm⟩ := ap_D hD
  obtain ⟨fsR, hrec⟩ := mI_recv hm
  refine va_calli (va_runV (As := []) (rest := []) ⟨hx, hb, hml, hown, htB⟩ (s_M_thrown l g s.heap.size _ mo _ _ _ hm) (cwV 0 htB (gV kw_501 kw_502 kw_503 kw_3 g_M_thrown) rfl rfl rfl (by decide +kernel) ⟨Nat.le_of_ble_eq_true rfl, Nat.le_of_ble_eq_true rfl⟩) (pre_V hS hz ha (va_recv ha.1 hPm (ci := 3) (q0 := 0) rfl hrec) ⟨hPm, hDm⟩) rfl rfl hl.1 rfl (lv_room (Nat.le_of_ble_eq_true rfl)) d_L_law_1074 ⟨by show cc + 2 + 0 ≤ 601024; omega, by show sc + 12 + 0 ≤ 7293033; omega⟩) hS (fun q _ h => h.elim) (fun q h => h.elim) (fun r3 u t H1 locs ht hvm hw hB hz1 hk1 hS => ?_)
  obtain rfl := hB.symm.trans ht
  subst hw
  refine lv_iload hx hb d_L_law_1077 (lv_at hl 1 rfl) ?_
  refine lv_icmp_eq (tgt := 1084) hx hb d_L_law_1079 (by decide) (fun c_1 => ?_) (fun c_1 => absurd c_1 (fun q => q rfl))
  refine lv_iload hx hb d_L_law_1084 (lv_at hl 1 rfl) ?_
  refine lv_if_ne (tgt := 1100) hx hb d_L_law_1086 (by decide) (fun c_2 => ?_) (fun c_2 => ?_)
  · refine lv_goto (tgt := 1116) hx hb d_L_law_1100 (by decide) ?_
    exact W.widen (k := cc + 6) (n := sc + 158) (by omega) (by omega) (K _ _ _ _ _ _ _ _ ⟨hj', hm, hP, hD, hS⟩ (lv_sub hl [2, 3, 4, 5, 6] rfl))
  · refine lv_aload_n hx hb d_L_law_1089 rfl (lv_at hl 5 rfl) ?_
    refine lv_iconst (v := (nI (0))) hx hb d_L_law_1090 (by decide) ?_
    refine ja_lald (k := 0) hx hb ha.1 hP 0 1 rfl rfl (by decide) (by decide) d_L_law_1091 ?_
    refine lv_lload hx hb d_L_law_1092 (lv_at hl 0 rfl) ?_
    refine W.lcmp hx hb d_L_law_1094 ?_
    refine lv_if_eq (tgt := 1100) hx hb d_L_law_1095 (by decide) (fun c_3 => ?_) (fun c_3 => absurd c_3 (fun q => q ((lg_cmp_eq _ _).mpr ((hans (code_0 hc4 c_2)).trans (hw (code_0 hc4 c_2))))))
    refine lv_goto (tgt := 1116) hx hb d_L_law_1100 (by decide) ?_
    exact W.widen (k := cc + 6) (n := sc + 158) (by omega) (by omega) (K _ _ _ _ _ _ _ _ ⟨hj', hm, hP, hD, hS⟩ (lv_sub hl [2, 3, 4, 5, 6] rfl))
set_option maxHeartbeats 4000000 in
set_option maxRecDepth 100000 in
theorem lc_first {p : Program} {l : Launch} {e : Env} {s : State} {m : MethodId} {below : List Frame} {meth : Method} {c : Code} {b L : Nat} {xs : Nat → Int32} (hlt : l.stackTraces = false) (C0 : lw_At p s m meth c b L xs) {g : gT} (ha : aM g s.heap.size s) (hnc : nC s) {h mo ou i cc sc : Nat} (hi : i + 8 ≤ L) (hL : L ≤ 4096) (hcc : cc + 6 ≤ 601024) (hsc : sc + 158 ≤ 7293033) (K : lK p l e s m below meth c b g h mo ou i (cc + 6) (sc + 158)) {σ : sT} {th : Nat} {wj wm : va_W} {fo : Nat → Int64} {H : Heap} {locs : List Loc} {ls : Array Slot} (hI : lI g s h mo ou σ th wj wm fo H locs) (hl : lv_has ls 8 [(0, .ref b), (1, .ref h), (2, .ref mo), (3, .ref ou), (4, .int (nI i))]) : W p l e room_1 s m #[Value.ref b] below meth c H locs cc sc (lw_Z below #[Value.ref b] s) (F0 m 1103 ls []) := by
  obtain ⟨hx, hb, hr, hml, hown, hts, hX, hbl, hlocks, hgv⟩ := id C0
  have hbA : ¬ zA s.heap.size b := Nat.not_le.mpr hbl
  have htB : ∀ w ∈ tB, w.before #[Value.ref b] s = true := fun w h => hts w (tB_in h)
  have hz : ∀ q, zA s.heap.size q → s.heap.size ≤ q := fun _ h => h
  have hown : s.vm.findClass R_L = some m.cls := hown
  have hb : c.code = c_L_law := hb
  obtain ⟨hj, hm, hP, hD, hS⟩ := hI
  refine lv_aload_n hx hb d_L_law_1103 rfl (lv_at hl 1 rfl) ?_
  obtain ⟨hPX, hPm⟩ := ap_P hP
  obtain ⟨hDX, hDm⟩ := ap_D hD
  obtain ⟨fsR, hrec⟩ := jI_recv hj
  refine va_calli (va_runV (As := []) (rest := []) ⟨hx, hb, hml, hown, htB⟩ (s_J_first l g s.heap.size _ h σ wj hj) (cwV 0 htB (gV kw_83 kw_84 kw_85 kw_1 g_J_first) rfl rfl rfl (by decide +kernel) ⟨Nat.le_of_ble_eq_true rfl, Nat.le_of_ble_eq_true rfl⟩) (pre_V hS hz ha (va_recv ha.1 (tl_P hPX) (ci := 1) (q0 := 0) rfl hrec) ⟨tl_P hPX, tl_D hDX⟩) rfl rfl hl.1 rfl (lv_room (Nat.le_of_ble_eq_true rfl)) d_L_law_1104 ⟨by show cc + 0 ≤ 601024; omega, by show sc + 0 ≤ 7293033; omega⟩) hS (fun q _ h => h.elim) (fun q h => h.elim) (fun r1 u t H1 locs ht hvm hw hB hz1 hk1 hS => ?_)
  obtain rfl := hB.symm.trans ht
  have hf1 := hw
  clear hPX hPm hDX hDm hw hk1 hz1 hvm ht hB
  refine lv_aload_n hx hb d_L_law_1107 rfl (lv_at hl 2 rfl) ?_
  obtain ⟨hPX, hPm⟩ := ap_P hP
  obtain ⟨hDX, hDm⟩ := ap_D hD
  obtain ⟨fsR, hrec⟩ := mI_recv hm
  have hFm := fr_R hD hS
  refine va_calli (va_runV (As := []) (rest := [.int (r1)]) ⟨hx, hb, hml, hown, htB⟩ (s_M_first l g s.heap.size _ mo σ th wm hm ) (cwV 0 htB (gV kw_634 kw_635 kw_636 kw_3 g_M_first) rfl rfl rfl (by decide +kernel) ⟨Nat.le_of_ble_eq_true rfl, Nat.le_of_ble_eq_true rfl⟩) (pre_V hS hz ha (va_recv ha.1 hPm (ci := 3) (q0 := 0) rfl hrec) ⟨hPm, hDm⟩) rfl rfl hl.1 rfl (lv_room (Nat.le_of_ble_eq_true rfl)) d_L_law_1108 ⟨by show cc + 0 ≤ 601024; omega, by show sc + 0 ≤ 7293033; omega⟩) hS (fun q _ h => hFm q h) hFm (fun r2 wm t H1 locs ht hvm hw hB hz1 hk1 hS => ?_)
  obtain ⟨hm, hP1, hD1⟩ := hB
  rw [ht] at hP1
  obtain ⟨hP, hD⟩ := jn2 hP hD hk1 hFm hP1 hD1
  clear hPX hPm hDX hDm hFm hk1 hz1 hvm ht hP1 hD1
  generalize H1 = H at hP hS ⊢
  have hf2 := hw
  refine lv_icmp_eq (tgt := 1116) hx hb d_L_law_1111 (by decide) (fun c_1 => ?_) (fun c_1 => absurd c_1 (fun q => q (fiR_det hf1 hf2)))
  exact W.widen (k := cc + 6) (n := sc + 158) (by omega) (by omega) (K _ _ _ _ _ _ _ _ ⟨hj, hm, hP, hD, hS⟩ (lv_sub hl [0, 1, 2, 3, 4] rfl))
