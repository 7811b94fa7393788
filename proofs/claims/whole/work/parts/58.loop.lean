theorem st_205 {b : Nat} {s : State} (hts : ∀ w ∈ lw_tbl, w.before #[Value.ref b] s = true) (hs : ∀ c ∈ flatC (Jvm.Cond.and given_1 narrow_1), c.before #[Value.ref b] s = true) : ∃ a : Nat, vk_R "JointSolids" 205 "there is no such part" a s := by
  obtain ⟨a, c, cell, k, q1, -⟩ := Cond.exactly_spec (hs (Cond.exactly (.string "JointSolids" 205) "java/lang/String") (by decide +kernel))
  exact ⟨a, vk_R.of (hts _ kb_132) q1⟩
theorem st_225 {b : Nat} {s : State} (hts : ∀ w ∈ lw_tbl, w.before #[Value.ref b] s = true) (hs : ∀ c ∈ flatC (Jvm.Cond.and given_1 narrow_1), c.before #[Value.ref b] s = true) : ∃ a : Nat, vk_R "JointSolids" 225 "a place is too far away" a s := by
  obtain ⟨a, c, cell, k, q1, -⟩ := Cond.exactly_spec (hs (Cond.exactly (.string "JointSolids" 225) "java/lang/String") (by decide +kernel))
  exact ⟨a, vk_R.of (hts _ kb_195) q1⟩
theorem st_227 {b : Nat} {s : State} (hts : ∀ w ∈ lw_tbl, w.before #[Value.ref b] s = true) (hs : ∀ c ∈ flatC (Jvm.Cond.and given_1 narrow_1), c.before #[Value.ref b] s = true) : ∃ a : Nat, vk_R "JointSolids" 227 "a size is too small or too large" a s := by
  obtain ⟨a, c, cell, k, q1, -⟩ := Cond.exactly_spec (hs (Cond.exactly (.string "JointSolids" 227) "java/lang/String") (by decide +kernel))
  exact ⟨a, vk_R.of (hts _ kb_205) q1⟩
theorem st_64 {b : Nat} {s : State} (hts : ∀ w ∈ lw_tbl, w.before #[Value.ref b] s = true) (hs : ∀ c ∈ flatC (Jvm.Cond.and given_1 narrow_1), c.before #[Value.ref b] s = true) : ∃ a : Nat, vk_R "JointSolids" 64 "there is no room for a part more" a s := by
  obtain ⟨a, c, cell, k, q1, -⟩ := Cond.exactly_spec (hs (Cond.exactly (.string "JointSolids" 64) "java/lang/String") (by decide +kernel))
  exact ⟨a, vk_R.of (hts _ kb_215) q1⟩
theorem st_95 {b : Nat} {s : State} (hts : ∀ w ∈ lw_tbl, w.before #[Value.ref b] s = true) (hs : ∀ c ∈ flatC (Jvm.Cond.and given_1 narrow_1), c.before #[Value.ref b] s = true) : ∃ a : Nat, vk_R "JointSolids" 95 "there is no room for so many pieces" a s := by
  obtain ⟨a, c, cell, k, q1, -⟩ := Cond.exactly_spec (hs (Cond.exactly (.string "JointSolids" 95) "java/lang/String") (by decide +kernel))
  exact ⟨a, vk_R.of (hts _ kb_268) q1⟩
theorem st_99 {b : Nat} {s : State} (hts : ∀ w ∈ lw_tbl, w.before #[Value.ref b] s = true) (hs : ∀ c ∈ flatC (Jvm.Cond.and given_1 narrow_1), c.before #[Value.ref b] s = true) : ∃ a : Nat, vk_R "JointSolids" 99 "a clearance is 0 .. 100" a s := by
  obtain ⟨a, c, cell, k, q1, -⟩ := Cond.exactly_spec (hs (Cond.exactly (.string "JointSolids" 99) "java/lang/String") (by decide +kernel))
  exact ⟨a, vk_R.of (hts _ kb_276) q1⟩
theorem st_209 {b : Nat} {s : State} (hts : ∀ w ∈ lw_tbl, w.before #[Value.ref b] s = true) (hs : ∀ c ∈ flatC (Jvm.Cond.and given_1 narrow_1), c.before #[Value.ref b] s = true) : ∃ a : Nat, vk_R "JointSolids" 209 "there is no such kind" a s := by
  obtain ⟨a, c, cell, k, q1, -⟩ := Cond.exactly_spec (hs (Cond.exactly (.string "JointSolids" 209) "java/lang/String") (by decide +kernel))
  exact ⟨a, vk_R.of (hts _ kb_287) q1⟩
theorem st_211 {b : Nat} {s : State} (hts : ∀ w ∈ lw_tbl, w.before #[Value.ref b] s = true) (hs : ∀ c ∈ flatC (Jvm.Cond.and given_1 narrow_1), c.before #[Value.ref b] s = true) : ∃ a : Nat, vk_R "JointSolids" 211 "there is no such axis" a s := by
  obtain ⟨a, c, cell, k, q1, -⟩ := Cond.exactly_spec (hs (Cond.exactly (.string "JointSolids" 211) "java/lang/String") (by decide +kernel))
  exact ⟨a, vk_R.of (hts _ kb_291) q1⟩
theorem st_215 {b : Nat} {s : State} (hts : ∀ w ∈ lw_tbl, w.before #[Value.ref b] s = true) (hs : ∀ c ∈ flatC (Jvm.Cond.and given_1 narrow_1), c.before #[Value.ref b] s = true) : ∃ a : Nat, vk_R "JointSolids" 215 "both parts are one" a s := by
  obtain ⟨a, c, cell, k, q1, -⟩ := Cond.exactly_spec (hs (Cond.exactly (.string "JointSolids" 215) "java/lang/String") (by decide +kernel))
  exact ⟨a, vk_R.of (hts _ kb_295) q1⟩
theorem st_213 {b : Nat} {s : State} (hts : ∀ w ∈ lw_tbl, w.before #[Value.ref b] s = true) (hs : ∀ c ∈ flatC (Jvm.Cond.and given_1 narrow_1), c.before #[Value.ref b] s = true) : ∃ a : Nat, vk_R "JointSolids" 213 "a width is 1 .. 1000" a s := by
  obtain ⟨a, c, cell, k, q1, -⟩ := Cond.exactly_spec (hs (Cond.exactly (.string "JointSolids" 213) "java/lang/String") (by decide +kernel))
  exact ⟨a, vk_R.of (hts _ kb_299) q1⟩
theorem st_122 {b : Nat} {s : State} (hts : ∀ w ∈ lw_tbl, w.before #[Value.ref b] s = true) (hs : ∀ c ∈ flatC (Jvm.Cond.and given_1 narrow_1), c.before #[Value.ref b] s = true) : ∃ a : Nat, vk_R "JointSolids" 122 "there is no room for a joint more" a s := by
  obtain ⟨a, c, cell, k, q1, -⟩ := Cond.exactly_spec (hs (Cond.exactly (.string "JointSolids" 122) "java/lang/String") (by decide +kernel))
  exact ⟨a, vk_R.of (hts _ kb_300) q1⟩
theorem st_128 {b : Nat} {s : State} (hts : ∀ w ∈ lw_tbl, w.before #[Value.ref b] s = true) (hs : ∀ c ∈ flatC (Jvm.Cond.and given_1 narrow_1), c.before #[Value.ref b] s = true) : ∃ a : Nat, vk_R "JointSolids" 128 "the parts have no box in common" a s := by
  obtain ⟨a, c, cell, k, q1, -⟩ := Cond.exactly_spec (hs (Cond.exactly (.string "JointSolids" 128) "java/lang/String") (by decide +kernel))
  exact ⟨a, vk_R.of (hts _ kb_305) q1⟩
theorem st_134 {b : Nat} {s : State} (hts : ∀ w ∈ lw_tbl, w.before #[Value.ref b] s = true) (hs : ∀ c ∈ flatC (Jvm.Cond.and given_1 narrow_1), c.before #[Value.ref b] s = true) : ∃ a : Nat, vk_R "JointSolids" 134 "there is no room for so many slices" a s := by
  obtain ⟨a, c, cell, k, q1, -⟩ := Cond.exactly_spec (hs (Cond.exactly (.string "JointSolids" 134) "java/lang/String") (by decide +kernel))
  exact ⟨a, vk_R.of (hts _ kb_309) q1⟩
theorem st_165 {b : Nat} {s : State} (hts : ∀ w ∈ lw_tbl, w.before #[Value.ref b] s = true) (hs : ∀ c ∈ flatC (Jvm.Cond.and given_1 narrow_1), c.before #[Value.ref b] s = true) : ∃ a : Nat, vk_R "JointSolids" 165 "there is no such piece" a s := by
  obtain ⟨a, c, cell, k, q1, -⟩ := Cond.exactly_spec (hs (Cond.exactly (.string "JointSolids" 165) "java/lang/String") (by decide +kernel))
  exact ⟨a, vk_R.of (hts _ kb_367) q1⟩
theorem st_168 {b : Nat} {s : State} (hts : ∀ w ∈ lw_tbl, w.before #[Value.ref b] s = true) (hs : ∀ c ∈ flatC (Jvm.Cond.and given_1 narrow_1), c.before #[Value.ref b] s = true) : ∃ a : Nat, vk_R "JointSolids" 168 "there is no such number of a piece" a s := by
  obtain ⟨a, c, cell, k, q1, -⟩ := Cond.exactly_spec (hs (Cond.exactly (.string "JointSolids" 168) "java/lang/String") (by decide +kernel))
  exact ⟨a, vk_R.of (hts _ kb_368) q1⟩
theorem st_183 {b : Nat} {s : State} (hts : ∀ w ∈ lw_tbl, w.before #[Value.ref b] s = true) (hs : ∀ c ∈ flatC (Jvm.Cond.and given_1 narrow_1), c.before #[Value.ref b] s = true) : ∃ a : Nat, vk_R "JointSolids" 183 "a row is 0 .. 10000" a s := by
  obtain ⟨a, c, cell, k, q1, -⟩ := Cond.exactly_spec (hs (Cond.exactly (.string "JointSolids" 183) "java/lang/String") (by decide +kernel))
  exact ⟨a, vk_R.of (hts _ kb_414) q1⟩
theorem st_207 {b : Nat} {s : State} (hts : ∀ w ∈ lw_tbl, w.before #[Value.ref b] s = true) (hs : ∀ c ∈ flatC (Jvm.Cond.and given_1 narrow_1), c.before #[Value.ref b] s = true) : ∃ a : Nat, vk_R "JointSolids" 207 "there is no such joint" a s := by
  obtain ⟨a, c, cell, k, q1, -⟩ := Cond.exactly_spec (hs (Cond.exactly (.string "JointSolids" 207) "java/lang/String") (by decide +kernel))
  exact ⟨a, vk_R.of (hts _ kb_426) q1⟩
theorem st_203 {b : Nat} {s : State} (hts : ∀ w ∈ lw_tbl, w.before #[Value.ref b] s = true) (hs : ∀ c ∈ flatC (Jvm.Cond.and given_1 narrow_1), c.before #[Value.ref b] s = true) : ∃ a : Nat, vk_R "JointSolids" 203 "a joint has nothing such to tell" a s := by
  obtain ⟨a, c, cell, k, q1, -⟩ := Cond.exactly_spec (hs (Cond.exactly (.string "JointSolids" 203) "java/lang/String") (by decide +kernel))
  exact ⟨a, vk_R.of (hts _ kb_435) q1⟩
theorem nC_at {b : Nat} {s : State} (hs : ∀ c ∈ flatC (Jvm.Cond.and given_1 narrow_1), c.before #[Value.ref b] s = true) : nC s := ⟨va_Nc.of (hs (Cond.not (.castable "java/lang/IllegalStateException" "java/lang/IllegalArgumentException")) (by decide +kernel)), va_Nc.of (hs (Cond.not (.castable "java/lang/IllegalArgumentException" "java/lang/IndexOutOfBoundsException")) (by decide +kernel)), va_Nc.of (hs (Cond.not (.castable "java/lang/IllegalStateException" "java/lang/IndexOutOfBoundsException")) (by decide +kernel))⟩
theorem aM_at {b : Nat} {s : State} (hts : ∀ w ∈ lw_tbl, w.before #[Value.ref b] s = true) (hs : ∀ c ∈ flatC (Jvm.Cond.and given_1 narrow_1), c.before #[Value.ref b] s = true) : ∃ g : gT, aM g s.heap.size s := by
  have htB : ∀ w ∈ tB, w.before #[Value.ref b] s = true := fun w h => hts w (tB_in h)
  obtain ⟨c0, i0, k0⟩ := u_known (C := R_S) (T := F_S) (N := 2) (n := 2) htB in_S (htB _ kw_25)
  obtain ⟨c1, i1, k1⟩ := u_known (C := R_J) (T := F_J) (N := 14) (n := 14) htB in_J (htB _ kw_14)
  obtain ⟨c2, i2, k2⟩ := u_known (C := R_K) (T := F_K) (N := 6) (n := 6) htB in_K (htB _ kw_325)
  obtain ⟨c3, i3, k3⟩ := u_known (C := R_M) (T := F_M) (N := 19) (n := 19) htB in_M (htB _ kw_437)
  obtain ⟨aI, kI, mI9, fI, hI, hIk⟩ := Cond.arrayClass_spec (htB _ kw_39)
  obtain ⟨aL, kL, mL9, fL, hLc, hLk⟩ := Cond.arrayClass_spec (htB _ kw_500)
  obtain ⟨mS9, aSo, kS, s1, s2, s3, s4, s5⟩ := Cond.arrayOver_spec (hts _ kb_22)
  obtain ⟨mK9, aK, kK, t1, t2, t3, t4, t5⟩ := Cond.arrayOver_spec (hts _ kb_24)
  refine ⟨((fun k => if k = 0 then c0 else if k = 1 then c1 else if k = 2 then c2 else c3, fun k => if k = 0 then i0 else if k = 1 then i1 else if k = 2 then i2 else i3), aI, aL, aSo, aK), ⟨fun k q hq => ?_, fun k q hq => ?_⟩, fun w hw => va_Nw.of (nB_on w hw) (hts w (nB_tbl w hw)), ⟨List.forall_mem_cons.mpr ⟨st_205 hts hs, List.forall_mem_cons.mpr ⟨st_225 hts hs, List.forall_mem_cons.mpr ⟨st_227 hts hs, List.forall_mem_cons.mpr ⟨st_64 hts hs, List.forall_mem_cons.mpr ⟨st_95 hts hs, List.forall_mem_cons.mpr ⟨st_99 hts hs, List.forall_mem_cons.mpr ⟨st_209 hts hs, List.forall_mem_cons.mpr ⟨st_211 hts hs, List.forall_mem_cons.mpr ⟨st_215 hts hs, List.forall_mem_cons.mpr ⟨st_213 hts hs, List.forall_mem_cons.mpr ⟨st_122 hts hs, List.forall_mem_cons.mpr ⟨st_128 hts hs, List.forall_mem_cons.mpr ⟨st_134 hts hs, List.forall_mem_cons.mpr ⟨st_165 hts hs, List.forall_mem_cons.mpr ⟨st_168 hts hs, List.forall_mem_cons.mpr ⟨st_183 hts hs, List.forall_mem_cons.mpr ⟨st_207 hts hs, List.forall_mem_cons.mpr ⟨st_203 hts hs, fun _ h => absurd h List.not_mem_nil⟩⟩⟩⟩⟩⟩⟩⟩⟩⟩⟩⟩⟩⟩⟩⟩⟩⟩, va_AO.of (hts _ kb_22), va_AO.of (hts _ kb_24)⟩, ?_, ?_, Nat.le_refl _⟩
  · match k, hq with
    | 0, hq => cases hq; exact k0
    | 1, hq => cases hq; exact k1
    | 2, hq => cases hq; exact k2
    | 3, hq => cases hq; exact k3
    | k + 4, hq => simp [cls] at hq
  · match k, hq with
    | 0, hq => cases hq; exact ⟨fun n z => ⟨(fun k h => by cases h), kI, hI, mI9, hIk⟩, fI⟩
    | 1, hq => cases hq; exact ⟨fun n z => ⟨(fun k h => by cases h), kL, hLc, mL9, hLk⟩, fL⟩
    | 2, hq => cases hq; exact ⟨fun n z => ⟨(fun k h => by cases h), kS, s3, mS9, s4⟩, kS, mS9, s3, s4, s1, s5⟩
    | 3, hq => cases hq; exact ⟨fun n z => ⟨(fun k h => by cases h), kK, t3, mK9, t4⟩, kK, mK9, t3, t4, t1, t5⟩
    | k + 4, hq => simp [gY] at hq
  · exact vx_Zqof (hts _ kb_118) (htB _ kw_5) (hs (Cond.isRef (.static "java/lang/Throwable" "UNASSIGNED_STACK" "[Ljava/lang/StackTraceElement;")) (by decide +kernel)) (fun a h => Nat.not_le.mpr h)
  · exact vx_Zqof (hts _ kb_120) (htB _ kw_5) (hs (Cond.isRef (.static "java/lang/Throwable" "SUPPRESSED_SENTINEL" "Ljava/util/List;")) (by decide +kernel)) (fun a h => Nat.not_le.mpr h)
set_option maxHeartbeats 4000000 in
set_option maxRecDepth 100000 in
theorem law_loop {p : Program} {l : Launch} {e : Env} {s : State} {m : MethodId} {below : List Frame} {meth : Method} {c : Code} {b L : Nat} {xs : Nat → Int32} (hlt : l.stackTraces = false) (C0 : lw_At p s m meth c b L xs) {g : gT} (ha : aM g s.heap.size s) (hnc : nC s) (hL : L ≤ 4096) {h mo ou : Nat} : ∀ (n k : Nat), 8 * k ≤ L → 513 ≤ k + n → ∀ (σ : sT) (th : Nat) (wj wm : va_W) (fo : Nat → Int64) (H : Heap) (locs : List Loc) (ls : Array Slot), lI g s h mo ou σ th wj wm fo H locs → lv_has ls 8 [(0, .ref b), (1, .ref h), (2, .ref mo), (3, .ref ou), (4, .int (nI (8 * k)))] → W p l e room_1 s m #[Value.ref b] below meth c H locs (32 + 6 * k) (3167 + 158 * k) (lw_Z below #[Value.ref b] s) (F0 m 23 ls []) := by
  intro n
  induction n with
  | zero => intro k h1 h2; exact absurd h2 (by omega)
  | succ n ih =>
    intro k hk hn σ th wj wm fo H locs ls hI hl
    obtain ⟨hx, hb, hr, hml, hown, hts, hX, hbl, hlocks, hgv⟩ := id C0
    have hb9 : c.code = code := hb
    have hb : c.code = c_L_law := hb
    have hbA : ¬ zA s.heap.size b := Nat.not_le.mpr hbl
    have hS := hI.2.2.2.2
    have K : lK p l e s m below meth c b g h mo ou (8 * k) (32 + 6 * k + 6) (3167 + 158 * k + 158) ∨ ¬ 8 * k + 8 ≤ L := by
      by_cases h8 : 8 * k + 8 ≤ L
      · refine Or.inl (fun σ th wj wm fo H locs ls hI hl => ?_)
        refine lv_iinc (v := nI (8 * k + 8)) (lv' := [(4, .int (nI (8 * k + 8))), (0, .ref b), (1, .ref h), (2, .ref mo), (3, .ref ou)]) hx hb d_L_law_1116 hl (k := 4) rfl (nI_add _ 8) (by decide) rfl (fun ls hl => ?_)
        refine lv_goto (tgt := 23) hx hb d_L_law_1119 (by decide) ?_
        exact W.widen (k := 32 + 6 * (k + 1)) (n := 3167 + 158 * (k + 1)) (by omega) (by omega) (ih (k + 1) (by omega) (by omega) σ th wj wm fo H locs ls hI (lv_sub hl [1, 2, 3, 4, 0] rfl))
      · exact Or.inr h8
    refine lv_iload hx hb d_L_law_23 (lv_at hl 4 rfl) ?_
    refine lv_aload_n hx hb d_L_law_25 rfl (lv_at hl 0 rfl) ?_
    refine va_slen hx hb hX hbl hbA hS d_L_law_26 ?_
    refine lv_bipush (v := nI 8) hx hb d_L_law_27 (by decide) ?_
    refine lv_isub hx hb d_L_law_29 ?_
    refine lv_icmp_gt (tgt := 1122) hx hb d_L_law_30 (by decide) (fun c1 => ?_) (fun c1 => ?_)
    · refine lv_iconst (v := 1) hx hb d_L_law_1122 (by decide) ?_
      refine va_forget (fun q hq => hS.2.2 q hq) ?_
      refine W.widen (k := 601024) (n := 7293033) (by omega) (by omega) ?_
      exact lw_ret hx hb9 hr hlocks d_L_law_1123
    · have h8 : 8 * k + 8 ≤ L := lw_more hL (by omega) c1
      have K := K.resolve_right (fun q => q h8)
      refine lv_aload_n hx hb d_L_law_33 rfl (lv_at hl 0 rfl) ?_
      refine lv_iload hx hb d_L_law_34 (lv_at hl 4 rfl) ?_
      refine ja_sld (k := 8 * k) hx hb hX hbl hbA hS (by omega) (by omega) d_L_law_36 ?_
      refine lv_bipush (v := nI 15) hx hb d_L_law_37 (by decide) ?_
      refine lv_iand hx hb d_L_law_39 ?_
      obtain ⟨q, hq, eq⟩ := and15 (xs (8 * k))
      rw [eq]
      rcases (show q = 0 ∨ q = 1 ∨ q = 2 ∨ q = 3 ∨ q = 4 ∨ q = 5 ∨ q = 6 ∨ q = 7 ∨ q = 8 ∨ q = 9 ∨ q = 10 ∨ q = 11 ∨ q = 12 ∨ q = 13 ∨ q = 14 ∨ q = 15 by omega) with rfl | rfl | rfl | rfl | rfl | rfl | rfl | rfl | rfl | rfl | rfl | rfl | rfl | rfl | rfl | rfl
      · refine lv_tableIn (off := 72) (tgt := 112) hx hb d_L_law_40 (by decide) (by decide) rfl (by decide) ?_
        exact lc_part hlt C0 ha hnc h8 hL (by omega) (by omega) K hI hl
      · refine lv_tableIn (off := 190) (tgt := 230) hx hb d_L_law_40 (by decide) (by decide) rfl (by decide) ?_
        exact lc_cut hlt C0 ha hnc h8 hL (by omega) (by omega) K hI hl
      · refine lv_tableIn (off := 329) (tgt := 369) hx hb d_L_law_40 (by decide) (by decide) rfl (by decide) ?_
        exact lc_clear hlt C0 ha hnc h8 hL (by omega) (by omega) K hI hl
      · refine lv_tableIn (off := 365) (tgt := 405) hx hb d_L_law_40 (by decide) (by decide) rfl (by decide) ?_
        exact lc_joint hlt C0 ha hnc h8 hL (by omega) (by omega) K hI hl
      · refine lv_tableIn (off := 469) (tgt := 509) hx hb d_L_law_40 (by decide) (by decide) rfl (by decide) ?_
        exact lc_pieces hlt C0 ha hnc h8 hL (by omega) (by omega) K hI hl
      · refine lv_tableIn (off := 525) (tgt := 565) hx hb d_L_law_40 (by decide) (by decide) rfl (by decide) ?_
        exact lc_corner hlt C0 ha hnc h8 hL (by omega) (by omega) K hI hl
      · refine lv_tableIn (off := 605) (tgt := 645) hx hb d_L_law_40 (by decide) (by decide) rfl (by decide) ?_
        exact lc_volume hlt C0 ha hnc h8 hL (by omega) (by omega) K hI hl
      · refine lv_tableIn (off := 660) (tgt := 700) hx hb d_L_law_40 (by decide) (by decide) rfl (by decide) ?_
        exact lc_overlap hlt C0 ha hnc h8 hL (by omega) (by omega) K hI hl
      · refine lv_tableIn (off := 727) (tgt := 767) hx hb d_L_law_40 (by decide) (by decide) rfl (by decide) ?_
        exact lc_touch hlt C0 ha hnc h8 hL (by omega) (by omega) K hI hl
      · refine lv_tableIn (off := 794) (tgt := 834) hx hb d_L_law_40 (by decide) (by decide) rfl (by decide) ?_
        exact lc_has hlt C0 ha hnc h8 hL (by omega) (by omega) K hI hl
      · refine lv_tableIn (off := 893) (tgt := 933) hx hb d_L_law_40 (by decide) (by decide) rfl (by decide) ?_
        exact lc_row hlt C0 ha hnc h8 hL (by omega) (by omega) K hI hl
      · refine lv_tableIn (off := 941) (tgt := 981) hx hb d_L_law_40 (by decide) (by decide) rfl (by decide) ?_
        exact lc_strength hlt C0 ha hnc h8 hL (by omega) (by omega) K hI hl
      · refine lv_tableIn (off := 996) (tgt := 1036) hx hb d_L_law_40 (by decide) (by decide) rfl (by decide) ?_
        exact lc_about hlt C0 ha hnc h8 hL (by omega) (by omega) K hI hl
      · refine lv_tableIn (off := 1063) (tgt := 1103) hx hb d_L_law_40 (by decide) (by decide) rfl (by decide) ?_
        exact lc_first hlt C0 ha hnc h8 hL (by omega) (by omega) K hI hl
      · refine lv_tableOut (tgt := 1116) hx hb d_L_law_40 (by decide) (by decide) ?_
        exact W.widen (k := 32 + 6 * k + 6) (n := 3167 + 158 * k + 158) (by omega) (by omega) (K _ _ _ _ _ _ _ _ hI hl)
      · refine lv_tableOut (tgt := 1116) hx hb d_L_law_40 (by decide) (by decide) ?_
        exact W.widen (k := 32 + 6 * k + 6) (n := 3167 + 158 * k + 158) (by omega) (by omega) (K _ _ _ _ _ _ _ _ hI hl)
