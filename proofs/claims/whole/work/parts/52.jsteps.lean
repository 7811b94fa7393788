/-! The class's writing calls as steps of the state. -/
theorem pm2 {α : Type} {C Xa C2 P N R K : List α} (hC : C.Perm (Xa ++ C2)) (hP : P.Perm (N ++ R)) : (C ++ (P ++ K)).Perm ((Xa ++ N) ++ (C2 ++ (R ++ K))) := by
  haveI : DecidableEq α := fun a b => Classical.propDecidable (a = b)
  rw [List.perm_iff_count]
  intro a
  have h1 := hC.count_eq a
  have h2 := hP.count_eq a
  simp only [List.count_append] at h1 h2 ⊢
  omega
theorem pm3 {α : Type} {C Xa C2 P N R K K2 M : List α} (hC : C.Perm (Xa ++ C2)) (hP : P.Perm (N ++ R)) (hK : K2.Perm (K ++ M)) : (C ++ (P ++ K2)).Perm (((Xa ++ N) ++ M) ++ (C2 ++ (R ++ K))) := by
  haveI : DecidableEq α := fun a b => Classical.propDecidable (a = b)
  rw [List.perm_iff_count]
  intro a
  have h1 := hC.count_eq a
  have h2 := hP.count_eq a
  have h3 := hK.count_eq a
  simp only [List.count_append] at h1 h2 h3 ⊢
  omega
theorem pmN {α : Type} {C Xa C2 P P2 N K : List α} (hC : C.Perm (Xa ++ C2)) (hP : P2.Perm (N ++ P)) : (C ++ (P2 ++ K)).Perm ((Xa ++ N) ++ (C2 ++ (P ++ K))) := pm2 hC hP
theorem vu_eq {α : Type} {f : Nat → α} {k : Nat} {v : α} : va_up f k v k = v := if_pos rfl
theorem vu_ne {α : Type} {f : Nat → α} {k j : Nat} {v : α} (h : j ≠ k) : va_up f k v j = f j := if_neg h
theorem pX_new {g : gT} {PA PB : Nat → Nat} {PF : Nat → Nat → Int32} {PL : Nat → List Bx} {n a b : Nat} {f : Nat → Int32} {L : List Bx} : (pX g (va_up PA n a) (va_up PB n b) (va_up PF n f) (va_up PL n L) (List.range (n + 1))).Perm ([(a, .inr (0, [.ref b, .int (nI L.length)])), (b, eI g 144 f)] ++ pX g PA PB PF PL (List.range n)) := by
  unfold pX
  rw [List.range_succ, List.flatMap_append]
  refine List.perm_append_comm.trans (List.Perm.append ?_ ?_)
  · rw [List.flatMap_cons, List.flatMap_nil, List.append_nil]
    unfold pC; rw [vu_eq, vu_eq, vu_eq, vu_eq]
  · have := pX_congr (g := g) (PA := va_up PA n a) (PA' := PA) (PB := va_up PB n b) (PB' := PB) (PF := va_up PF n f) (PF' := PF) (PL := va_up PL n L) (PL' := PL) (I := List.range n) (fun j hj => by
      have := List.mem_range.mp hj
      exact ⟨vu_ne (by omega), vu_ne (by omega), vu_ne (by omega), vu_ne (by omega)⟩)
    unfold pX at this; rw [this]
theorem er_ne {n i j : Nat} (h : i ∈ (List.range n).erase j) : i ≠ j ∧ i < n := by
  have := (List.nodup_range (n := n)).mem_erase_iff.mp h
  exact ⟨this.1, List.mem_range.mp this.2⟩
theorem pX_upd {g : gT} {PA PB : Nat → Nat} {PF : Nat → Nat → Int32} {PL : Nat → List Bx} {n j : Nat} {f : Nat → Int32} {L : List Bx} (hj : j < n) : (pX g PA PB (va_up PF j f) (va_up PL j L) (List.range n)).Perm ([(PA j, .inr (0, [.ref (PB j), .int (nI L.length)])), (PB j, eI g 144 f)] ++ pX g PA PB PF PL ((List.range n).erase j)) := by
  refine (pX_at (List.mem_range.mpr hj)).trans (List.Perm.append ?_ ?_)
  · unfold pC; rw [vu_eq, vu_eq]
  · rw [pX_congr (fun i hi => ⟨rfl, rfl, vu_ne (er_ne hi).1, vu_ne (er_ne hi).1⟩)]
theorem er2 {n ja jb : Nat} (hb : jb < n) (hne : ja ≠ jb) : jb ∈ (List.range n).erase ja := (List.nodup_range (n := n)).mem_erase_iff.mpr ⟨hne.symm, List.mem_range.mpr hb⟩
theorem er2_ne {n i ja jb : Nat} (h : i ∈ ((List.range n).erase ja).erase jb) : i ≠ ja ∧ i ≠ jb := by
  have h1 := ((List.nodup_range (n := n)).erase ja).mem_erase_iff.mp h
  exact ⟨(er_ne h1.2).1, h1.1⟩
theorem pX_two {g : gT} {PA PB : Nat → Nat} {PF : Nat → Nat → Int32} {PL : Nat → List Bx} {n ja jb : Nat} (ha : ja < n) (hb : jb < n) (hne : ja ≠ jb) : (pX g PA PB PF PL (List.range n)).Perm ((pC g PA PB PF PL ja ++ pC g PA PB PF PL jb) ++ pX g PA PB PF PL (((List.range n).erase ja).erase jb)) := by
  refine (pX_at (List.mem_range.mpr ha)).trans ?_
  rw [List.append_assoc]
  exact List.Perm.append_left _ (pX_at (er2 hb hne))
theorem pX_two' {g : gT} {PA PB : Nat → Nat} {PF : Nat → Nat → Int32} {PL : Nat → List Bx} {n ja jb : Nat} {f1 f2 : Nat → Int32} {L1 L2 : List Bx} (ha : ja < n) (hb : jb < n) (hne : ja ≠ jb) : (pX g PA PB (va_up (va_up PF ja f1) jb f2) (va_up (va_up PL ja L1) jb L2) (List.range n)).Perm (([(PA ja, .inr (0, [.ref (PB ja), .int (nI L1.length)])), (PB ja, eI g 144 f1)] ++ [(PA jb, .inr (0, [.ref (PB jb), .int (nI L2.length)])), (PB jb, eI g 144 f2)]) ++ pX g PA PB PF PL (((List.range n).erase ja).erase jb)) := by
  refine (pX_two ha hb hne).trans (List.Perm.append ?_ ?_)
  · unfold pC; rw [vu_ne hne, vu_ne hne, vu_eq, vu_eq, vu_eq, vu_eq]
  · rw [pX_congr (fun i hi => ⟨rfl, rfl, (vu_ne (er2_ne hi).2).trans (vu_ne (er2_ne hi).1), (vu_ne (er2_ne hi).2).trans (vu_ne (er2_ne hi).1)⟩)]
theorem kX_new {KA : Nat → Nat} {KT : Nat → kT} {n a : Nat} {t : kT} : (kX (va_up KA n a) (va_up KT n t) (List.range (n + 1))).Perm (kX KA KT (List.range n) ++ [(a, kE t)]) := by
  unfold kX
  rw [List.range_succ, List.map_append]
  refine List.Perm.append ?_ ?_
  · have := kX_congr (KA := va_up KA n a) (KA' := KA) (KT := va_up KT n t) (KT' := KT) (I := List.range n) (fun j hj => by
      have := List.mem_range.mp hj
      exact ⟨vu_ne (by omega), vu_ne (by omega)⟩)
    unfold kX at this; rw [this]
  · rw [List.map_cons, List.map_nil, vu_eq, vu_eq]
theorem out_le {v : Int32} {n : Nat} : (v < 0 ∨ ¬ v ≤ nI n) ↔ outI v (nI 0) (nI n) := by
  show _ ↔ (v < nI 0 ∨ nI n < v)
  rw [Int32.not_le]; exact Iff.rfl
theorem cl_in {v : Int32} (h : ¬ outI v (nI 0) (nI 100)) : 0 ≤ v.toInt ∧ v.toInt ≤ 100 := by
  rw [out_Int, nI_Int (by decide), nI_Int (by decide)] at h; omega
theorem any_mt {L : List Bx} {T : Bx} : L.any (fun b => decide (mt b T)) = true ↔ ∃ b ∈ L, mt b T := by
  rw [List.any_eq_true]
  exact ⟨fun ⟨b, h1, h2⟩ => ⟨b, h1, of_decide_eq_true h2⟩, fun ⟨b, h1, h2⟩ => ⟨b, h1, decide_eq_true h2⟩⟩
set_option maxHeartbeats 4000000 in
set_option maxRecDepth 100000 in
theorem s_J_clear (l : Launch) (hlt : l.stackTraces = false) (g : gT) (z : Nat) (H0 : Heap) (h : Nat) (σ : sT) (ws : va_W) (hj : jI g h σ ws) (v : Int32) : vx_Met l y_J_clear w_J_clear ({ frames := 6, cells := 1, slots := 6, locals := 82 }) (va_Pc [.ref h, .int v] (jPre g z H0 ws)) (jQv g h ws H0 (s_clear σ v).2.2 ((s_clear σ v).1 = 0)) (jX g h ws H0 (s_clear σ v) eA1) 1 6 (va_A ws H0.size) := by
  obtain ⟨fs, ad, gp, gk, sk, nn, ff, PA, PB, PF, KA, hw, hfs, hR, hO⟩ := id hj
  obtain ⟨hlen, hf0, hf1, hf2, hf3, hf4, hf5, hf6, hf7, hf8, hf9, hf10, hf11, hf12, hf13⟩ := hfs
  subst hw
  have hp := pm2 (P := pX g PA PB PF σ.2.2.1 (List.range σ.1)) (N := []) (R := pX g PA PB PF σ.2.2.1 (List.range σ.1)) (K := kX KA σ.2.2.2.2.2.2 (List.range σ.2.2.2.2.2.1)) (perm_ix (ws := jC g h fs ad gp gk sk σ.2.2.2.2.1 nn ff) (ws' := [(h, .inr (1, fs))] ++ [(ad 0, ePS g 8 gp), (ad 1, eI g 48 sk), (ad 2, ePK g 12 gk), (ad 3, eI g 5 σ.2.2.2.2.1), (ad 4, .inr (0, [.ref (ad 5), .int (nI (nn 1))])), (ad 5, eI g 144 (ff 5)), (ad 6, .inr (0, [.ref (ad 7), .int (nI (nn 2))])), (ad 7, eI g 144 (ff 6)), (ad 8, .inr (0, [.ref (ad 9), .int (nI (nn 0))])), (ad 9, eI g 144 (ff 2)), (ad 10, eI g 6 (ff 0)), (ad 11, eI g 6 (ff 1)), (ad 12, eI g 6 (ff 3)), (ad 13, eI g 9 (ff 4))]) [0, 1, 2, 3, 4, 5, 6, 7, 8, 9, 10, 11, 12, 13, 14] (show ([0, 1, 2, 3, 4, 5, 6, 7, 8, 9, 10, 11, 12, 13, 14] : List Nat).Perm (List.range 15) from by decide) rfl).symm (List.Perm.refl _)
  by_cases hb : outI v (nI 0) (nI 100)
  · rw [show s_clear σ v = (1, 0, σ) from if_pos hb]
    exact wr_v (m_J_clear l hlt g z H0 h fs v) hp hlen (fun u hu => absurd (out_le.mpr hb) hu) (xk_st hj rfl (fun E e => ⟨e.1, rfl⟩))
  · rw [show s_clear σ v = (0, 0, σ.1, σ.2.1, σ.2.2.1, v, σ.2.2.2.2) from if_neg hb]
    refine wr_v (m_J_clear l hlt g z H0 h fs v) hp hlen (fun u hu => ⟨rfl, _, ?_, fs.set 6 (.int v), ad, gp, gk, sk, nn, ff, PA, PB, PF, KA, rfl, ⟨glen hlen, gset_ne (by decide) hf0, gset_ne (by decide) hf1, gset_ne (by decide) hf2, gset_ne (by decide) hf3, gset_ne (by decide) hf4, gset_ne (by decide) hf5, gset_eq hlen (by decide), gset_ne (by decide) hf7, gset_ne (by decide) hf8, gset_ne (by decide) hf9, gset_ne (by decide) hf10, gset_ne (by decide) hf11, gset_ne (by decide) hf12, gset_ne (by decide) hf13⟩, hR, hO.1, hO.2.1, cl_in hb, hO.2.2.2⟩) (fun E s t _ _ _ ⟨_, _, ⟨⟨_, e⟩, _⟩, _⟩ => absurd (out_le.mp e) hb)
    exact pm2 (N := []) (perm_ix (ws := jC g h (fs.set 6 (.int v)) ad gp gk sk σ.2.2.2.2.1 nn ff) (ws' := [(h, .inr (1, fs.set 6 (.int v)))] ++ [(ad 0, ePS g 8 gp), (ad 1, eI g 48 sk), (ad 2, ePK g 12 gk), (ad 3, eI g 5 σ.2.2.2.2.1), (ad 4, .inr (0, [.ref (ad 5), .int (nI (nn 1))])), (ad 5, eI g 144 (ff 5)), (ad 6, .inr (0, [.ref (ad 7), .int (nI (nn 2))])), (ad 7, eI g 144 (ff 6)), (ad 8, .inr (0, [.ref (ad 9), .int (nI (nn 0))])), (ad 9, eI g 144 (ff 2)), (ad 10, eI g 6 (ff 0)), (ad 11, eI g 6 (ff 1)), (ad 12, eI g 6 (ff 3)), (ad 13, eI g 9 (ff 4))]) [0, 1, 2, 3, 4, 5, 6, 7, 8, 9, 10, 11, 12, 13, 14] (show ([0, 1, 2, 3, 4, 5, 6, 7, 8, 9, 10, 11, 12, 13, 14] : List Nat).Perm (List.range 15) from by decide) rfl).symm (List.Perm.refl _)
set_option maxHeartbeats 4000000 in
set_option maxRecDepth 100000 in
theorem s_J_row (l : Launch) (hlt : l.stackTraces = false) (g : gT) (z : Nat) (H0 : Heap) (h : Nat) (σ : sT) (ws : va_W) (hj : jI g h σ ws) (kv v : Int32) : vx_Met l y_J_row w_J_row ({ frames := 7, cells := 2, slots := 12, locals := 102 }) (va_Pc [.ref h, .int kv, .int v] (jPre g z H0 ws)) (jQv g h ws H0 (s_row σ kv v).2.2 ((s_row σ kv v).1 = 0)) (jX g h ws H0 (s_row σ kv v) ec2) 2 12 (va_A ws H0.size) := by
  obtain ⟨fs, ad, gp, gk, sk, nn, ff, PA, PB, PF, KA, hw, hfs, hR, hO⟩ := id hj
  obtain ⟨hlen, hf0, hf1, hf2, hf3, hf4, hf5, hf6, hf7, hf8, hf9, hf10, hf11, hf12, hf13⟩ := hfs
  subst hw
  have hp := pm2 (P := pX g PA PB PF σ.2.2.1 (List.range σ.1)) (N := []) (R := pX g PA PB PF σ.2.2.1 (List.range σ.1)) (K := kX KA σ.2.2.2.2.2.2 (List.range σ.2.2.2.2.2.1)) (perm_ix (ws := jC g h fs ad gp gk sk σ.2.2.2.2.1 nn ff) (ws' := [(h, .inr (1, fs)), (ad 3, eI g 5 σ.2.2.2.2.1)] ++ [(ad 0, ePS g 8 gp), (ad 1, eI g 48 sk), (ad 2, ePK g 12 gk), (ad 4, .inr (0, [.ref (ad 5), .int (nI (nn 1))])), (ad 5, eI g 144 (ff 5)), (ad 6, .inr (0, [.ref (ad 7), .int (nI (nn 2))])), (ad 7, eI g 144 (ff 6)), (ad 8, .inr (0, [.ref (ad 9), .int (nI (nn 0))])), (ad 9, eI g 144 (ff 2)), (ad 10, eI g 6 (ff 0)), (ad 11, eI g 6 (ff 1)), (ad 12, eI g 6 (ff 3)), (ad 13, eI g 9 (ff 4))]) [0, 4, 1, 2, 3, 5, 6, 7, 8, 9, 10, 11, 12, 13, 14] (show ([0, 4, 1, 2, 3, 5, 6, 7, 8, 9, 10, 11, 12, 13, 14] : List Nat).Perm (List.range 15) from by decide) rfl).symm (List.Perm.refl _)
  by_cases hk : noP kv 5
  · rw [show s_row σ kv v = (1, 0, σ) from if_pos hk]
    exact wr_v (m_J_row l hlt g z H0 h fs (ad 3) σ.2.2.2.2.1 kv v) hp hf5 (fun u ⟨j, hj5, e, _⟩ => absurd hk (by rw [e]; exact noP_in hj5 (by decide))) (xk_st hj rfl (fun E e => e.elim (fun e => Or.inl ⟨e.1, rfl⟩) (fun e => absurd hk e.2.1)))
  · by_cases hb : outI v (nI 0) (nI 10000)
    · rw [show s_row σ kv v = (2, 0, σ) from (if_neg hk).trans (if_pos hb)]
      exact wr_v (m_J_row l hlt g z H0 h fs (ad 3) σ.2.2.2.2.1 kv v) hp hf5 (fun u ⟨j, hj5, e, q, _⟩ => absurd (out_le.mpr hb) q) (xk_st hj rfl (fun E e => e.elim (fun e => absurd e.2 hk) (fun e => Or.inr ⟨e.1, rfl⟩)))
    · rw [show s_row σ kv v = (0, 0, σ.1, σ.2.1, σ.2.2.1, σ.2.2.2.1, upd σ.2.2.2.2.1 (nat32 kv) v, σ.2.2.2.2.2) from (if_neg hk).trans (if_neg hb)]
      refine wr_v (m_J_row l hlt g z H0 h fs (ad 3) σ.2.2.2.2.1 kv v) hp hf5 (fun u ⟨j, hj5, e, _, eu⟩ => ⟨rfl, _, ?_, fs, ad, gp, gk, sk, nn, ff, PA, PB, PF, KA, rfl, ⟨hlen, hf0, hf1, hf2, hf3, hf4, hf5, hf6, hf7, hf8, hf9, hf10, hf11, hf12, hf13⟩, hR, hO⟩) (fun E s t _ _ _ ⟨_, _, ⟨e, _⟩, _⟩ => e.elim (fun e => absurd e.2 hk) (fun e => absurd (out_le.mp e.2.2) hb))
      subst eu
      rw [e, nat_nI (by omega)]
      exact pm2 (N := []) (perm_ix (ws := jC g h fs ad gp gk sk (upd σ.2.2.2.2.1 j v) nn ff) (ws' := [(h, .inr (1, fs)), (ad 3, eI g 5 (upd σ.2.2.2.2.1 j v))] ++ [(ad 0, ePS g 8 gp), (ad 1, eI g 48 sk), (ad 2, ePK g 12 gk), (ad 4, .inr (0, [.ref (ad 5), .int (nI (nn 1))])), (ad 5, eI g 144 (ff 5)), (ad 6, .inr (0, [.ref (ad 7), .int (nI (nn 2))])), (ad 7, eI g 144 (ff 6)), (ad 8, .inr (0, [.ref (ad 9), .int (nI (nn 0))])), (ad 9, eI g 144 (ff 2)), (ad 10, eI g 6 (ff 0)), (ad 11, eI g 6 (ff 1)), (ad 12, eI g 6 (ff 3)), (ad 13, eI g 9 (ff 4))]) [0, 4, 1, 2, 3, 5, 6, 7, 8, 9, 10, 11, 12, 13, 14] (show ([0, 4, 1, 2, 3, 5, 6, 7, 8, 9, 10, 11, 12, 13, 14] : List Nat).Perm (List.range 15) from by decide) rfl).symm (List.Perm.refl _)
theorem gb_cpy {f g : Nat → Int32} {n j : Nat} (h : j ≠ n) : gb (va_cpy f g 0 (n * 6) 6) (6 * j) = gb g (6 * j) := by
  have e : ∀ i, i < 6 → va_cpy f g 0 (n * 6) 6 (6 * j + i) = g (6 * j + i) := fun i hi => if_neg (by omega)
  unfold gb
  rw [show va_cpy f g 0 (n * 6) 6 (6 * j) = g (6 * j) from e 0 (by decide), e 1 (by decide), e 2 (by decide), e 3 (by decide), e 4 (by decide), e 5 (by decide)]
theorem gb_cpy_at {f g : Nat → Int32} {n : Nat} : gb (va_cpy f g 0 (n * 6) 6) (6 * n) = gb f 0 := by
  have e : ∀ i, i < 6 → va_cpy f g 0 (n * 6) 6 (6 * n + i) = f (0 + i) := fun i hi => by
    unfold va_cpy; rw [if_pos (by omega)]; congr 1; omega
  unfold gb
  rw [show va_cpy f g 0 (n * 6) 6 (6 * n) = f (0 + 0) from e 0 (by decide), e 1 (by decide), e 2 (by decide), e 3 (by decide), e 4 (by decide), e 5 (by decide)]
theorem new_R {σ : sT} {gp gk : Nat → Option Nat} {sk t0 : Nat → Int32} {ff : Nat → Nat → Int32} {PA : Nat → Nat} {PF : Nat → Nat → Int32} {KA : Nat → Nat} {x y zz w hh dd : Int32} {a : Nat} (hR : jR σ gp gk sk ff PA PF KA) (h8 : σ.1 ≤ 8) (h : σ.1 < 8) : jR (σ.1 + 1, va_up σ.2.1 σ.1 (bx6 x y zz w hh dd), va_up σ.2.2.1 σ.1 [bx6 x y zz w hh dd], σ.2.2.2) (va_up gp σ.1 (some a)) gk (va_cpy (st6 t0 x y zz (x + w) (y + hh) (zz + dd)) sk 0 (σ.1 * 6) 6) (va_up ff 0 (st6 t0 x y zz (x + w) (y + hh) (zz + dd))) (va_up PA σ.1 a) (va_up PF σ.1 (adB (fun _ => nI 0) 0 (st6 t0 x y zz (x + w) (y + hh) (zz + dd)) 0)) KA := by
  obtain ⟨r1, r2, r3, r4, r5, r6, r7⟩ := hR
  refine ⟨fun j hj => ?_, fun j h1 h2 => ?_, r3, r4, fun j hj => ?_, fun j hj => ?_, r7⟩
  · by_cases e : j = σ.1
    · rw [e, vu_eq, vu_eq]
    · rw [vu_ne e, vu_ne e]; exact r1 j (by have : j < σ.1 + 1 := hj; omega)
  · have h1 : σ.1 + 1 ≤ j := h1
    rw [vu_ne (by omega)]; exact r2 j (by omega) h2
  · show gb _ _ = va_up σ.2.1 σ.1 _ j
    by_cases e : j = σ.1
    · rw [e, vu_eq, gb_cpy_at]; rfl
    · rw [vu_ne e, gb_cpy e]; exact r5 j (by have : j < σ.1 + 1 := hj; omega)
  · show sR _ (va_up σ.2.2.1 σ.1 _ j).length (va_up σ.2.2.1 σ.1 _ j)
    by_cases e : j = σ.1
    · rw [e, vu_eq, vu_eq]
      have := (adB_app (n := 0) (fb := fun _ => nI 0) (L := []) ⟨rfl, fun _ => rfl⟩ (st6 t0 x y zz (x + w) (y + hh) (zz + dd)) 0)
      exact ⟨rfl, (show 1 ≤ 24 by decide), this.2 (by decide)⟩
    · rw [vu_ne e, vu_ne e]; exact r6 j (by have : j < σ.1 + 1 := hj; omega)
theorem new_ok {σ : sT} {T : Bx} (hO : sOk σ) (h : σ.1 < 8) (hT : okB T) : sOk (σ.1 + 1, va_up σ.2.1 σ.1 T, va_up σ.2.2.1 σ.1 [T], σ.2.2.2) := by
  obtain ⟨o1, o2, o3, o4, o5⟩ := hO
  refine ⟨(by show σ.1 + 1 ≤ 8; omega), o2, o3, fun j hj => ?_, fun q hq => ?_⟩
  · show okB (va_up σ.2.1 σ.1 T j) ∧ (va_up σ.2.2.1 σ.1 [T] j).length ≤ 24 ∧ okL (va_up σ.2.2.1 σ.1 [T] j)
    by_cases e : j = σ.1
    · rw [e, vu_eq, vu_eq]
      exact ⟨hT, (show 1 ≤ 24 by decide), fun b hb => by rw [List.mem_singleton.mp hb]; exact hT⟩
    · rw [vu_ne e, vu_ne e]; exact o4 j (by have : j < σ.1 + 1 := hj; omega)
  · obtain ⟨a, b, c, d⟩ := o5 q hq
    exact ⟨a, Nat.lt_succ_of_lt b, Nat.lt_succ_of_lt c, d⟩
set_option maxHeartbeats 4000000 in
set_option maxRecDepth 100000 in
theorem s_J_part (l : Launch) (hlt : l.stackTraces = false) (g : gT) (z : Nat) (H0 : Heap) (h : Nat) (σ : sT) (ws : va_W) (hj : jI g h σ ws) (x y zz w hh dd : Int32) : vx_Met l y_J_part w_J_part ({ frames := 7, cells := 4, slots := 158, locals := 105 }) (va_Pc [.ref h, .int x, .int y, .int zz, .int w, .int hh, .int dd] (jPre g z H0 ws)) (jQi g h ws H0 (s_part σ x y zz w hh dd).2.2 (fun rr => (s_part σ x y zz w hh dd).1 = 0 ∧ (s_part σ x y zz w hh dd).2.1 = rr.toInt64)) (jX g h ws H0 (s_part σ x y zz w hh dd) eA2) 4 158 (va_A ws H0.size) := by
  obtain ⟨fs, ad, gp, gk, sk, nn, ff, PA, PB, PF, KA, hw, hfs, hR, hO⟩ := id hj
  obtain ⟨hlen, hf0, hf1, hf2, hf3, hf4, hf5, hf6, hf7, hf8, hf9, hf10, hf11, hf12, hf13⟩ := hfs
  subst hw
  have hp := pm2 (P := pX g PA PB PF σ.2.2.1 (List.range σ.1)) (N := []) (R := pX g PA PB PF σ.2.2.1 (List.range σ.1)) (K := kX KA σ.2.2.2.2.2.2 (List.range σ.2.2.2.2.2.1)) (perm_ix (ws := jC g h fs ad gp gk sk σ.2.2.2.2.1 nn ff) (ws' := [(h, .inr (1, fs)), (ad 0, ePS g 8 gp), (ad 1, eI g 48 sk), (ad 10, eI g 6 (ff 0))] ++ [(ad 2, ePK g 12 gk), (ad 3, eI g 5 σ.2.2.2.2.1), (ad 4, .inr (0, [.ref (ad 5), .int (nI (nn 1))])), (ad 5, eI g 144 (ff 5)), (ad 6, .inr (0, [.ref (ad 7), .int (nI (nn 2))])), (ad 7, eI g 144 (ff 6)), (ad 8, .inr (0, [.ref (ad 9), .int (nI (nn 0))])), (ad 9, eI g 144 (ff 2)), (ad 11, eI g 6 (ff 1)), (ad 12, eI g 6 (ff 3)), (ad 13, eI g 9 (ff 4))]) [0, 1, 2, 11, 3, 4, 5, 6, 7, 8, 9, 10, 12, 13, 14] (show ([0, 1, 2, 11, 3, 4, 5, 6, 7, 8, 9, 10, 12, 13, 14] : List Nat).Perm (List.range 15) from by decide) rfl).symm (List.Perm.refl _)
  by_cases hb : bad6 (-1000) (nI 1000) x y zz w hh dd
  · rw [show s_part σ x y zz w hh dd = (1, 0, σ) from if_pos hb]
    exact wr_i (m_J_part l hlt g z H0 h fs (ad 0) (ad 1) (ad 10) σ.1 gp sk (ff 0) x y zz w hh dd) hp ⟨hlen, hf0, hf1, hf2, hf10, hO.1⟩ (fun rr u hu => absurd hb hu.1) (xk_st hj rfl (fun E e => e.elim (fun e => Or.inl ⟨e.1, rfl⟩) (fun e => absurd hb e.2.1)))
  · by_cases h8 : σ.1 = 8
    · rw [show s_part σ x y zz w hh dd = (2, 0, σ) from (if_neg hb).trans (if_pos h8)]
      exact wr_i (m_J_part l hlt g z H0 h fs (ad 0) (ad 1) (ad 10) σ.1 gp sk (ff 0) x y zz w hh dd) hp ⟨hlen, hf0, hf1, hf2, hf10, hO.1⟩ (fun rr u hu => absurd hu.2.1 (by omega)) (xk_st hj rfl (fun E e => e.elim (fun e => absurd e.2 hb) (fun e => Or.inr ⟨e.1, rfl⟩)))
    · rw [show s_part σ x y zz w hh dd = (0, (nI σ.1).toInt64, σ.1 + 1, va_up σ.2.1 σ.1 (bx6 x y zz w hh dd), va_up σ.2.2.1 σ.1 [bx6 x y zz w hh dd], σ.2.2.2) from (if_neg hb).trans (if_neg h8)]
      have hT : okB (bx6 x y zz w hh dd) := tool_ok hb (by decide) (by decide)
      refine wr_i (m_J_part l hlt g z H0 h fs (ad 0) (ad 1) (ad 10) σ.1 gp sk (ff 0) x y zz w hh dd) hp ⟨hlen, hf0, hf1, hf2, hf10, hO.1⟩ (fun rr u hu => ⟨⟨rfl, by rw [hu.2.2]⟩, _, ?_, fs.set 1 (.int (nI (σ.1 + 1))), ad, va_up gp σ.1 (some u.1), gk, va_cpy (st6 (ff 0) x y zz (x + w) (y + hh) (zz + dd)) sk 0 (σ.1 * 6) 6, nn, va_up ff 0 (st6 (ff 0) x y zz (x + w) (y + hh) (zz + dd)), va_up PA σ.1 u.1, va_up PB σ.1 u.2, va_up PF σ.1 (adB (fun _ => nI 0) 0 (st6 (ff 0) x y zz (x + w) (y + hh) (zz + dd)) 0), KA, rfl, ⟨glen hlen, gset_ne (by decide) hf0, gset_eq hlen (by decide), gset_ne (by decide) hf2, gset_ne (by decide) hf3, gset_ne (by decide) hf4, gset_ne (by decide) hf5, gset_ne (by decide) hf6, gset_ne (by decide) hf7, gset_ne (by decide) hf8, gset_ne (by decide) hf9, gset_ne (by decide) hf10, gset_ne (by decide) hf11, gset_ne (by decide) hf12, gset_ne (by decide) hf13⟩, ?_, ?_⟩) (fun E s t _ _ _ ⟨_, _, ⟨e, _⟩, _⟩ => e.elim (fun e => absurd e.2 hb) (fun e => absurd e.2.2 h8))
      · exact pmN (perm_ix (ws := jC g h (fs.set 1 (.int (nI (σ.1 + 1)))) ad (va_up gp σ.1 (some u.1)) gk (va_cpy (st6 (ff 0) x y zz (x + w) (y + hh) (zz + dd)) sk 0 (σ.1 * 6) 6) σ.2.2.2.2.1 nn (va_up ff 0 (st6 (ff 0) x y zz (x + w) (y + hh) (zz + dd)))) (ws' := [(h, .inr (1, fs.set 1 (.int (nI (σ.1 + 1))))), (ad 0, ePS g 8 (va_up gp σ.1 (some u.1))), (ad 1, eI g 48 (va_cpy (st6 (ff 0) x y zz (x + w) (y + hh) (zz + dd)) sk 0 (σ.1 * 6) 6)), (ad 10, eI g 6 (st6 (ff 0) x y zz (x + w) (y + hh) (zz + dd)))] ++ [(ad 2, ePK g 12 gk), (ad 3, eI g 5 σ.2.2.2.2.1), (ad 4, .inr (0, [.ref (ad 5), .int (nI (nn 1))])), (ad 5, eI g 144 (ff 5)), (ad 6, .inr (0, [.ref (ad 7), .int (nI (nn 2))])), (ad 7, eI g 144 (ff 6)), (ad 8, .inr (0, [.ref (ad 9), .int (nI (nn 0))])), (ad 9, eI g 144 (ff 2)), (ad 11, eI g 6 (ff 1)), (ad 12, eI g 6 (ff 3)), (ad 13, eI g 9 (ff 4))]) [0, 1, 2, 11, 3, 4, 5, 6, 7, 8, 9, 10, 12, 13, 14] (show ([0, 1, 2, 11, 3, 4, 5, 6, 7, 8, 9, 10, 12, 13, 14] : List Nat).Perm (List.range 15) from by decide) rfl).symm pX_new
      · exact new_R hR hO.1 hu.2.1
      · exact new_ok hO hu.2.1 hT
