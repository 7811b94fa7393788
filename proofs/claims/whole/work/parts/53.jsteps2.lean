theorem upd_R {σ : sT} {gp gk : Nat → Option Nat} {sk : Nat → Int32} {ff ff' : Nat → Nat → Int32} {PA : Nat → Nat} {PF : Nat → Nat → Int32} {KA : Nat → Nat} {j n : Nat} {f : Nat → Int32} {L : List Bx} (hR : jR σ gp gk sk ff PA PF KA) (h0 : ff' 4 0 = nI 0) (hL : sR f n L) : jR (σ.1, σ.2.1, va_up σ.2.2.1 j L, σ.2.2.2) gp gk sk ff' PA (va_up PF j f) KA := by
  obtain ⟨r1, r2, r3, r4, r5, r6, -⟩ := hR
  refine ⟨r1, r2, r3, r4, r5, fun i hi => ?_, h0⟩
  show sR (va_up PF j f i) (va_up σ.2.2.1 j L i).length (va_up σ.2.2.1 j L i)
  by_cases e : i = j
  · rw [e, vu_eq, vu_eq]; exact hL.1 ▸ hL
  · rw [vu_ne e, vu_ne e]; exact r6 i hi
theorem upd_ok {σ : sT} {j : Nat} {L : List Bx} (hO : sOk σ) (hl : L.length ≤ 24) (hL : okL L) : sOk (σ.1, σ.2.1, va_up σ.2.2.1 j L, σ.2.2.2) := by
  obtain ⟨o1, o2, o3, o4, o5⟩ := hO
  refine ⟨o1, o2, o3, fun i hi => ?_, o5⟩
  show okB (σ.2.1 i) ∧ (va_up σ.2.2.1 j L i).length ≤ 24 ∧ okL (va_up σ.2.2.1 j L i)
  obtain ⟨a, b, c⟩ := o4 i hi
  by_cases e : i = j
  · rw [e, vu_eq]; exact ⟨e ▸ a, hl, hL⟩
  · rw [vu_ne e]; exact ⟨a, b, c⟩
theorem scr_R {σ : sT} {gp gk : Nat → Option Nat} {sk : Nat → Int32} {ff ff' : Nat → Nat → Int32} {PA : Nat → Nat} {PF : Nat → Nat → Int32} {KA : Nat → Nat} (hR : jR σ gp gk sk ff PA PF KA) (h0 : ff' 4 0 = nI 0) : jR σ gp gk sk ff' PA PF KA := ⟨hR.1, hR.2.1, hR.2.2.1, hR.2.2.2.1, hR.2.2.2.2.1, hR.2.2.2.2.2.1, h0⟩
theorem sj_none {σ : sT} {kv av bv xv wv : Int32} {c : Nat} {r : Int32} (e : jF σ.1 σ.2.2.2.2.2.1 σ.2.1 σ.2.2.1 σ.2.2.2.1 kv av bv xv wv = (c, r, none)) : s_joint σ kv av bv xv wv = (c, r.toInt64, σ) := by unfold s_joint; rw [e]
theorem sj_some {σ : sT} {kv av bv xv wv : Int32} {c : Nat} {r : Int32} {LA LB : List Bx} (e : jF σ.1 σ.2.2.2.2.2.1 σ.2.1 σ.2.2.1 σ.2.2.2.1 kv av bv xv wv = (c, r, some (LA, LB))) : s_joint σ kv av bv xv wv = (c, r.toInt64, σ.1, σ.2.1, va_up (va_up σ.2.2.1 (nat32 av) LA) (nat32 bv) LB, σ.2.2.2.1, σ.2.2.2.2.1, σ.2.2.2.2.2.1 + 1, va_up σ.2.2.2.2.2.2 σ.2.2.2.2.2.1 (nat32 kv, nat32 av, nat32 bv, nat32 xv, sL vM (σ.2.2.1 (nat32 av)) - sL vM LA, sL vM (σ.2.2.1 (nat32 bv)) - sL vM LB)) := by unfold s_joint; rw [e]
theorem jF_g {np nj : Nat} {SK : Nat → Bx} {PL : Nat → List Bx} {cl : Int32} {kd ja jb k w : Nat} (hnp : np ≤ 8) (hkd : kd < 5) (ha : ja < np) (hb : jb < np) (hne : ja ≠ jb) (hk : k < 3) (h1 : 1 ≤ w) (h2 : w ≤ 1000) : jF np nj SK PL cl (nI kd) (nI ja) (nI jb) (nI k) (nI w) = jG nj kd k w (cmB (SK ja) (SK jb)) cl (PL ja, PL jb) := by
  refine jF_3 (fun q => ?_) (fun q => ?_) ⟨hkd, by omega, by omega, hk, h2⟩
  · rcases q with q | q | q | q
    · exact noP_in hkd (by decide) ((outI_noP (n := 4) (by decide)).mp q)
    · exact noP_in ha (by omega) q
    · exact noP_in hb (by omega) q
    · exact noP_in hk (by decide) ((outI_noP (n := 2) (by decide)).mp q)
  · rcases q with q | q
    · exact hne ((nI_eq (by omega) (by omega)).mp q)
    · exact wid_ok h1 h2 (wid_out.mpr q)
theorem two_R {σ : sT} {gp gk : Nat → Option Nat} {sk : Nat → Int32} {ff ff' : Nat → Nat → Int32} {PA : Nat → Nat} {PF : Nat → Nat → Int32} {KA : Nat → Nat} {ja jb n1 n2 kj : Nat} {f1 f2 : Nat → Int32} {LA LB : List Bx} {t : kT} {cl : Int32} {rw0 : Nat → Int32} (hR : jR σ gp gk sk ff PA PF KA) (h0 : ff' 4 0 = nI 0) (h1 : sR f1 n1 LA) (h2 : sR f2 n2 LB) (h12 : σ.2.2.2.2.2.1 < 12) : jR (σ.1, σ.2.1, va_up (va_up σ.2.2.1 ja LA) jb LB, cl, rw0, σ.2.2.2.2.2.1 + 1, va_up σ.2.2.2.2.2.2 σ.2.2.2.2.2.1 t) gp (va_up gk σ.2.2.2.2.2.1 (some kj)) sk ff' PA (va_up (va_up PF ja f1) jb f2) (va_up KA σ.2.2.2.2.2.1 kj) := by
  obtain ⟨r1, r2, r3, r4, r5, r6, -⟩ := hR
  refine ⟨r1, r2, fun q hq => ?_, fun q q1 q2 => ?_, r5, fun i hi => ?_, h0⟩
  · by_cases e : q = σ.2.2.2.2.2.1
    · rw [e, vu_eq, vu_eq]
    · rw [vu_ne e, vu_ne e]; exact r3 q (by have : q < σ.2.2.2.2.2.1 + 1 := hq; omega)
  · have q1 : σ.2.2.2.2.2.1 + 1 ≤ q := q1
    rw [vu_ne (by omega)]; exact r4 q (by omega) q2
  · show sR (va_up (va_up PF ja f1) jb f2 i) (va_up (va_up σ.2.2.1 ja LA) jb LB i).length (va_up (va_up σ.2.2.1 ja LA) jb LB i)
    by_cases e : i = jb
    · rw [e, vu_eq, vu_eq]; exact h2.1 ▸ h2
    · rw [vu_ne e, vu_ne e]
      by_cases e2 : i = ja
      · rw [e2, vu_eq, vu_eq]; exact h1.1 ▸ h1
      · rw [vu_ne e2, vu_ne e2]; exact r6 i hi
theorem two_ok {σ : sT} {ja jb : Nat} {LA LB : List Bx} {t : kT} (hO : sOk σ) (h12 : σ.2.2.2.2.2.1 < 12) (h1 : LA.length ≤ 24) (h2 : LB.length ≤ 24) (hA : okL LA) (hB : okL LB) (ht : t.1 < 5 ∧ t.2.1 < σ.1 ∧ t.2.2.1 < σ.1 ∧ t.2.2.2.1 < 3) : sOk (σ.1, σ.2.1, va_up (va_up σ.2.2.1 ja LA) jb LB, σ.2.2.2.1, σ.2.2.2.2.1, σ.2.2.2.2.2.1 + 1, va_up σ.2.2.2.2.2.2 σ.2.2.2.2.2.1 t) := by
  obtain ⟨o1, o2, o3, o4, o5⟩ := hO
  refine ⟨o1, (by show σ.2.2.2.2.2.1 + 1 ≤ 12; omega), o3, fun i hi => ?_, fun q hq => ?_⟩
  · show okB (σ.2.1 i) ∧ (va_up (va_up σ.2.2.1 ja LA) jb LB i).length ≤ 24 ∧ okL (va_up (va_up σ.2.2.1 ja LA) jb LB i)
    obtain ⟨a, b, c⟩ := o4 i hi
    by_cases e : i = jb
    · rw [e, vu_eq]; exact ⟨e ▸ a, h2, hB⟩
    · rw [vu_ne e]
      by_cases e2 : i = ja
      · rw [e2, vu_eq]; exact ⟨e2 ▸ a, h1, hA⟩
      · rw [vu_ne e2]; exact ⟨a, b, c⟩
  · show (va_up σ.2.2.2.2.2.2 σ.2.2.2.2.2.1 t q).1 < 5 ∧ (va_up σ.2.2.2.2.2.2 σ.2.2.2.2.2.1 t q).2.1 < σ.1 ∧ (va_up σ.2.2.2.2.2.2 σ.2.2.2.2.2.1 t q).2.2.1 < σ.1 ∧ (va_up σ.2.2.2.2.2.2 σ.2.2.2.2.2.1 t q).2.2.2.1 < 3
    by_cases e : q = σ.2.2.2.2.2.1
    · rw [e, vu_eq]; exact ht
    · rw [vu_ne e]; exact o5 q (by have : q < σ.2.2.2.2.2.1 + 1 := hq; omega)
theorem cut_ans {σ : sT} {j : Nat} {x y zz w hh dd : Int32} (hj : j < σ.1) (h8 : σ.1 ≤ 8) : s_cut σ (nI j) x y zz w hh dd = if bad6 (-2000) (nI 2000) x y zz w hh dd then (2, 0, σ) else if (cutL (bx6 x y zz w hh dd) (σ.2.2.1 j)).length ≤ 24 then
  (0, (if (σ.2.2.1 j).any (fun b => decide (mt b (bx6 x y zz w hh dd))) = true then nI 1 else nI 0).toInt64, σ.1, σ.2.1, va_up σ.2.2.1 j (cutL (bx6 x y zz w hh dd) (σ.2.2.1 j)), σ.2.2.2) else (3, 0, σ) := by
  unfold s_cut; rw [if_neg (noP_in hj (by omega)), nat_nI (by omega)]
theorem cut_rr {L : List Bx} {T : Bx} {rr : Int32} (h : rr = nI 1 ∧ (∃ b ∈ L, mt b T) ∨ rr = nI 0 ∧ ¬ ∃ b ∈ L, mt b T) : (if L.any (fun b => decide (mt b T)) = true then nI 1 else nI 0).toInt64 = rr.toInt64 ∧ (rr = nI 0 ∨ rr = nI 1) := by
  rcases h with ⟨h1, h2⟩ | ⟨h1, h2⟩
  · rw [if_pos (any_mt.mpr h2), h1]; exact ⟨rfl, Or.inr rfl⟩
  · rw [if_neg (fun q => h2 (any_mt.mp q)), h1]; exact ⟨rfl, Or.inl rfl⟩
set_option maxHeartbeats 4000000 in
set_option maxRecDepth 100000 in
theorem s_J_cutBad (l : Launch) (hlt : l.stackTraces = false) (g : gT) (z : Nat) (H0 : Heap) (h : Nat) (σ : sT) (ws : va_W) (hj : jI g h σ ws) (v : Int32) (x y zz w hh dd : Int32) (hb : noP v σ.1) : vx_Met l y_J_cut w_J_cut ({ frames := 7, cells := 1, slots := 6, locals := 103 }) (va_Pc [.ref h, .int v, .int x, .int y, .int zz, .int w, .int hh, .int dd] (jPre g z H0 ws)) (jQi g h ws H0 (s_cut σ v x y zz w hh dd).2.2 (fun rr => (s_cut σ v x y zz w hh dd).1 = 0 ∧ (s_cut σ v x y zz w hh dd).2.1 = rr.toInt64 ∧ (rr = nI 0 ∨ rr = nI 1))) (jX g h ws H0 (s_cut σ v x y zz w hh dd) ec3) 1 6 (va_A ws H0.size) := by
  obtain ⟨fs, ad, gp, gk, sk, nn, ff, PA, PB, PF, KA, hw, hfs, hR, hO⟩ := id hj
  obtain ⟨hlen, hf0, hf1, hf2, hf3, hf4, hf5, hf6, hf7, hf8, hf9, hf10, hf11, hf12, hf13⟩ := hfs
  rw [show s_cut σ v x y zz w hh dd = (1, 0, σ) from if_pos hb]
  refine rd_i (x_J_cut l hlt g z H0 h fs (ad 0) σ.1 gp PA v x y zz w hh dd) (fun hP => ?_) hj (fun rr e => e.elim) rfl (fun E e => Or.inl ⟨e, rfl⟩)
  subst hw
  exact ⟨hP.sub (ws' := [(h, .inr (1, fs)), (ad 0, ePS g 8 gp)]) [0, 1] rfl, hf0, hO.1, hR.1, hR.2.1, hb⟩
set_option maxHeartbeats 4000000 in
set_option maxRecDepth 100000 in
theorem s_J_cut (l : Launch) (hlt : l.stackTraces = false) (g : gT) (z : Nat) (H0 : Heap) (h : Nat) (σ : sT) (ws : va_W) (hj : jI g h σ ws) (j : Nat) (x y zz w hh dd : Int32) (hjn : j < σ.1) : vx_Met l y_J_cut w_J_cut ({ frames := 7, cells := 3, slots := 18, locals := 134 }) (va_Pc [.ref h, .int (nI j), .int x, .int y, .int zz, .int w, .int hh, .int dd] (jPre g z H0 ws)) (jQi g h ws H0 (s_cut σ (nI j) x y zz w hh dd).2.2 (fun rr => (s_cut σ (nI j) x y zz w hh dd).1 = 0 ∧ (s_cut σ (nI j) x y zz w hh dd).2.1 = rr.toInt64 ∧ (rr = nI 0 ∨ rr = nI 1))) (jX g h ws H0 (s_cut σ (nI j) x y zz w hh dd) ec3) 3 18 (va_A ws H0.size) := by
  obtain ⟨fs, ad, gp, gk, sk, nn, ff, PA, PB, PF, KA, hw, hfs, hR, hO⟩ := id hj
  obtain ⟨hlen, hf0, hf1, hf2, hf3, hf4, hf5, hf6, hf7, hf8, hf9, hf10, hf11, hf12, hf13⟩ := hfs
  subst hw
  have hp := pm2 (K := kX KA σ.2.2.2.2.2.2 (List.range σ.2.2.2.2.2.1)) (perm_ix (ws := jC g h fs ad gp gk sk σ.2.2.2.2.1 nn ff) (ws' := [(h, .inr (1, fs)), (ad 0, ePS g 8 gp), (ad 10, eI g 6 (ff 0)), (ad 11, eI g 6 (ff 1)), (ad 8, .inr (0, [.ref (ad 9), .int (nI (nn 0))])), (ad 9, eI g 144 (ff 2))] ++ [(ad 1, eI g 48 sk), (ad 2, ePK g 12 gk), (ad 3, eI g 5 σ.2.2.2.2.1), (ad 4, .inr (0, [.ref (ad 5), .int (nI (nn 1))])), (ad 5, eI g 144 (ff 5)), (ad 6, .inr (0, [.ref (ad 7), .int (nI (nn 2))])), (ad 7, eI g 144 (ff 6)), (ad 12, eI g 6 (ff 3)), (ad 13, eI g 9 (ff 4))]) [0, 1, 11, 12, 9, 10, 2, 3, 4, 5, 6, 7, 8, 13, 14] (show ([0, 1, 11, 12, 9, 10, 2, 3, 4, 5, 6, 7, 8, 13, 14] : List Nat).Perm (List.range 15) from by decide) rfl).symm (pX_at (g := g) (PA := PA) (PB := PB) (PF := PF) (PL := σ.2.2.1) (List.mem_range.mpr hjn))
  rw [cut_ans hjn hO.1]
  by_cases hb : bad6 (-2000) (nI 2000) x y zz w hh dd
  · rw [if_pos hb]
    exact wr_i (m_J_cut l hlt g z H0 h fs (ad 0) (ad 10) (ad 11) (ad 8) (ad 9) (PA j) (PB j) j (nn 0) (σ.2.2.1 j).length gp (ff 0) (ff 1) (ff 2) (PF j) (σ.2.2.1 j) x y zz w hh dd) hp ⟨hf0, hf9, hf10, hf11, Nat.lt_of_lt_of_le hjn hO.1, hR.1 j hjn, hR.2.2.2.2.2.1 j hjn, (hO.2.2.2.1 j hjn).2.2⟩ (fun rr u hu => absurd hb hu.1) (xw_st hp (fun E u e => ⟨e.elim (fun e => Or.inr (Or.inl ⟨e.1, rfl⟩)) (fun e => absurd hb e.2.1), _, pm2 (perm_ix (ws := jC g h fs ad gp gk sk σ.2.2.2.2.1 (va_up nn 0 u.1) (va_up (va_up (va_up ff 0 u.2.1) 1 u.2.2.1) 2 u.2.2.2)) (ws' := [(h, .inr (1, fs)), (ad 0, ePS g 8 gp), (ad 10, eI g 6 u.2.1), (ad 11, eI g 6 u.2.2.1), (ad 8, .inr (0, [.ref (ad 9), .int (nI u.1)])), (ad 9, eI g 144 u.2.2.2)] ++ [(ad 1, eI g 48 sk), (ad 2, ePK g 12 gk), (ad 3, eI g 5 σ.2.2.2.2.1), (ad 4, .inr (0, [.ref (ad 5), .int (nI (nn 1))])), (ad 5, eI g 144 (ff 5)), (ad 6, .inr (0, [.ref (ad 7), .int (nI (nn 2))])), (ad 7, eI g 144 (ff 6)), (ad 12, eI g 6 (ff 3)), (ad 13, eI g 9 (ff 4))]) [0, 1, 11, 12, 9, 10, 2, 3, 4, 5, 6, 7, 8, 13, 14] (show ([0, 1, 11, 12, 9, 10, 2, 3, 4, 5, 6, 7, 8, 13, 14] : List Nat).Perm (List.range 15) from by decide) rfl).symm (pX_at (List.mem_range.mpr hjn)), fs, ad, gp, gk, sk, (va_up nn 0 u.1), (va_up (va_up (va_up ff 0 u.2.1) 1 u.2.2.1) 2 u.2.2.2), PA, PB, PF, KA, rfl, ⟨hlen, hf0, hf1, hf2, hf3, hf4, hf5, hf6, hf7, hf8, hf9, hf10, hf11, hf12, hf13⟩, scr_R hR hR.2.2.2.2.2.2, hO⟩))
  · rw [if_neg hb]
    by_cases hl : (cutL (bx6 x y zz w hh dd) (σ.2.2.1 j)).length ≤ 24
    · rw [if_pos hl]
      refine wr_i (m_J_cut l hlt g z H0 h fs (ad 0) (ad 10) (ad 11) (ad 8) (ad 9) (PA j) (PB j) j (nn 0) (σ.2.2.1 j).length gp (ff 0) (ff 1) (ff 2) (PF j) (σ.2.2.1 j) x y zz w hh dd) hp ⟨hf0, hf9, hf10, hf11, Nat.lt_of_lt_of_le hjn hO.1, hR.1 j hjn, hR.2.2.2.2.2.1 j hjn, (hO.2.2.2.1 j hjn).2.2⟩ (fun rr u hu => ⟨⟨rfl, cut_rr hu.2.2.2⟩, _, ?_, fs, ad, gp, gk, sk, (va_up nn 0 u.1), (va_up (va_up (va_up ff 0 u.2.2.1) 1 u.2.2.2.1) 2 u.2.2.2.2.1), PA, PB, va_up PF j u.2.2.2.2.2, KA, rfl, ⟨hlen, hf0, hf1, hf2, hf3, hf4, hf5, hf6, hf7, hf8, hf9, hf10, hf11, hf12, hf13⟩, upd_R hR hR.2.2.2.2.2.2 hu.2.2.1, upd_ok hO hl (cutL_ok (tool_ok hb (by decide) (by decide)) (hO.2.2.2.1 j hjn).2.2)⟩) (xw_st hp (fun E u e => e.elim (fun e => absurd e.2 hb) (fun e => absurd hl e.2.2)))
      have e9 := hu.2.2.1.1
      dsimp only
      rw [e9]
      exact pm2 (perm_ix (ws := jC g h fs ad gp gk sk σ.2.2.2.2.1 (va_up nn 0 u.1) (va_up (va_up (va_up ff 0 u.2.2.1) 1 u.2.2.2.1) 2 u.2.2.2.2.1)) (ws' := [(h, .inr (1, fs)), (ad 0, ePS g 8 gp), (ad 10, eI g 6 u.2.2.1), (ad 11, eI g 6 u.2.2.2.1), (ad 8, .inr (0, [.ref (ad 9), .int (nI u.1)])), (ad 9, eI g 144 u.2.2.2.2.1)] ++ [(ad 1, eI g 48 sk), (ad 2, ePK g 12 gk), (ad 3, eI g 5 σ.2.2.2.2.1), (ad 4, .inr (0, [.ref (ad 5), .int (nI (nn 1))])), (ad 5, eI g 144 (ff 5)), (ad 6, .inr (0, [.ref (ad 7), .int (nI (nn 2))])), (ad 7, eI g 144 (ff 6)), (ad 12, eI g 6 (ff 3)), (ad 13, eI g 9 (ff 4))]) [0, 1, 11, 12, 9, 10, 2, 3, 4, 5, 6, 7, 8, 13, 14] (show ([0, 1, 11, 12, 9, 10, 2, 3, 4, 5, 6, 7, 8, 13, 14] : List Nat).Perm (List.range 15) from by decide) rfl).symm (pX_upd hjn)
    · rw [if_neg hl]
      exact wr_i (m_J_cut l hlt g z H0 h fs (ad 0) (ad 10) (ad 11) (ad 8) (ad 9) (PA j) (PB j) j (nn 0) (σ.2.2.1 j).length gp (ff 0) (ff 1) (ff 2) (PF j) (σ.2.2.1 j) x y zz w hh dd) hp ⟨hf0, hf9, hf10, hf11, Nat.lt_of_lt_of_le hjn hO.1, hR.1 j hjn, hR.2.2.2.2.2.1 j hjn, (hO.2.2.2.1 j hjn).2.2⟩ (fun rr u hu => absurd hu.2.1 hl) (xw_st hp (fun E u e => ⟨e.elim (fun e => absurd e.2 hb) (fun e => Or.inr (Or.inr ⟨e.1, rfl⟩)), _, pm2 (perm_ix (ws := jC g h fs ad gp gk sk σ.2.2.2.2.1 (va_up nn 0 u.1) (va_up (va_up (va_up ff 0 u.2.1) 1 u.2.2.1) 2 u.2.2.2)) (ws' := [(h, .inr (1, fs)), (ad 0, ePS g 8 gp), (ad 10, eI g 6 u.2.1), (ad 11, eI g 6 u.2.2.1), (ad 8, .inr (0, [.ref (ad 9), .int (nI u.1)])), (ad 9, eI g 144 u.2.2.2)] ++ [(ad 1, eI g 48 sk), (ad 2, ePK g 12 gk), (ad 3, eI g 5 σ.2.2.2.2.1), (ad 4, .inr (0, [.ref (ad 5), .int (nI (nn 1))])), (ad 5, eI g 144 (ff 5)), (ad 6, .inr (0, [.ref (ad 7), .int (nI (nn 2))])), (ad 7, eI g 144 (ff 6)), (ad 12, eI g 6 (ff 3)), (ad 13, eI g 9 (ff 4))]) [0, 1, 11, 12, 9, 10, 2, 3, 4, 5, 6, 7, 8, 13, 14] (show ([0, 1, 11, 12, 9, 10, 2, 3, 4, 5, 6, 7, 8, 13, 14] : List Nat).Perm (List.range 15) from by decide) rfl).symm (pX_at (List.mem_range.mpr hjn)), fs, ad, gp, gk, sk, (va_up nn 0 u.1), (va_up (va_up (va_up ff 0 u.2.1) 1 u.2.2.1) 2 u.2.2.2), PA, PB, PF, KA, rfl, ⟨hlen, hf0, hf1, hf2, hf3, hf4, hf5, hf6, hf7, hf8, hf9, hf10, hf11, hf12, hf13⟩, scr_R hR hR.2.2.2.2.2.2, hO⟩))
set_option maxHeartbeats 4000000 in
set_option maxRecDepth 100000 in
theorem s_J_jointBad (l : Launch) (hlt : l.stackTraces = false) (g : gT) (z : Nat) (H0 : Heap) (h : Nat) (σ : sT) (ws : va_W) (hj : jI g h σ ws) (kv av bv xv wv : Int32) (hb : jB1 σ.1 kv av bv xv ∨ jB2 av bv wv) : vx_Met l y_J_joint w_J_joint ({ frames := 7, cells := 6, slots := 36, locals := 103 }) (va_Pc [.ref h, .int kv, .int av, .int bv, .int xv, .int wv] (jPre g z H0 ws)) (jQi g h ws H0 (s_joint σ kv av bv xv wv).2.2 (fun rr => (s_joint σ kv av bv xv wv).1 = 0 ∧ (s_joint σ kv av bv xv wv).2.1 = rr.toInt64)) (jX g h ws H0 (s_joint σ kv av bv xv wv) ec3) 6 36 (va_A ws H0.size) := by
  obtain ⟨fs, ad, gp, gk, sk, nn, ff, PA, PB, PF, KA, hw, hfs, hR, hO⟩ := id hj
  obtain ⟨hlen, hf0, hf1, hf2, hf3, hf4, hf5, hf6, hf7, hf8, hf9, hf10, hf11, hf12, hf13⟩ := hfs
  by_cases h1 : jB1 σ.1 kv av bv xv
  · rw [sj_none (jF_1 h1)]
    refine rd_i (x_J_joint l hlt g z H0 h fs (ad 0) σ.1 gp PA kv av bv xv wv) (fun hP => ?_) hj (fun rr e => e.elim) rfl (fun E e => e.elim (fun e => Or.inl ⟨e.1, rfl⟩) (fun e => absurd h1 e.2.1))
    subst hw
    exact ⟨hP.sub (ws' := [(h, .inr (1, fs)), (ad 0, ePS g 8 gp)]) [0, 1] rfl, hf0, hO.1, hR.1, hR.2.1, hb⟩
  · rw [sj_none (jF_2 h1 (hb.elim (fun q => absurd q h1) id))]
    refine rd_i (x_J_joint l hlt g z H0 h fs (ad 0) σ.1 gp PA kv av bv xv wv) (fun hP => ?_) hj (fun rr e => e.elim) rfl (fun E e => e.elim (fun e => absurd e.2 h1) (fun e => Or.inr (Or.inl ⟨e.1, rfl⟩)))
    subst hw
    exact ⟨hP.sub (ws' := [(h, .inr (1, fs)), (ad 0, ePS g 8 gp)]) [0, 1] rfl, hf0, hO.1, hR.1, hR.2.1, hb⟩
set_option maxHeartbeats 4000000 in
set_option maxRecDepth 100000 in
theorem s_J_jointLow (l : Launch) (hlt : l.stackTraces = false) (g : gT) (z : Nat) (H0 : Heap) (h : Nat) (σ : sT) (ws : va_W) (hj : jI g h σ ws) (kd ja jb k w : Nat) (hkd : kd < 5) (hja : ja < σ.1) (hjb : jb < σ.1) (hne : ja ≠ jb) (hk3 : k < 3) (hw1 : 1 ≤ w) (hw2 : w ≤ 1000) (hlow : ¬ (σ.2.2.2.2.2.1 < 12 ∧ hasC (cmB (σ.2.1 ja) (σ.2.1 jb)) ∧ (kd = 2 → (szB (cmB (σ.2.1 ja) (σ.2.1 jb)) k + w - 1) / w ≤ 8) ∧ ¬ szB (cmB (σ.2.1 ja) (σ.2.1 jb)) k < lsN kd w)) : vx_Met l y_J_joint w_J_joint ({ frames := 7, cells := 5, slots := 30, locals := 103 }) (va_Pc [.ref h, .int (nI kd), .int (nI ja), .int (nI jb), .int (nI k), .int (nI w)] (jPre g z H0 ws)) (jQi g h ws H0 (s_joint σ (nI kd) (nI ja) (nI jb) (nI k) (nI w)).2.2 (fun rr => (s_joint σ (nI kd) (nI ja) (nI jb) (nI k) (nI w)).1 = 0 ∧ (s_joint σ (nI kd) (nI ja) (nI jb) (nI k) (nI w)).2.1 = rr.toInt64)) (jX g h ws H0 (s_joint σ (nI kd) (nI ja) (nI jb) (nI k) (nI w)) ec3) 5 30 (va_A ws H0.size) := by
  obtain ⟨fs, ad, gp, gk, sk, nn, ff, PA, PB, PF, KA, hw, hfs, hR, hO⟩ := id hj
  obtain ⟨hlen, hf0, hf1, hf2, hf3, hf4, hf5, hf6, hf7, hf8, hf9, hf10, hf11, hf12, hf13⟩ := hfs
  subst hw
  have hjF := jF_g (nj := σ.2.2.2.2.2.1) (SK := σ.2.1) (PL := σ.2.2.1) (cl := σ.2.2.2.1) hO.1 hkd hja hjb hne hk3 hw1 hw2
  have hp := pm2 (P := pX g PA PB PF σ.2.2.1 (List.range σ.1)) (N := []) (R := pX g PA PB PF σ.2.2.1 (List.range σ.1)) (K := kX KA σ.2.2.2.2.2.2 (List.range σ.2.2.2.2.2.1)) (perm_ix (ws := jC g h fs ad gp gk sk σ.2.2.2.2.1 nn ff) (ws' := [(h, .inr (1, fs)), (ad 0, ePS g 8 gp), (ad 1, eI g 48 sk), (ad 12, eI g 6 (ff 3))] ++ [(ad 2, ePK g 12 gk), (ad 3, eI g 5 σ.2.2.2.2.1), (ad 4, .inr (0, [.ref (ad 5), .int (nI (nn 1))])), (ad 5, eI g 144 (ff 5)), (ad 6, .inr (0, [.ref (ad 7), .int (nI (nn 2))])), (ad 7, eI g 144 (ff 6)), (ad 8, .inr (0, [.ref (ad 9), .int (nI (nn 0))])), (ad 9, eI g 144 (ff 2)), (ad 10, eI g 6 (ff 0)), (ad 11, eI g 6 (ff 1)), (ad 13, eI g 9 (ff 4))]) [0, 1, 2, 13, 3, 4, 5, 6, 7, 8, 9, 10, 11, 12, 14] (show ([0, 1, 2, 13, 3, 4, 5, 6, 7, 8, 9, 10, 11, 12, 14] : List Nat).Perm (List.range 15) from by decide) rfl).symm (List.Perm.refl _)
  refine wr_i (m_J_jointLow l hlt g z H0 h fs (ad 0) (ad 1) (ad 12) (PA ja) (PA jb) σ.2.2.2.2.2.1 ja jb kd k w gp sk (ff 3) σ.2.1 σ.2.2.2.1 (σ.2.2.1 ja) (σ.2.2.1 jb)) hp ⟨hf0, hf2, hf4, hf12, hR.1 ja hja, hR.1 jb hjb, hkd, Nat.lt_of_lt_of_le hja hO.1, Nat.lt_of_lt_of_le hjb hO.1, hne, hk3, hw1, hw2, hO.2.1, hR.2.2.2.2.1 ja hja, (hO.2.2.2.1 ja hja).1, hR.2.2.2.2.1 jb hjb, (hO.2.2.2.1 jb hjb).1, hlow⟩ (fun rr u hu => ?_) (xw_st hp (fun E u e => ?_))
  · rw [sj_none (hjF.trans hu)]
    exact ⟨⟨rfl, rfl⟩, _, pm2 (N := []) (perm_ix (ws := jC g h fs ad gp gk sk σ.2.2.2.2.1 nn (va_up ff 3 u)) (ws' := [(h, .inr (1, fs)), (ad 0, ePS g 8 gp), (ad 1, eI g 48 sk), (ad 12, eI g 6 u)] ++ [(ad 2, ePK g 12 gk), (ad 3, eI g 5 σ.2.2.2.2.1), (ad 4, .inr (0, [.ref (ad 5), .int (nI (nn 1))])), (ad 5, eI g 144 (ff 5)), (ad 6, .inr (0, [.ref (ad 7), .int (nI (nn 2))])), (ad 7, eI g 144 (ff 6)), (ad 8, .inr (0, [.ref (ad 9), .int (nI (nn 0))])), (ad 9, eI g 144 (ff 2)), (ad 10, eI g 6 (ff 0)), (ad 11, eI g 6 (ff 1)), (ad 13, eI g 9 (ff 4))]) [0, 1, 2, 13, 3, 4, 5, 6, 7, 8, 9, 10, 11, 12, 14] (show ([0, 1, 2, 13, 3, 4, 5, 6, 7, 8, 9, 10, 11, 12, 14] : List Nat).Perm (List.range 15) from by decide) rfl).symm (List.Perm.refl _), fs, ad, gp, gk, sk, nn, va_up ff 3 u, PA, PB, PF, KA, rfl, ⟨hlen, hf0, hf1, hf2, hf3, hf4, hf5, hf6, hf7, hf8, hf9, hf10, hf11, hf12, hf13⟩, scr_R hR hR.2.2.2.2.2.2, hO⟩
  · rw [sj_none (hjF.trans e.2)]
    exact ⟨Or.inr (Or.inr ⟨e.1, rfl⟩), _, pm2 (N := []) (perm_ix (ws := jC g h fs ad gp gk sk σ.2.2.2.2.1 nn (va_up ff 3 u)) (ws' := [(h, .inr (1, fs)), (ad 0, ePS g 8 gp), (ad 1, eI g 48 sk), (ad 12, eI g 6 u)] ++ [(ad 2, ePK g 12 gk), (ad 3, eI g 5 σ.2.2.2.2.1), (ad 4, .inr (0, [.ref (ad 5), .int (nI (nn 1))])), (ad 5, eI g 144 (ff 5)), (ad 6, .inr (0, [.ref (ad 7), .int (nI (nn 2))])), (ad 7, eI g 144 (ff 6)), (ad 8, .inr (0, [.ref (ad 9), .int (nI (nn 0))])), (ad 9, eI g 144 (ff 2)), (ad 10, eI g 6 (ff 0)), (ad 11, eI g 6 (ff 1)), (ad 13, eI g 9 (ff 4))]) [0, 1, 2, 13, 3, 4, 5, 6, 7, 8, 9, 10, 11, 12, 14] (show ([0, 1, 2, 13, 3, 4, 5, 6, 7, 8, 9, 10, 11, 12, 14] : List Nat).Perm (List.range 15) from by decide) rfl).symm (List.Perm.refl _), fs, ad, gp, gk, sk, nn, va_up ff 3 u, PA, PB, PF, KA, rfl, ⟨hlen, hf0, hf1, hf2, hf3, hf4, hf5, hf6, hf7, hf8, hf9, hf10, hf11, hf12, hf13⟩, scr_R hR hR.2.2.2.2.2.2, hO⟩
set_option maxHeartbeats 4000000 in
set_option maxRecDepth 100000 in
theorem s_J_jointMain (l : Launch) (hlt : l.stackTraces = false) (g : gT) (z : Nat) (H0 : Heap) (h : Nat) (σ : sT) (ws : va_W) (hj : jI g h σ ws) (kd ja jb k w : Nat) (hkd : kd < 5) (hja : ja < σ.1) (hjb : jb < σ.1) (hne : ja ≠ jb) (hk3 : k < 3) (hw1 : 1 ≤ w) (hw2 : w ≤ 1000) (hgo : σ.2.2.2.2.2.1 < 12 ∧ hasC (cmB (σ.2.1 ja) (σ.2.1 jb)) ∧ (kd = 2 → (szB (cmB (σ.2.1 ja) (σ.2.1 jb)) k + w - 1) / w ≤ 8) ∧ ¬ szB (cmB (σ.2.1 ja) (σ.2.1 jb)) k < lsN kd w) : vx_Met l y_J_joint w_J_joint ({ frames := 7, cells := 5, slots := 30, locals := 159 }) (va_Pc [.ref h, .int (nI kd), .int (nI ja), .int (nI jb), .int (nI k), .int (nI w)] (jPre g z H0 ws)) (jQi g h ws H0 (s_joint σ (nI kd) (nI ja) (nI jb) (nI k) (nI w)).2.2 (fun rr => (s_joint σ (nI kd) (nI ja) (nI jb) (nI k) (nI w)).1 = 0 ∧ (s_joint σ (nI kd) (nI ja) (nI jb) (nI k) (nI w)).2.1 = rr.toInt64)) (jX g h ws H0 (s_joint σ (nI kd) (nI ja) (nI jb) (nI k) (nI w)) ec3) 5 30 (va_A ws H0.size) := by
  obtain ⟨fs, ad, gp, gk, sk, nn, ff, PA, PB, PF, KA, hw, hfs, hR, hO⟩ := id hj
  obtain ⟨hlen, hf0, hf1, hf2, hf3, hf4, hf5, hf6, hf7, hf8, hf9, hf10, hf11, hf12, hf13⟩ := hfs
  subst hw
  have hjF := jF_g (nj := σ.2.2.2.2.2.1) (SK := σ.2.1) (PL := σ.2.2.1) (cl := σ.2.2.2.1) hO.1 hkd hja hjb hne hk3 hw1 hw2
  have hp := pm2 (K := kX KA σ.2.2.2.2.2.2 (List.range σ.2.2.2.2.2.1)) (perm_ix (ws := jC g h fs ad gp gk sk σ.2.2.2.2.1 nn ff) (ws' := [(h, .inr (1, fs)), (ad 0, ePS g 8 gp), (ad 1, eI g 48 sk), (ad 2, ePK g 12 gk), (ad 4, .inr (0, [.ref (ad 5), .int (nI (nn 1))])), (ad 5, eI g 144 (ff 5)), (ad 6, .inr (0, [.ref (ad 7), .int (nI (nn 2))])), (ad 7, eI g 144 (ff 6)), (ad 8, .inr (0, [.ref (ad 9), .int (nI (nn 0))])), (ad 9, eI g 144 (ff 2)), (ad 10, eI g 6 (ff 0)), (ad 11, eI g 6 (ff 1)), (ad 12, eI g 6 (ff 3)), (ad 13, eI g 9 (ff 4))] ++ [(ad 3, eI g 5 σ.2.2.2.2.1)]) [0, 1, 2, 3, 5, 6, 7, 8, 9, 10, 11, 12, 13, 14, 4] (show ([0, 1, 2, 3, 5, 6, 7, 8, 9, 10, 11, 12, 13, 14, 4] : List Nat).Perm (List.range 15) from by decide) rfl).symm (pX_two (g := g) (PA := PA) (PB := PB) (PF := PF) (PL := σ.2.2.1) hja hjb hne)
  refine wr_i (m_J_jointMain l hlt g z H0 h fs (ad 0) (ad 1) (ad 2) (ad 4) (ad 5) (ad 6) (ad 7) (ad 8) (ad 9) (ad 10) (ad 11) (ad 12) (ad 13) (PA ja) (PB ja) (PA jb) (PB jb) (nn 0) (nn 1) (nn 2) (σ.2.2.1 ja).length (σ.2.2.1 jb).length σ.2.2.2.2.2.1 ja jb kd k w gp gk sk (ff 0) (ff 1) (ff 2) (ff 3) (ff 4) (ff 5) (ff 6) (PF ja) (PF jb) σ.2.1 σ.2.2.2.1 (σ.2.2.1 ja) (σ.2.2.1 jb)) hp ⟨hlen, hf3, hf6, hf7, hf8, hf9, hf10, hf11, hf13, hf0, hf2, hf4, hf12, hR.1 ja hja, hR.1 jb hjb, hkd, Nat.lt_of_lt_of_le hja hO.1, Nat.lt_of_lt_of_le hjb hO.1, hne, hk3, hw1, hw2, hO.2.1, hR.2.2.2.2.1 ja hja, (hO.2.2.2.1 ja hja).1, hR.2.2.2.2.1 jb hjb, (hO.2.2.2.1 jb hjb).1, hgo, hO.2.2.1, hR.2.2.2.2.2.2, hR.2.2.2.2.2.1 ja hja, hR.2.2.2.2.2.1 jb hjb, (hO.2.2.2.1 ja hja).2.2, (hO.2.2.2.1 jb hjb).2.2⟩ (fun rr u hu => ?_) (xw_st hp (fun E u e => ?_))
  · obtain ⟨LA, LB, e1, e2, e3, e4, e5, e6, e7, e8⟩ := hu
    rw [sj_some (hjF.trans e1), nat_nI (n := ja) (by have := hO.1; omega), nat_nI (n := jb) (by have := hO.1; omega), nat_nI (n := kd) (by omega), nat_nI (n := k) (by omega)]
    refine ⟨⟨rfl, rfl⟩, _, ?_, fs.set 4 (.int (nI (σ.2.2.2.2.2.1 + 1))), ad, gp, va_up gk σ.2.2.2.2.2.1 (some u.2.2.1), sk, u.1, u.2.1, PA, PB, va_up (va_up PF ja (u.2.1 7)) jb (u.2.1 8), va_up KA σ.2.2.2.2.2.1 u.2.2.1, rfl, ⟨glen hlen, gset_ne (by decide) hf0, gset_ne (by decide) hf1, gset_ne (by decide) hf2, gset_ne (by decide) hf3, gset_eq hlen (by decide), gset_ne (by decide) hf5, gset_ne (by decide) hf6, gset_ne (by decide) hf7, gset_ne (by decide) hf8, gset_ne (by decide) hf9, gset_ne (by decide) hf10, gset_ne (by decide) hf11, gset_ne (by decide) hf12, gset_ne (by decide) hf13⟩, two_R hR e6 e2 e3 hgo.1, two_ok hO hgo.1 (by rw [← e2.1]; exact e2.2.1) (by rw [← e3.1]; exact e3.2.1) e4 e5 ⟨hkd, hja, hjb, hk3⟩⟩
    rw [e2.1, e3.1, e7, e8]
    exact pm3 (perm_ix (ws := jC g h (fs.set 4 (.int (nI (σ.2.2.2.2.2.1 + 1)))) ad gp (va_up gk σ.2.2.2.2.2.1 (some u.2.2.1)) sk σ.2.2.2.2.1 u.1 u.2.1) (ws' := [(h, .inr (1, fs.set 4 (.int (nI (σ.2.2.2.2.2.1 + 1))))), (ad 0, ePS g 8 gp), (ad 1, eI g 48 sk), (ad 2, ePK g 12 (va_up gk σ.2.2.2.2.2.1 (some u.2.2.1))), (ad 4, .inr (0, [.ref (ad 5), .int (nI (u.1 1))])), (ad 5, eI g 144 (u.2.1 5)), (ad 6, .inr (0, [.ref (ad 7), .int (nI (u.1 2))])), (ad 7, eI g 144 (u.2.1 6)), (ad 8, .inr (0, [.ref (ad 9), .int (nI (u.1 0))])), (ad 9, eI g 144 (u.2.1 2)), (ad 10, eI g 6 (u.2.1 0)), (ad 11, eI g 6 (u.2.1 1)), (ad 12, eI g 6 (u.2.1 3)), (ad 13, eI g 9 (u.2.1 4))] ++ [(ad 3, eI g 5 σ.2.2.2.2.1)]) [0, 1, 2, 3, 5, 6, 7, 8, 9, 10, 11, 12, 13, 14, 4] (show ([0, 1, 2, 3, 5, 6, 7, 8, 9, 10, 11, 12, 13, 14, 4] : List Nat).Perm (List.range 15) from by decide) rfl).symm (pX_two' hja hjb hne) kX_new
  · rw [sj_none (hjF.trans e.2.1)]
    exact ⟨Or.inr (Or.inr ⟨e.1, rfl⟩), _, pm2 (perm_ix (ws := jC g h (fs) ad gp (gk) sk σ.2.2.2.2.1 u.1 u.2) (ws' := [(h, .inr (1, fs)), (ad 0, ePS g 8 gp), (ad 1, eI g 48 sk), (ad 2, ePK g 12 (gk)), (ad 4, .inr (0, [.ref (ad 5), .int (nI (u.1 1))])), (ad 5, eI g 144 (u.2 5)), (ad 6, .inr (0, [.ref (ad 7), .int (nI (u.1 2))])), (ad 7, eI g 144 (u.2 6)), (ad 8, .inr (0, [.ref (ad 9), .int (nI (u.1 0))])), (ad 9, eI g 144 (u.2 2)), (ad 10, eI g 6 (u.2 0)), (ad 11, eI g 6 (u.2 1)), (ad 12, eI g 6 (u.2 3)), (ad 13, eI g 9 (u.2 4))] ++ [(ad 3, eI g 5 σ.2.2.2.2.1)]) [0, 1, 2, 3, 5, 6, 7, 8, 9, 10, 11, 12, 13, 14, 4] (show ([0, 1, 2, 3, 5, 6, 7, 8, 9, 10, 11, 12, 13, 14, 4] : List Nat).Perm (List.range 15) from by decide) rfl).symm (pX_two hja hjb hne), fs, ad, gp, gk, sk, u.1, u.2, PA, PB, PF, KA, rfl, ⟨hlen, hf0, hf1, hf2, hf3, hf4, hf5, hf6, hf7, hf8, hf9, hf10, hf11, hf12, hf13⟩, scr_R hR e.2.2, hO⟩
set_option maxHeartbeats 4000000 in
set_option maxRecDepth 100000 in
theorem s_J_first (l : Launch) (g : gT) (z : Nat) (H0 : Heap) (h : Nat) (σ : sT) (ws : va_W) (hj : jI g h σ ws) : Met l y_J_first w_J_first ({ frames := 4, cells := 0, slots := 0, locals := 90 }) (va_Pc [.ref h] (jPre g z H0 ws)) (va_Qi (fun (rr : Int32) (_ : Unit) => fiR σ.1 σ.2.2.1 rr) (fun _ t => t.heap = H0) nA) 0 0 nA := by
  obtain ⟨fs, ad, gp, gk, sk, nn, ff, PA, PB, PF, KA, hw, hfs, hR, hO⟩ := id hj
  obtain ⟨hlen, hf0, hf1, hf2, hf3, hf4, hf5, hf6, hf7, hf8, hf9, hf10, hf11, hf12, hf13⟩ := hfs
  subst hw
  refine met_cq (p_J_first l g z H0 h fs (ad 0) σ.1 gp PA PB PF σ.2.2.1) (fun a s hp => ⟨hp.1, hp.2.1, hp.2.2.1, ?_⟩) (fun a s o t _ q => q) (fun q h => h)
  have hP := hp.2.2.2.1
  exact ⟨hP.sub (ws' := [(h, .inr (1, fs)), (ad 0, ePS g 8 gp)]) [0, 1] rfl, hf0, hf1, (jI_pP hP hR hO).1⟩
