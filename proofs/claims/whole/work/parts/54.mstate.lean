/-! The reference's cells in a state; its calls as steps of the state. -/
abbrev mC (g : gT) (m : Nat) (fs : List Value) (ad : Nat → Nat) (ff : Nat → Nat → Int32) (gl : Nat → Nat → Int64) (rw0 : Nat → Int32) : va_W :=
  [(m, .inr (3, fs)), (ad 0, eI g 48 (ff 0)), (ad 1, eI g 1152 (ff 1)), (ad 2, eI g 8 (ff 2)), (ad 3, eI g 288 (ff 3)), (ad 4, eI g 2 (ff 4)), (ad 5, eI g 1008 (ff 5)), (ad 6, eI g 6 (ff 6)), (ad 7, eI g 6 (ff 7)), (ad 8, eI g 12 (ff 8)), (ad 9, eI g 12 (ff 9)), (ad 10, eI g 12 (ff 10)), (ad 11, eI g 12 (ff 11)), (ad 12, eL g 12 (gl 0)), (ad 13, eL g 12 (gl 1)), (ad 14, eI g 5 rw0)]
def mFs (fs : List Value) (ad : Nat → Nat) (np nj : Nat) (cl : Int32) (th : Nat) : Prop := fs.length = 19 ∧ fs[0]? = some (.int (nI th)) ∧ fs[1]? = some (.int (nI np)) ∧ fs[2]? = some (.ref (ad 0)) ∧ fs[3]? = some (.ref (ad 1)) ∧ fs[4]? = some (.ref (ad 2)) ∧ fs[5]? = some (.ref (ad 3)) ∧ fs[6]? = some (.ref (ad 4)) ∧ fs[7]? = some (.ref (ad 5)) ∧ fs[8]? = some (.ref (ad 6)) ∧ fs[9]? = some (.ref (ad 7)) ∧ fs[10]? = some (.int cl) ∧ fs[11]? = some (.int (nI nj)) ∧ fs[12]? = some (.ref (ad 8)) ∧ fs[13]? = some (.ref (ad 9)) ∧ fs[14]? = some (.ref (ad 10)) ∧ fs[15]? = some (.ref (ad 11)) ∧ fs[16]? = some (.ref (ad 12)) ∧ fs[17]? = some (.ref (ad 13)) ∧ fs[18]? = some (.ref (ad 14))
def mR (σ : sT) (ff : Nat → Nat → Int32) (gl : Nat → Nat → Int64) : Prop := pL σ.1 (ff 1) (ff 2) σ.2.2.1 ∧ (∀ j, j < σ.1 → gb (ff 0) (6 * j) = σ.2.1 j) ∧ ∀ q, q < σ.2.2.2.2.2.1 → ff 8 q = nI (σ.2.2.2.2.2.2 q).1 ∧ ff 9 q = nI (σ.2.2.2.2.2.2 q).2.1 ∧ ff 10 q = nI (σ.2.2.2.2.2.2 q).2.2.1 ∧ ff 11 q = nI (σ.2.2.2.2.2.2 q).2.2.2.1 ∧ gl 0 q = (σ.2.2.2.2.2.2 q).2.2.2.2.1 ∧ gl 1 q = (σ.2.2.2.2.2.2 q).2.2.2.2.2
def mI (g : gT) (m : Nat) (σ : sT) (th : Nat) (ws : va_W) : Prop := ∃ (fs : List Value) (ad : Nat → Nat) (ff : Nat → Nat → Int32) (gl : Nat → Nat → Int64), ws = mC g m fs ad ff gl σ.2.2.2.2.1 ∧ mFs fs ad σ.1 σ.2.2.2.2.2.1 σ.2.2.2.1 th ∧ mR σ ff gl ∧ sOk σ
def mB (g : gT) (m : Nat) (ws : va_W) (H0 : Heap) (S : oT) (ws' : va_W) (t : State) : Prop := mI g m S.2.2 S.1 ws' ∧ va_P g.1 cls ws' t.heap ∧ va_D (va_A ws H0.size) ws'
abbrev mQi (g : gT) (m : Nat) (ws : va_W) (H0 : Heap) (S : oT) (po : Int32 → Prop) := va_Qi (fun rr (_ : va_W) => po rr) (fun ws' t => mB g m ws H0 S ws' t) (va_A ws H0.size)
abbrev mQl (g : gT) (m : Nat) (ws : va_W) (H0 : Heap) (S : oT) (po : Int64 → Prop) := va_Ql (fun rr (_ : va_W) => po rr) (fun ws' t => mB g m ws H0 S ws' t) (va_A ws H0.size)
abbrev mQv (g : gT) (m : Nat) (ws : va_W) (H0 : Heap) (S : oT) := va_Qv (fun (_ : va_W) => True) (fun ws' t => mB g m ws H0 S ws' t) (va_A ws H0.size)
section MT
variable {l : Launch} {y : MethodName} {w : List Cond} {rm : Room} {lst : List Value} {mc ms : Nat} {g : gT} {z : Nat} {H0 : Heap} {m : Nat} {ws : va_W} {F : Prop}
theorem mt_join {X Y X1 : va_W} {s t : State} {S : oT} (hp : ws.Perm (X ++ Y)) (hs : s.heap = H0) (hP : va_P g.1 cls ws H0) (hD : va_D (zA z) ws) (hF : va_F (va_A X H0.size) s t) (hP1 : va_P g.1 cls X1 t.heap) (hD1 : va_D (va_A X H0.size) X1) (hn : ∃ ws', ws'.Perm (X1 ++ Y) ∧ mI g m S.2.2 S.1 ws') : ∃ ws', mB g m ws H0 S ws' t ∧ va_F (va_A ws H0.size) s t := by
  subst hs
  obtain ⟨ws', hp', hj'⟩ := hn
  obtain ⟨k1, k2⟩ := jn hp hP (hD.self (sz := s.heap.size)) (fun q h1 h2 => hF.2 q h1 h2) (sub_A hp) hP1 hD1
  exact ⟨ws', ⟨hj', va_P_perm k1 hp', va_D_perm k2 hp'⟩, hF.1, fun q h1 h2 => hF.2 q h1 (fun q9 => h2 (sub_A hp q q9))⟩
theorem mr_i {S' : Type} {X Y : va_W} {X1 : S' → va_W} {post : Int32 → S' → Prop} {S : oT} {po : Int32 → Prop} (hM : Met l y w rm (va_Pc lst (pB g z H0 (va_P g.1 cls X H0 ∧ va_D (zA z) X ∧ F))) (va_Qi post (fun u t => va_P g.1 cls (X1 u) t.heap ∧ va_D (va_A X H0.size) (X1 u)) (va_A X H0.size)) mc ms (va_A X H0.size)) (hp : ws.Perm (X ++ Y)) (hF : F)
    (hQ : ∀ rr u, post rr u → po rr ∧ ∃ ws', ws'.Perm (X1 u ++ Y) ∧ mI g m S.2.2 S.1 ws') : Met l y w rm (va_Pc lst (jPre g z H0 ws)) (mQi g m ws H0 S po) mc ms (va_A ws H0.size) := by
  refine met_cq hM (fun a s hp9 => ⟨hp9.1, hp9.2.1, hp9.2.2.1, perm_P hp hp9.2.2.2.1, perm_D hp hp9.2.2.2.2, hF⟩) (fun a s o t hp9 hq => ?_) (sub_A hp)
  obtain ⟨⟨r, u, ho, hP, hP1, hD1⟩, hF2⟩ := hq
  obtain ⟨h1, h2⟩ := hQ r u hP
  obtain ⟨ws', k1, k2⟩ := mt_join hp hp9.2.1 hp9.2.2.2.1 hp9.2.2.2.2 hF2 hP1 hD1 h2
  exact ⟨⟨r, ws', ho, h1, k1⟩, k2⟩
theorem mr_l {S' : Type} {X Y : va_W} {X1 : S' → va_W} {post : Int64 → S' → Prop} {S : oT} {po : Int64 → Prop} (hM : Met l y w rm (va_Pc lst (pB g z H0 (va_P g.1 cls X H0 ∧ va_D (zA z) X ∧ F))) (va_Ql post (fun u t => va_P g.1 cls (X1 u) t.heap ∧ va_D (va_A X H0.size) (X1 u)) (va_A X H0.size)) mc ms (va_A X H0.size)) (hp : ws.Perm (X ++ Y)) (hF : F)
    (hQ : ∀ rr u, post rr u → po rr ∧ ∃ ws', ws'.Perm (X1 u ++ Y) ∧ mI g m S.2.2 S.1 ws') : Met l y w rm (va_Pc lst (jPre g z H0 ws)) (mQl g m ws H0 S po) mc ms (va_A ws H0.size) := by
  refine met_cq hM (fun a s hp9 => ⟨hp9.1, hp9.2.1, hp9.2.2.1, perm_P hp hp9.2.2.2.1, perm_D hp hp9.2.2.2.2, hF⟩) (fun a s o t hp9 hq => ?_) (sub_A hp)
  obtain ⟨⟨r, u, ho, hP, hP1, hD1⟩, hF2⟩ := hq
  obtain ⟨h1, h2⟩ := hQ r u hP
  obtain ⟨ws', k1, k2⟩ := mt_join hp hp9.2.1 hp9.2.2.2.1 hp9.2.2.2.2 hF2 hP1 hD1 h2
  exact ⟨⟨r, ws', ho, h1, k1⟩, k2⟩
theorem mr_v {S' : Type} {X Y : va_W} {X1 : S' → va_W} {post : S' → Prop} {S : oT} (hM : Met l y w rm (va_Pc lst (pB g z H0 (va_P g.1 cls X H0 ∧ va_D (zA z) X ∧ F))) (va_Qv post (fun u t => va_P g.1 cls (X1 u) t.heap ∧ va_D (va_A X H0.size) (X1 u)) (va_A X H0.size)) mc ms (va_A X H0.size)) (hp : ws.Perm (X ++ Y)) (hF : F)
    (hQ : ∀ u, post u → ∃ ws', ws'.Perm (X1 u ++ Y) ∧ mI g m S.2.2 S.1 ws') : Met l y w rm (va_Pc lst (jPre g z H0 ws)) (mQv g m ws H0 S) mc ms (va_A ws H0.size) := by
  refine met_cq hM (fun a s hp9 => ⟨hp9.1, hp9.2.1, hp9.2.2.1, perm_P hp hp9.2.2.2.1, perm_D hp hp9.2.2.2.2, hF⟩) (fun a s o t hp9 hq => ?_) (sub_A hp)
  obtain ⟨⟨u, ho, hP, hP1, hD1⟩, hF2⟩ := hq
  obtain ⟨ws', k1, k2⟩ := mt_join hp hp9.2.1 hp9.2.2.2.1 hp9.2.2.2.2 hF2 hP1 hD1 (hQ u hP)
  exact ⟨⟨ws', ho, trivial, k1⟩, k2⟩
end MT
theorem pL_n {np : Nat} {f mn : Nat → Int32} {PL : Nat → List Bx} (h : pL np f mn PL) {j n : Nat} (hj : j < np) (hn : n ≤ 24) (e : mn j = nI n) : n = (PL j).length := by
  obtain ⟨h1, h2, -⟩ := h j hj
  exact (nI_eq (by omega) (by omega)).mp (e.symm.trans h1)
theorem mp_pieces {σ : sT} {v rr : Int32} {f mn : Nat → Int32} {fs u : List Value} (hp : pL σ.1 f mn σ.2.2.1) (hO : sOk σ) (h : (noP v σ.1 ∧ u = fs.set 0 (.int (nI 1)) ∧ rr = nI 0) ∨ (∃ j : Nat, j < σ.1 ∧ v = nI j ∧ u = fs.set 0 (.int (nI 0)) ∧ rr = mn j)) : u = fs.set 0 (.int (nI (s_pieces σ v).1)) ∧ ((s_pieces σ v).1 = 0 → (s_pieces σ v).2.1 = rr.toInt64) := by
  unfold s_pieces
  rcases h with ⟨h1, h2, h3⟩ | ⟨j, h1, rfl, h3, h4⟩
  · rw [pcF_1 h1]; exact ⟨h2, fun q => absurd (show (1 : Nat) = 0 from q) (by decide)⟩
  · rw [pcF_0 h1 hO.1, h4, (hp j h1).1]; exact ⟨h3, fun _ => rfl⟩
theorem mp_corner {σ : sT} {v pv kv rr : Int32} {f mn : Nat → Int32} {fs u : List Value} (hp : pL σ.1 f mn σ.2.2.1) (hO : sOk σ) (h : ((noP v σ.1 ∨ pv < 0 ∨ (∃ j n : Nat, j < σ.1 ∧ v = nI j ∧ mn j = nI n ∧ nI n ≤ pv) ∨ outI kv (nI 0) (nI 5)) ∧ u = fs.set 0 (.int (nI 1)) ∧ rr = nI 0) ∨ (∃ j n i q : Nat, j < σ.1 ∧ v = nI j ∧ n ≤ 24 ∧ mn j = nI n ∧ i < n ∧ pv = nI i ∧ q ≤ 5 ∧ kv = nI q ∧ u = fs.set 0 (.int (nI 0)) ∧ rr = f (144 * j + 6 * i + q))) : u = fs.set 0 (.int (nI (s_corner σ v pv kv).1)) ∧ ((s_corner σ v pv kv).1 = 0 → (s_corner σ v pv kv).2.1 = rr.toInt64) := by
  unfold s_corner
  rcases h with ⟨h1, h2, h3⟩ | ⟨j, n, i, q, h1, rfl, h3, h4, h5, rfl, h7, rfl, h9, h10⟩
  · have : coF σ.1 σ.2.2.1 v pv kv = (1, nI 0) := by
      by_cases hv : noP v σ.1
      · exact coF_a hv
      · obtain ⟨j, hj, rfl⟩ := noP_not (by have := hO.1; omega) hv
        refine coF_b (by have := hO.1; omega) ?_
        rcases h1 with q | q | ⟨j2, n, q1, q2, q3, q4⟩ | q
        · exact absurd q hv
        · exact Or.inl (Or.inl q)
        · refine Or.inl (Or.inr ?_)
          have e : j = j2 := (nI_eq (by have := hO.1; omega) (by have := hO.1; omega)).mp q2
          rw [e]
          exact Int32.not_lt.mpr ((q3.symm.trans (hp j2 q1).1) ▸ q4)
        · exact Or.inr ((outI_noP (n := 5) (by decide)).mp q)
    rw [this]; exact ⟨h2, fun q => absurd (show (1 : Nat) = 0 from q) (by decide)⟩
  · have en := pL_n hp h1 h3 h4
    subst en
    rw [coF_0 h1 hO.1 h5 (hO.2.2.2.1 j h1).2.1 (by omega), h10]
    refine ⟨h9, fun _ => ?_⟩
    show (cnB _ q).toInt64 = _
    rw [bl_getD (hp j h1).2.2 h5, cnB_gb _ _ (by omega)]
theorem mp_volume {σ : sT} {v : Int32} {rr : Int64} {f mn : Nat → Int32} {fs u : List Value} (hp : pL σ.1 f mn σ.2.2.1) (hO : sOk σ) (h : (noP v σ.1 ∧ u = fs.set 0 (.int (nI 1)) ∧ rr = 0) ∨ (∃ j n : Nat, j < σ.1 ∧ v = nI j ∧ n ≤ 24 ∧ mn j = nI n ∧ u = fs.set 0 (.int (nI 0)) ∧ rr = voM f j n)) : u = fs.set 0 (.int (nI (s_volume σ v).1)) ∧ ((s_volume σ v).1 = 0 → (s_volume σ v).2.1 = rr) := by
  unfold s_volume
  rcases h with ⟨h1, h2, h3⟩ | ⟨j, n, h1, rfl, h3, h4, h5, h6⟩
  · rw [vlF_1 h1]; exact ⟨h2, fun q => absurd (show (1 : Nat) = 0 from q) (by decide)⟩
  · have en := pL_n hp h1 h3 h4
    subst en
    rw [vlF_0 h1 hO.1, h6, voM_L, (hp j h1).2.2]; exact ⟨h5, fun _ => rfl⟩
theorem mp_two {G : List Bx → List Bx → Int64} {M : (Nat → Int32) → Nat → Nat → Nat → Nat → Int64} {σ : sT} {va vb : Int32} {rr : Int64} {f mn : Nat → Int32} {fs u : List Value} (hp : pL σ.1 f mn σ.2.2.1) (hO : sOk σ) (hG : ∀ ja jb, ja < σ.1 → jb < σ.1 → M f ja (σ.2.2.1 ja).length jb (σ.2.2.1 jb).length = G (σ.2.2.1 ja) (σ.2.2.1 jb)) (h : ((noP va σ.1 ∨ noP vb σ.1) ∧ u = fs.set 0 (.int (nI 1)) ∧ rr = 0) ∨ (¬ (noP va σ.1 ∨ noP vb σ.1) ∧ va = vb ∧ u = fs.set 0 (.int (nI 2)) ∧ rr = 0) ∨ (∃ ja na jb nb : Nat, ja < σ.1 ∧ jb < σ.1 ∧ va = nI ja ∧ vb = nI jb ∧ ¬ va = vb ∧ na ≤ 24 ∧ mn ja = nI na ∧ nb ≤ 24 ∧ mn jb = nI nb ∧ u = fs.set 0 (.int (nI 0)) ∧ rr = M f ja na jb nb)) : u = fs.set 0 (.int (nI (s_two G σ va vb).1)) ∧ ((s_two G σ va vb).1 = 0 → (s_two G σ va vb).2.1 = rr) := by
  unfold s_two
  rcases h with ⟨h1, h2, h3⟩ | ⟨h1, h2, h3, h4⟩ | ⟨ja, na, jb, nb, h1, h2, rfl, rfl, h5, h6, h7, h8, h9, h10, h11⟩
  · rw [twF_1 h1]; exact ⟨h2, fun q => absurd (show (1 : Nat) = 0 from q) (by decide)⟩
  · rw [twF_2 h1 h2]; exact ⟨h3, fun q => absurd (show (2 : Nat) = 0 from q) (by decide)⟩
  · have ea := pL_n hp h1 h6 h7
    have eb := pL_n hp h2 h8 h9
    subst ea eb
    rw [twF_0 hO.1 h1 h2 h5, h11, hG ja jb h1 h2]; exact ⟨h10, fun _ => rfl⟩
theorem mp_has {σ : sT} {v x y zz rr : Int32} {f mn : Nat → Int32} {fs u : List Value} (hp : pL σ.1 f mn σ.2.2.1) (hO : sOk σ) (h : (noP v σ.1 ∧ u = fs.set 0 (.int (nI 1)) ∧ rr = nI 0) ∨ (∃ j n : Nat, j < σ.1 ∧ v = nI j ∧ n ≤ 24 ∧ mn j = nI n ∧ u = fs.set 0 (.int (nI 0)) ∧ rr = (if anyB (fun u => inB f (oM j u) x y zz) n = true then nI 1 else nI 0))) : u = fs.set 0 (.int (nI (s_has σ v x y zz).1)) ∧ ((s_has σ v x y zz).1 = 0 → (s_has σ v x y zz).2.1 = rr.toInt64) ∧ (rr = nI 0 ∨ rr = nI 1) := by
  unfold s_has
  rcases h with ⟨h1, h2, h3⟩ | ⟨j, n, h1, rfl, h3, h4, h5, h6⟩
  · rw [hsF_1 h1]; exact ⟨h2, fun q => absurd (show (1 : Nat) = 0 from q) (by decide), Or.inl h3⟩
  · have en := pL_n hp h1 h3 h4
    subst en
    rw [anyB_L f (144 * j) x y zz (oM j) (fun u => rfl), (hp j h1).2.2] at h6
    rw [hsF_0 h1 hO.1, h6]
    refine ⟨h5, fun _ => rfl, ?_⟩
    by_cases q : (σ.2.2.1 j).any (inX x y zz) = true
    · rw [if_pos q]; exact Or.inr rfl
    · rw [if_neg q]; exact Or.inl rfl
theorem mp_strength {σ : sT} {v : Int32} {rr : Int64} {ff : Nat → Nat → Int32} {gl : Nat → Nat → Int64} {fs u : List Value} (hR : mR σ ff gl) (hO : sOk σ) (h : (noP v σ.2.2.2.2.2.1 ∧ u = fs.set 0 (.int (nI 1)) ∧ rr = 0) ∨ (∃ q kq ja jb na nb : Nat, q < σ.2.2.2.2.2.1 ∧ v = nI q ∧ ff 8 q = nI kq ∧ ff 9 q = nI ja ∧ ff 10 q = nI jb ∧ kq < 5 ∧ ja < σ.1 ∧ jb < σ.1 ∧ na ≤ 24 ∧ ff 2 ja = nI na ∧ nb ≤ 24 ∧ ff 2 jb = nI nb ∧ u = fs.set 0 (.int (nI 0)) ∧ rr = toM (ff 1) ja na jb nb * (σ.2.2.2.2.1 kq).toInt64 / 100)) : u = fs.set 0 (.int (nI (s_strength σ v).1)) ∧ ((s_strength σ v).1 = 0 → (s_strength σ v).2.1 = rr) := by
  unfold s_strength
  have h8 := hO.1
  rcases h with ⟨h1, h2, h3⟩ | ⟨q, kq, ja, jb, na, nb, h1, rfl, h3, h4, h5, h6, h7, h9, h10, h11, h12, h13, h14, h15⟩
  · rw [stF_1 h1]; exact ⟨h2, fun q => absurd (show (1 : Nat) = 0 from q) (by decide)⟩
  · obtain ⟨k1, k2, k3, -⟩ := hR.2.2 q h1
    obtain ⟨n1, n2, n3, -⟩ := hO.2.2.2.2 q h1
    have e1 := (nI_eq (by omega) (by omega)).mp (h3.symm.trans k1)
    have e2 := (nI_eq (by omega) (by omega)).mp (h4.symm.trans k2)
    have e3 := (nI_eq (by omega) (by omega)).mp (h5.symm.trans k3)
    have ea := pL_n hR.1 h7 h10 h11
    have eb := pL_n hR.1 h9 h12 h13
    have p1 := hR.1 ja h7
    have p2 := hR.1 jb h9
    have o1 := (hO.2.2.2.1 ja h7).2.2
    have o2 := (hO.2.2.2.1 jb h9).2.2
    rw [ea, eb, toM_L (by rw [p1.2.2]; exact o1) (by rw [p2.2.2]; exact o2), p1.2.2, p2.2.2, e1, e2, e3] at h15
    rw [stF_0 h1 hO.2.1, h15]; exact ⟨h14, fun _ => rfl⟩
theorem mp_about {σ : sT} {v wv : Int32} {rr : Int64} {ff : Nat → Nat → Int32} {gl : Nat → Nat → Int64} {fs u : List Value} (hR : mR σ ff gl) (hO : sOk σ) (h : ((noP v σ.2.2.2.2.2.1 ∨ outI wv (nI 0) (nI 5)) ∧ u = fs.set 0 (.int (nI 1)) ∧ rr = 0) ∨ (∃ q i : Nat, q < σ.2.2.2.2.2.1 ∧ v = nI q ∧ i ≤ 5 ∧ wv = nI i ∧ u = fs.set 0 (.int (nI 0)) ∧ rr = abM (ff 8) (ff 9) (ff 10) (ff 11) (gl 0) (gl 1) q i)) : u = fs.set 0 (.int (nI (s_about σ v wv).1)) ∧ ((s_about σ v wv).1 = 0 → (s_about σ v wv).2.1 = rr) := by
  unfold s_about
  rcases h with ⟨h1, h2, h3⟩ | ⟨q, i, h1, rfl, h3, rfl, h5, h6⟩
  · rw [abF_1 (h1.elim Or.inl (fun q => Or.inr ((outI_noP (n := 5) (by decide)).mp q)))]; exact ⟨h2, fun q => absurd (show (1 : Nat) = 0 from q) (by decide)⟩
  · obtain ⟨k1, k2, k3, k4, k5, k6⟩ := hR.2.2 q h1
    rw [abF_0 h1 hO.2.1 (by omega), h6]
    refine ⟨h5, fun _ => ?_⟩
    show abK _ i = abM _ _ _ _ _ _ q i
    unfold abK abM
    rw [k1, k2, k3, k4, k5, k6]
theorem mp_first {σ : sT} {rr : Int32} {f mn : Nat → Int32} (hp : pL σ.1 f mn σ.2.2.1) (h : (∃ a b : Nat, a < b ∧ b < σ.1 ∧ 0 < ovM f a (σ.2.2.1 a).length b (σ.2.2.1 b).length ∧ rr = nI (8 * a + b) ∧ ∀ a2 b2 : Nat, a2 < b2 → b2 < σ.1 → (a2 < a ∨ (a2 = a ∧ b2 < b)) → ¬ 0 < ovM f a2 (σ.2.2.1 a2).length b2 (σ.2.2.1 b2).length) ∨ (rr = -1 ∧ ∀ a b : Nat, a < b → b < σ.1 → ¬ 0 < ovM f a (σ.2.2.1 a).length b (σ.2.2.1 b).length)) : fiR σ.1 σ.2.2.1 rr := by
  have e : ∀ a b : Nat, a < σ.1 → b < σ.1 → ovM f a (σ.2.2.1 a).length b (σ.2.2.1 b).length = ovL (σ.2.2.1 a) (σ.2.2.1 b) := fun a b ha hb => by rw [ovM_L, (hp a ha).2.2, (hp b hb).2.2]
  rcases h with ⟨a, b, h1, h2, h3, h4, h5⟩ | ⟨h1, h2⟩
  · refine Or.inl ⟨a, b, h1, h2, by rw [← e a b (by omega) h2]; exact h3, h4, fun a2 b2 q1 q2 q3 => ?_⟩
    rw [← e a2 b2 (by omega) q2]; exact h5 a2 b2 q1 q2 q3
  · refine Or.inr ⟨h1, fun a b q1 q2 => ?_⟩
    rw [← e a b (by omega) q2]; exact h2 a b q1 q2
set_option maxHeartbeats 4000000 in
set_option maxRecDepth 100000 in
theorem s_M_pieces (l : Launch) (g : gT) (z : Nat) (H0 : Heap) (m : Nat) (σ : sT) (th : Nat) (ws : va_W) (hm : mI g m σ th ws) (v : Int32) : Met l y_M_pieces w_M_pieces ({ frames := 1, cells := 0, slots := 0, locals := 21 }) (va_Pc [.ref m, .int v] (jPre g z H0 ws)) (mQi g m ws H0 (s_pieces σ v) (fun rr => ((s_pieces σ v).1 = 0 → (s_pieces σ v).2.1 = rr.toInt64))) 0 0 (va_A ws H0.size) := by
  obtain ⟨fs, ad, ff, gl, hw, hfs, hR, hO⟩ := id hm
  obtain ⟨hlen, hf0, hf1, hf2, hf3, hf4, hf5, hf6, hf7, hf8, hf9, hf10, hf11, hf12, hf13, hf14, hf15, hf16, hf17, hf18⟩ := hfs
  subst hw
  refine mr_i (m_M_pieces l g z H0 m fs (ad 2) σ.1 (ff 2) v) (perm_ix (ws := mC g m fs ad ff gl σ.2.2.2.2.1) (ws' := [(m, .inr (3, fs)), (ad 2, eI g 8 (ff 2))] ++ [(ad 0, eI g 48 (ff 0)), (ad 1, eI g 1152 (ff 1)), (ad 3, eI g 288 (ff 3)), (ad 4, eI g 2 (ff 4)), (ad 5, eI g 1008 (ff 5)), (ad 6, eI g 6 (ff 6)), (ad 7, eI g 6 (ff 7)), (ad 8, eI g 12 (ff 8)), (ad 9, eI g 12 (ff 9)), (ad 10, eI g 12 (ff 10)), (ad 11, eI g 12 (ff 11)), (ad 12, eL g 12 (gl 0)), (ad 13, eL g 12 (gl 1)), (ad 14, eI g 5 σ.2.2.2.2.1)]) [0, 3, 1, 2, 4, 5, 6, 7, 8, 9, 10, 11, 12, 13, 14, 15] (show ([0, 3, 1, 2, 4, 5, 6, 7, 8, 9, 10, 11, 12, 13, 14, 15] : List Nat).Perm (List.range 16) from by decide) rfl).symm ⟨hlen, hf1, hO.1, hf4⟩ (fun rr u hu => ?_)
  obtain ⟨e1, e2⟩ := mp_pieces hR.1 hO hu
  subst e1
  exact ⟨e2, _, (perm_ix (ws := mC g m (fs.set 0 (.int (nI (s_pieces σ v).1))) ad ff gl σ.2.2.2.2.1) (ws' := [(m, .inr (3, fs.set 0 (.int (nI (s_pieces σ v).1)))), (ad 2, eI g 8 (ff 2))] ++ [(ad 0, eI g 48 (ff 0)), (ad 1, eI g 1152 (ff 1)), (ad 3, eI g 288 (ff 3)), (ad 4, eI g 2 (ff 4)), (ad 5, eI g 1008 (ff 5)), (ad 6, eI g 6 (ff 6)), (ad 7, eI g 6 (ff 7)), (ad 8, eI g 12 (ff 8)), (ad 9, eI g 12 (ff 9)), (ad 10, eI g 12 (ff 10)), (ad 11, eI g 12 (ff 11)), (ad 12, eL g 12 (gl 0)), (ad 13, eL g 12 (gl 1)), (ad 14, eI g 5 σ.2.2.2.2.1)]) [0, 3, 1, 2, 4, 5, 6, 7, 8, 9, 10, 11, 12, 13, 14, 15] (show ([0, 3, 1, 2, 4, 5, 6, 7, 8, 9, 10, 11, 12, 13, 14, 15] : List Nat).Perm (List.range 16) from by decide) rfl).symm, _, ad, ff, gl, rfl, ⟨(glen hlen), gset_eq hlen (by decide), gset_ne (by decide) (hf1), gset_ne (by decide) (hf2), gset_ne (by decide) (hf3), gset_ne (by decide) (hf4), gset_ne (by decide) (hf5), gset_ne (by decide) (hf6), gset_ne (by decide) (hf7), gset_ne (by decide) (hf8), gset_ne (by decide) (hf9), gset_ne (by decide) (hf10), gset_ne (by decide) (hf11), gset_ne (by decide) (hf12), gset_ne (by decide) (hf13), gset_ne (by decide) (hf14), gset_ne (by decide) (hf15), gset_ne (by decide) (hf16), gset_ne (by decide) (hf17), gset_ne (by decide) (hf18)⟩, hR, hO⟩
set_option maxHeartbeats 4000000 in
set_option maxRecDepth 100000 in
theorem s_M_corner (l : Launch) (g : gT) (z : Nat) (H0 : Heap) (m : Nat) (σ : sT) (th : Nat) (ws : va_W) (hm : mI g m σ th ws) (v pv kv : Int32) : Met l y_M_corner w_M_corner ({ frames := 1, cells := 0, slots := 0, locals := 22 }) (va_Pc [.ref m, .int v, .int pv, .int kv] (jPre g z H0 ws)) (mQi g m ws H0 (s_corner σ v pv kv) (fun rr => ((s_corner σ v pv kv).1 = 0 → (s_corner σ v pv kv).2.1 = rr.toInt64))) 0 0 (va_A ws H0.size) := by
  obtain ⟨fs, ad, ff, gl, hw, hfs, hR, hO⟩ := id hm
  obtain ⟨hlen, hf0, hf1, hf2, hf3, hf4, hf5, hf6, hf7, hf8, hf9, hf10, hf11, hf12, hf13, hf14, hf15, hf16, hf17, hf18⟩ := hfs
  subst hw
  refine mr_i (m_M_corner l g z H0 m fs (ad 1) (ad 2) σ.1 (ff 1) (ff 2) v pv kv) (perm_ix (ws := mC g m fs ad ff gl σ.2.2.2.2.1) (ws' := [(m, .inr (3, fs)), (ad 1, eI g 1152 (ff 1)), (ad 2, eI g 8 (ff 2))] ++ [(ad 0, eI g 48 (ff 0)), (ad 3, eI g 288 (ff 3)), (ad 4, eI g 2 (ff 4)), (ad 5, eI g 1008 (ff 5)), (ad 6, eI g 6 (ff 6)), (ad 7, eI g 6 (ff 7)), (ad 8, eI g 12 (ff 8)), (ad 9, eI g 12 (ff 9)), (ad 10, eI g 12 (ff 10)), (ad 11, eI g 12 (ff 11)), (ad 12, eL g 12 (gl 0)), (ad 13, eL g 12 (gl 1)), (ad 14, eI g 5 σ.2.2.2.2.1)]) [0, 2, 3, 1, 4, 5, 6, 7, 8, 9, 10, 11, 12, 13, 14, 15] (show ([0, 2, 3, 1, 4, 5, 6, 7, 8, 9, 10, 11, 12, 13, 14, 15] : List Nat).Perm (List.range 16) from by decide) rfl).symm ⟨hlen, hf1, hO.1, hf3, hf4, (fun j hj => ⟨_, (hO.2.2.2.1 j hj).2.1, (hR.1 j hj).1⟩)⟩ (fun rr u hu => ?_)
  obtain ⟨e1, e2⟩ := mp_corner hR.1 hO hu
  subst e1
  exact ⟨e2, _, (perm_ix (ws := mC g m (fs.set 0 (.int (nI (s_corner σ v pv kv).1))) ad ff gl σ.2.2.2.2.1) (ws' := [(m, .inr (3, fs.set 0 (.int (nI (s_corner σ v pv kv).1)))), (ad 1, eI g 1152 (ff 1)), (ad 2, eI g 8 (ff 2))] ++ [(ad 0, eI g 48 (ff 0)), (ad 3, eI g 288 (ff 3)), (ad 4, eI g 2 (ff 4)), (ad 5, eI g 1008 (ff 5)), (ad 6, eI g 6 (ff 6)), (ad 7, eI g 6 (ff 7)), (ad 8, eI g 12 (ff 8)), (ad 9, eI g 12 (ff 9)), (ad 10, eI g 12 (ff 10)), (ad 11, eI g 12 (ff 11)), (ad 12, eL g 12 (gl 0)), (ad 13, eL g 12 (gl 1)), (ad 14, eI g 5 σ.2.2.2.2.1)]) [0, 2, 3, 1, 4, 5, 6, 7, 8, 9, 10, 11, 12, 13, 14, 15] (show ([0, 2, 3, 1, 4, 5, 6, 7, 8, 9, 10, 11, 12, 13, 14, 15] : List Nat).Perm (List.range 16) from by decide) rfl).symm, _, ad, ff, gl, rfl, ⟨(glen hlen), gset_eq hlen (by decide), gset_ne (by decide) (hf1), gset_ne (by decide) (hf2), gset_ne (by decide) (hf3), gset_ne (by decide) (hf4), gset_ne (by decide) (hf5), gset_ne (by decide) (hf6), gset_ne (by decide) (hf7), gset_ne (by decide) (hf8), gset_ne (by decide) (hf9), gset_ne (by decide) (hf10), gset_ne (by decide) (hf11), gset_ne (by decide) (hf12), gset_ne (by decide) (hf13), gset_ne (by decide) (hf14), gset_ne (by decide) (hf15), gset_ne (by decide) (hf16), gset_ne (by decide) (hf17), gset_ne (by decide) (hf18)⟩, hR, hO⟩
set_option maxHeartbeats 4000000 in
set_option maxRecDepth 100000 in
theorem s_M_volume (l : Launch) (g : gT) (z : Nat) (H0 : Heap) (m : Nat) (σ : sT) (th : Nat) (ws : va_W) (hm : mI g m σ th ws) (v : Int32) : Met l y_M_volume w_M_volume ({ frames := 1, cells := 0, slots := 0, locals := 25 }) (va_Pc [.ref m, .int v] (jPre g z H0 ws)) (mQl g m ws H0 (s_volume σ v) (fun rr => ((s_volume σ v).1 = 0 → (s_volume σ v).2.1 = rr))) 0 0 (va_A ws H0.size) := by
  obtain ⟨fs, ad, ff, gl, hw, hfs, hR, hO⟩ := id hm
  obtain ⟨hlen, hf0, hf1, hf2, hf3, hf4, hf5, hf6, hf7, hf8, hf9, hf10, hf11, hf12, hf13, hf14, hf15, hf16, hf17, hf18⟩ := hfs
  subst hw
  refine mr_l (m_M_volume l g z H0 m fs (ad 1) (ad 2) σ.1 (ff 1) (ff 2) v) (perm_ix (ws := mC g m fs ad ff gl σ.2.2.2.2.1) (ws' := [(m, .inr (3, fs)), (ad 1, eI g 1152 (ff 1)), (ad 2, eI g 8 (ff 2))] ++ [(ad 0, eI g 48 (ff 0)), (ad 3, eI g 288 (ff 3)), (ad 4, eI g 2 (ff 4)), (ad 5, eI g 1008 (ff 5)), (ad 6, eI g 6 (ff 6)), (ad 7, eI g 6 (ff 7)), (ad 8, eI g 12 (ff 8)), (ad 9, eI g 12 (ff 9)), (ad 10, eI g 12 (ff 10)), (ad 11, eI g 12 (ff 11)), (ad 12, eL g 12 (gl 0)), (ad 13, eL g 12 (gl 1)), (ad 14, eI g 5 σ.2.2.2.2.1)]) [0, 2, 3, 1, 4, 5, 6, 7, 8, 9, 10, 11, 12, 13, 14, 15] (show ([0, 2, 3, 1, 4, 5, 6, 7, 8, 9, 10, 11, 12, 13, 14, 15] : List Nat).Perm (List.range 16) from by decide) rfl).symm ⟨hlen, hf1, hO.1, hf3, hf4, (fun j hj => ⟨_, (hO.2.2.2.1 j hj).2.1, (hR.1 j hj).1⟩)⟩ (fun rr u hu => ?_)
  obtain ⟨e1, e2⟩ := mp_volume hR.1 hO hu
  subst e1
  exact ⟨e2, _, (perm_ix (ws := mC g m (fs.set 0 (.int (nI (s_volume σ v).1))) ad ff gl σ.2.2.2.2.1) (ws' := [(m, .inr (3, fs.set 0 (.int (nI (s_volume σ v).1)))), (ad 1, eI g 1152 (ff 1)), (ad 2, eI g 8 (ff 2))] ++ [(ad 0, eI g 48 (ff 0)), (ad 3, eI g 288 (ff 3)), (ad 4, eI g 2 (ff 4)), (ad 5, eI g 1008 (ff 5)), (ad 6, eI g 6 (ff 6)), (ad 7, eI g 6 (ff 7)), (ad 8, eI g 12 (ff 8)), (ad 9, eI g 12 (ff 9)), (ad 10, eI g 12 (ff 10)), (ad 11, eI g 12 (ff 11)), (ad 12, eL g 12 (gl 0)), (ad 13, eL g 12 (gl 1)), (ad 14, eI g 5 σ.2.2.2.2.1)]) [0, 2, 3, 1, 4, 5, 6, 7, 8, 9, 10, 11, 12, 13, 14, 15] (show ([0, 2, 3, 1, 4, 5, 6, 7, 8, 9, 10, 11, 12, 13, 14, 15] : List Nat).Perm (List.range 16) from by decide) rfl).symm, _, ad, ff, gl, rfl, ⟨(glen hlen), gset_eq hlen (by decide), gset_ne (by decide) (hf1), gset_ne (by decide) (hf2), gset_ne (by decide) (hf3), gset_ne (by decide) (hf4), gset_ne (by decide) (hf5), gset_ne (by decide) (hf6), gset_ne (by decide) (hf7), gset_ne (by decide) (hf8), gset_ne (by decide) (hf9), gset_ne (by decide) (hf10), gset_ne (by decide) (hf11), gset_ne (by decide) (hf12), gset_ne (by decide) (hf13), gset_ne (by decide) (hf14), gset_ne (by decide) (hf15), gset_ne (by decide) (hf16), gset_ne (by decide) (hf17), gset_ne (by decide) (hf18)⟩, hR, hO⟩
set_option maxHeartbeats 4000000 in
set_option maxRecDepth 100000 in
theorem s_M_overlap (l : Launch) (g : gT) (z : Nat) (H0 : Heap) (m : Nat) (σ : sT) (th : Nat) (ws : va_W) (hm : mI g m σ th ws) (v v2 : Int32) : Met l y_M_overlap w_M_overlap ({ frames := 3, cells := 0, slots := 0, locals := 73 }) (va_Pc [.ref m, .int v, .int v2] (jPre g z H0 ws)) (mQl g m ws H0 (s_two ovL σ v v2) (fun rr => ((s_two ovL σ v v2).1 = 0 → (s_two ovL σ v v2).2.1 = rr))) 0 0 (va_A ws H0.size) := by
  obtain ⟨fs, ad, ff, gl, hw, hfs, hR, hO⟩ := id hm
  obtain ⟨hlen, hf0, hf1, hf2, hf3, hf4, hf5, hf6, hf7, hf8, hf9, hf10, hf11, hf12, hf13, hf14, hf15, hf16, hf17, hf18⟩ := hfs
  subst hw
  refine mr_l (m_M_overlap l g z H0 m fs (ad 1) (ad 2) σ.1 (ff 1) (ff 2) v v2) (perm_ix (ws := mC g m fs ad ff gl σ.2.2.2.2.1) (ws' := [(m, .inr (3, fs)), (ad 1, eI g 1152 (ff 1)), (ad 2, eI g 8 (ff 2))] ++ [(ad 0, eI g 48 (ff 0)), (ad 3, eI g 288 (ff 3)), (ad 4, eI g 2 (ff 4)), (ad 5, eI g 1008 (ff 5)), (ad 6, eI g 6 (ff 6)), (ad 7, eI g 6 (ff 7)), (ad 8, eI g 12 (ff 8)), (ad 9, eI g 12 (ff 9)), (ad 10, eI g 12 (ff 10)), (ad 11, eI g 12 (ff 11)), (ad 12, eL g 12 (gl 0)), (ad 13, eL g 12 (gl 1)), (ad 14, eI g 5 σ.2.2.2.2.1)]) [0, 2, 3, 1, 4, 5, 6, 7, 8, 9, 10, 11, 12, 13, 14, 15] (show ([0, 2, 3, 1, 4, 5, 6, 7, 8, 9, 10, 11, 12, 13, 14, 15] : List Nat).Perm (List.range 16) from by decide) rfl).symm ⟨hlen, hf1, hO.1, hf3, hf4, (fun j hj => ⟨_, (hO.2.2.2.1 j hj).2.1, (hR.1 j hj).1⟩)⟩ (fun rr u hu => ?_)
  obtain ⟨e1, e2⟩ := mp_two (M := ovM) hR.1 hO (fun ja jb ha hb => by rw [ovM_L, (hR.1 ja ha).2.2, (hR.1 jb hb).2.2]) hu
  subst e1
  exact ⟨e2, _, (perm_ix (ws := mC g m (fs.set 0 (.int (nI (s_two ovL σ v v2).1))) ad ff gl σ.2.2.2.2.1) (ws' := [(m, .inr (3, fs.set 0 (.int (nI (s_two ovL σ v v2).1)))), (ad 1, eI g 1152 (ff 1)), (ad 2, eI g 8 (ff 2))] ++ [(ad 0, eI g 48 (ff 0)), (ad 3, eI g 288 (ff 3)), (ad 4, eI g 2 (ff 4)), (ad 5, eI g 1008 (ff 5)), (ad 6, eI g 6 (ff 6)), (ad 7, eI g 6 (ff 7)), (ad 8, eI g 12 (ff 8)), (ad 9, eI g 12 (ff 9)), (ad 10, eI g 12 (ff 10)), (ad 11, eI g 12 (ff 11)), (ad 12, eL g 12 (gl 0)), (ad 13, eL g 12 (gl 1)), (ad 14, eI g 5 σ.2.2.2.2.1)]) [0, 2, 3, 1, 4, 5, 6, 7, 8, 9, 10, 11, 12, 13, 14, 15] (show ([0, 2, 3, 1, 4, 5, 6, 7, 8, 9, 10, 11, 12, 13, 14, 15] : List Nat).Perm (List.range 16) from by decide) rfl).symm, _, ad, ff, gl, rfl, ⟨(glen hlen), gset_eq hlen (by decide), gset_ne (by decide) (hf1), gset_ne (by decide) (hf2), gset_ne (by decide) (hf3), gset_ne (by decide) (hf4), gset_ne (by decide) (hf5), gset_ne (by decide) (hf6), gset_ne (by decide) (hf7), gset_ne (by decide) (hf8), gset_ne (by decide) (hf9), gset_ne (by decide) (hf10), gset_ne (by decide) (hf11), gset_ne (by decide) (hf12), gset_ne (by decide) (hf13), gset_ne (by decide) (hf14), gset_ne (by decide) (hf15), gset_ne (by decide) (hf16), gset_ne (by decide) (hf17), gset_ne (by decide) (hf18)⟩, hR, hO⟩
set_option maxHeartbeats 4000000 in
set_option maxRecDepth 100000 in
theorem s_M_touch (l : Launch) (g : gT) (z : Nat) (H0 : Heap) (m : Nat) (σ : sT) (th : Nat) (ws : va_W) (hm : mI g m σ th ws) (v v2 : Int32) : Met l y_M_touch w_M_touch ({ frames := 3, cells := 0, slots := 0, locals := 76 }) (va_Pc [.ref m, .int v, .int v2] (jPre g z H0 ws)) (mQl g m ws H0 (s_two toL σ v v2) (fun rr => ((s_two toL σ v v2).1 = 0 → (s_two toL σ v v2).2.1 = rr))) 0 0 (va_A ws H0.size) := by
  obtain ⟨fs, ad, ff, gl, hw, hfs, hR, hO⟩ := id hm
  obtain ⟨hlen, hf0, hf1, hf2, hf3, hf4, hf5, hf6, hf7, hf8, hf9, hf10, hf11, hf12, hf13, hf14, hf15, hf16, hf17, hf18⟩ := hfs
  subst hw
  refine mr_l (m_M_touch l g z H0 m fs (ad 1) (ad 2) σ.1 (ff 1) (ff 2) v v2) (perm_ix (ws := mC g m fs ad ff gl σ.2.2.2.2.1) (ws' := [(m, .inr (3, fs)), (ad 1, eI g 1152 (ff 1)), (ad 2, eI g 8 (ff 2))] ++ [(ad 0, eI g 48 (ff 0)), (ad 3, eI g 288 (ff 3)), (ad 4, eI g 2 (ff 4)), (ad 5, eI g 1008 (ff 5)), (ad 6, eI g 6 (ff 6)), (ad 7, eI g 6 (ff 7)), (ad 8, eI g 12 (ff 8)), (ad 9, eI g 12 (ff 9)), (ad 10, eI g 12 (ff 10)), (ad 11, eI g 12 (ff 11)), (ad 12, eL g 12 (gl 0)), (ad 13, eL g 12 (gl 1)), (ad 14, eI g 5 σ.2.2.2.2.1)]) [0, 2, 3, 1, 4, 5, 6, 7, 8, 9, 10, 11, 12, 13, 14, 15] (show ([0, 2, 3, 1, 4, 5, 6, 7, 8, 9, 10, 11, 12, 13, 14, 15] : List Nat).Perm (List.range 16) from by decide) rfl).symm ⟨hlen, hf1, hO.1, hf3, hf4, (fun j hj => ⟨_, (hO.2.2.2.1 j hj).2.1, (hR.1 j hj).1⟩)⟩ (fun rr u hu => ?_)
  obtain ⟨e1, e2⟩ := mp_two (M := toM) hR.1 hO (fun ja jb ha hb => by rw [toM_L (by rw [(hR.1 ja ha).2.2]; exact (hO.2.2.2.1 ja ha).2.2) (by rw [(hR.1 jb hb).2.2]; exact (hO.2.2.2.1 jb hb).2.2), (hR.1 ja ha).2.2, (hR.1 jb hb).2.2]) hu
  subst e1
  exact ⟨e2, _, (perm_ix (ws := mC g m (fs.set 0 (.int (nI (s_two toL σ v v2).1))) ad ff gl σ.2.2.2.2.1) (ws' := [(m, .inr (3, fs.set 0 (.int (nI (s_two toL σ v v2).1)))), (ad 1, eI g 1152 (ff 1)), (ad 2, eI g 8 (ff 2))] ++ [(ad 0, eI g 48 (ff 0)), (ad 3, eI g 288 (ff 3)), (ad 4, eI g 2 (ff 4)), (ad 5, eI g 1008 (ff 5)), (ad 6, eI g 6 (ff 6)), (ad 7, eI g 6 (ff 7)), (ad 8, eI g 12 (ff 8)), (ad 9, eI g 12 (ff 9)), (ad 10, eI g 12 (ff 10)), (ad 11, eI g 12 (ff 11)), (ad 12, eL g 12 (gl 0)), (ad 13, eL g 12 (gl 1)), (ad 14, eI g 5 σ.2.2.2.2.1)]) [0, 2, 3, 1, 4, 5, 6, 7, 8, 9, 10, 11, 12, 13, 14, 15] (show ([0, 2, 3, 1, 4, 5, 6, 7, 8, 9, 10, 11, 12, 13, 14, 15] : List Nat).Perm (List.range 16) from by decide) rfl).symm, _, ad, ff, gl, rfl, ⟨(glen hlen), gset_eq hlen (by decide), gset_ne (by decide) (hf1), gset_ne (by decide) (hf2), gset_ne (by decide) (hf3), gset_ne (by decide) (hf4), gset_ne (by decide) (hf5), gset_ne (by decide) (hf6), gset_ne (by decide) (hf7), gset_ne (by decide) (hf8), gset_ne (by decide) (hf9), gset_ne (by decide) (hf10), gset_ne (by decide) (hf11), gset_ne (by decide) (hf12), gset_ne (by decide) (hf13), gset_ne (by decide) (hf14), gset_ne (by decide) (hf15), gset_ne (by decide) (hf16), gset_ne (by decide) (hf17), gset_ne (by decide) (hf18)⟩, hR, hO⟩
set_option maxHeartbeats 4000000 in
set_option maxRecDepth 100000 in
theorem s_M_has (l : Launch) (g : gT) (z : Nat) (H0 : Heap) (m : Nat) (σ : sT) (th : Nat) (ws : va_W) (hm : mI g m σ th ws) (v x y zz : Int32) : Met l y_M_has w_M_has ({ frames := 1, cells := 0, slots := 0, locals := 22 }) (va_Pc [.ref m, .int v, .int x, .int y, .int zz] (jPre g z H0 ws)) (mQi g m ws H0 (s_has σ v x y zz) (fun rr => ((s_has σ v x y zz).1 = 0 → (s_has σ v x y zz).2.1 = rr.toInt64) ∧ (rr = nI 0 ∨ rr = nI 1))) 0 0 (va_A ws H0.size) := by
  obtain ⟨fs, ad, ff, gl, hw, hfs, hR, hO⟩ := id hm
  obtain ⟨hlen, hf0, hf1, hf2, hf3, hf4, hf5, hf6, hf7, hf8, hf9, hf10, hf11, hf12, hf13, hf14, hf15, hf16, hf17, hf18⟩ := hfs
  subst hw
  refine mr_i (m_M_has l g z H0 m fs (ad 1) (ad 2) σ.1 (ff 1) (ff 2) v x y zz) (perm_ix (ws := mC g m fs ad ff gl σ.2.2.2.2.1) (ws' := [(m, .inr (3, fs)), (ad 1, eI g 1152 (ff 1)), (ad 2, eI g 8 (ff 2))] ++ [(ad 0, eI g 48 (ff 0)), (ad 3, eI g 288 (ff 3)), (ad 4, eI g 2 (ff 4)), (ad 5, eI g 1008 (ff 5)), (ad 6, eI g 6 (ff 6)), (ad 7, eI g 6 (ff 7)), (ad 8, eI g 12 (ff 8)), (ad 9, eI g 12 (ff 9)), (ad 10, eI g 12 (ff 10)), (ad 11, eI g 12 (ff 11)), (ad 12, eL g 12 (gl 0)), (ad 13, eL g 12 (gl 1)), (ad 14, eI g 5 σ.2.2.2.2.1)]) [0, 2, 3, 1, 4, 5, 6, 7, 8, 9, 10, 11, 12, 13, 14, 15] (show ([0, 2, 3, 1, 4, 5, 6, 7, 8, 9, 10, 11, 12, 13, 14, 15] : List Nat).Perm (List.range 16) from by decide) rfl).symm ⟨hlen, hf1, hO.1, hf3, hf4, (fun j hj => ⟨_, (hO.2.2.2.1 j hj).2.1, (hR.1 j hj).1⟩)⟩ (fun rr u hu => ?_)
  obtain ⟨e1, e2⟩ := mp_has hR.1 hO hu
  subst e1
  exact ⟨e2, _, (perm_ix (ws := mC g m (fs.set 0 (.int (nI (s_has σ v x y zz).1))) ad ff gl σ.2.2.2.2.1) (ws' := [(m, .inr (3, fs.set 0 (.int (nI (s_has σ v x y zz).1)))), (ad 1, eI g 1152 (ff 1)), (ad 2, eI g 8 (ff 2))] ++ [(ad 0, eI g 48 (ff 0)), (ad 3, eI g 288 (ff 3)), (ad 4, eI g 2 (ff 4)), (ad 5, eI g 1008 (ff 5)), (ad 6, eI g 6 (ff 6)), (ad 7, eI g 6 (ff 7)), (ad 8, eI g 12 (ff 8)), (ad 9, eI g 12 (ff 9)), (ad 10, eI g 12 (ff 10)), (ad 11, eI g 12 (ff 11)), (ad 12, eL g 12 (gl 0)), (ad 13, eL g 12 (gl 1)), (ad 14, eI g 5 σ.2.2.2.2.1)]) [0, 2, 3, 1, 4, 5, 6, 7, 8, 9, 10, 11, 12, 13, 14, 15] (show ([0, 2, 3, 1, 4, 5, 6, 7, 8, 9, 10, 11, 12, 13, 14, 15] : List Nat).Perm (List.range 16) from by decide) rfl).symm, _, ad, ff, gl, rfl, ⟨(glen hlen), gset_eq hlen (by decide), gset_ne (by decide) (hf1), gset_ne (by decide) (hf2), gset_ne (by decide) (hf3), gset_ne (by decide) (hf4), gset_ne (by decide) (hf5), gset_ne (by decide) (hf6), gset_ne (by decide) (hf7), gset_ne (by decide) (hf8), gset_ne (by decide) (hf9), gset_ne (by decide) (hf10), gset_ne (by decide) (hf11), gset_ne (by decide) (hf12), gset_ne (by decide) (hf13), gset_ne (by decide) (hf14), gset_ne (by decide) (hf15), gset_ne (by decide) (hf16), gset_ne (by decide) (hf17), gset_ne (by decide) (hf18)⟩, hR, hO⟩
set_option maxHeartbeats 4000000 in
set_option maxRecDepth 100000 in
theorem s_M_strength (l : Launch) (g : gT) (z : Nat) (H0 : Heap) (m : Nat) (σ : sT) (th : Nat) (ws : va_W) (hm : mI g m σ th ws) (v : Int32) : Met l y_M_strength w_M_strength ({ frames := 3, cells := 0, slots := 0, locals := 76 }) (va_Pc [.ref m, .int v] (jPre g z H0 ws)) (mQl g m ws H0 (s_strength σ v) (fun rr => ((s_strength σ v).1 = 0 → (s_strength σ v).2.1 = rr))) 0 0 (va_A ws H0.size) := by
  obtain ⟨fs, ad, ff, gl, hw, hfs, hR, hO⟩ := id hm
  obtain ⟨hlen, hf0, hf1, hf2, hf3, hf4, hf5, hf6, hf7, hf8, hf9, hf10, hf11, hf12, hf13, hf14, hf15, hf16, hf17, hf18⟩ := hfs
  subst hw
  refine mr_l (m_M_strength l g z H0 m fs (ad 1) (ad 2) (ad 8) (ad 9) (ad 10) (ad 14) σ.1 σ.2.2.2.2.2.1 (ff 1) (ff 2) (ff 8) (ff 9) (ff 10) σ.2.2.2.2.1 v) (perm_ix (ws := mC g m fs ad ff gl σ.2.2.2.2.1) (ws' := [(m, .inr (3, fs)), (ad 1, eI g 1152 (ff 1)), (ad 2, eI g 8 (ff 2)), (ad 8, eI g 12 (ff 8)), (ad 9, eI g 12 (ff 9)), (ad 10, eI g 12 (ff 10)), (ad 14, eI g 5 σ.2.2.2.2.1)] ++ [(ad 0, eI g 48 (ff 0)), (ad 3, eI g 288 (ff 3)), (ad 4, eI g 2 (ff 4)), (ad 5, eI g 1008 (ff 5)), (ad 6, eI g 6 (ff 6)), (ad 7, eI g 6 (ff 7)), (ad 11, eI g 12 (ff 11)), (ad 12, eL g 12 (gl 0)), (ad 13, eL g 12 (gl 1))]) [0, 2, 3, 9, 10, 11, 15, 1, 4, 5, 6, 7, 8, 12, 13, 14] (show ([0, 2, 3, 9, 10, 11, 15, 1, 4, 5, 6, 7, 8, 12, 13, 14] : List Nat).Perm (List.range 16) from by decide) rfl).symm ⟨hlen, hf3, hf4, hf11, hf12, hf13, hf14, hf18, hO.1, hO.2.1, (fun j hj => ⟨_, (hO.2.2.2.1 j hj).2.1, (hR.1 j hj).1⟩), (fun q hq => ⟨_, _, _, (hO.2.2.2.2 q hq).1, (hO.2.2.2.2 q hq).2.1, (hO.2.2.2.2 q hq).2.2.1, (hR.2.2 q hq).1, (hR.2.2 q hq).2.1, (hR.2.2 q hq).2.2.1⟩)⟩ (fun rr u hu => ?_)
  obtain ⟨e1, e2⟩ := mp_strength hR hO hu
  subst e1
  exact ⟨e2, _, (perm_ix (ws := mC g m (fs.set 0 (.int (nI (s_strength σ v).1))) ad ff gl σ.2.2.2.2.1) (ws' := [(m, .inr (3, fs.set 0 (.int (nI (s_strength σ v).1)))), (ad 1, eI g 1152 (ff 1)), (ad 2, eI g 8 (ff 2)), (ad 8, eI g 12 (ff 8)), (ad 9, eI g 12 (ff 9)), (ad 10, eI g 12 (ff 10)), (ad 14, eI g 5 σ.2.2.2.2.1)] ++ [(ad 0, eI g 48 (ff 0)), (ad 3, eI g 288 (ff 3)), (ad 4, eI g 2 (ff 4)), (ad 5, eI g 1008 (ff 5)), (ad 6, eI g 6 (ff 6)), (ad 7, eI g 6 (ff 7)), (ad 11, eI g 12 (ff 11)), (ad 12, eL g 12 (gl 0)), (ad 13, eL g 12 (gl 1))]) [0, 2, 3, 9, 10, 11, 15, 1, 4, 5, 6, 7, 8, 12, 13, 14] (show ([0, 2, 3, 9, 10, 11, 15, 1, 4, 5, 6, 7, 8, 12, 13, 14] : List Nat).Perm (List.range 16) from by decide) rfl).symm, _, ad, ff, gl, rfl, ⟨(glen hlen), gset_eq hlen (by decide), gset_ne (by decide) (hf1), gset_ne (by decide) (hf2), gset_ne (by decide) (hf3), gset_ne (by decide) (hf4), gset_ne (by decide) (hf5), gset_ne (by decide) (hf6), gset_ne (by decide) (hf7), gset_ne (by decide) (hf8), gset_ne (by decide) (hf9), gset_ne (by decide) (hf10), gset_ne (by decide) (hf11), gset_ne (by decide) (hf12), gset_ne (by decide) (hf13), gset_ne (by decide) (hf14), gset_ne (by decide) (hf15), gset_ne (by decide) (hf16), gset_ne (by decide) (hf17), gset_ne (by decide) (hf18)⟩, hR, hO⟩
set_option maxHeartbeats 4000000 in
set_option maxRecDepth 100000 in
theorem s_M_about (l : Launch) (g : gT) (z : Nat) (H0 : Heap) (m : Nat) (σ : sT) (th : Nat) (ws : va_W) (hm : mI g m σ th ws) (v wv : Int32) : Met l y_M_about w_M_about ({ frames := 1, cells := 0, slots := 0, locals := 22 }) (va_Pc [.ref m, .int v, .int wv] (jPre g z H0 ws)) (mQl g m ws H0 (s_about σ v wv) (fun rr => ((s_about σ v wv).1 = 0 → (s_about σ v wv).2.1 = rr))) 0 0 (va_A ws H0.size) := by
  obtain ⟨fs, ad, ff, gl, hw, hfs, hR, hO⟩ := id hm
  obtain ⟨hlen, hf0, hf1, hf2, hf3, hf4, hf5, hf6, hf7, hf8, hf9, hf10, hf11, hf12, hf13, hf14, hf15, hf16, hf17, hf18⟩ := hfs
  subst hw
  refine mr_l (m_M_about l g z H0 m fs (ad 8) (ad 9) (ad 10) (ad 11) (ad 12) (ad 13) σ.2.2.2.2.2.1 (ff 8) (ff 9) (ff 10) (ff 11) (gl 0) (gl 1) v wv) (perm_ix (ws := mC g m fs ad ff gl σ.2.2.2.2.1) (ws' := [(m, .inr (3, fs)), (ad 8, eI g 12 (ff 8)), (ad 9, eI g 12 (ff 9)), (ad 10, eI g 12 (ff 10)), (ad 11, eI g 12 (ff 11)), (ad 12, eL g 12 (gl 0)), (ad 13, eL g 12 (gl 1))] ++ [(ad 0, eI g 48 (ff 0)), (ad 1, eI g 1152 (ff 1)), (ad 2, eI g 8 (ff 2)), (ad 3, eI g 288 (ff 3)), (ad 4, eI g 2 (ff 4)), (ad 5, eI g 1008 (ff 5)), (ad 6, eI g 6 (ff 6)), (ad 7, eI g 6 (ff 7)), (ad 14, eI g 5 σ.2.2.2.2.1)]) [0, 9, 10, 11, 12, 13, 14, 1, 2, 3, 4, 5, 6, 7, 8, 15] (show ([0, 9, 10, 11, 12, 13, 14, 1, 2, 3, 4, 5, 6, 7, 8, 15] : List Nat).Perm (List.range 16) from by decide) rfl).symm ⟨hlen, hf11, hf12, hf13, hf14, hf15, hf16, hf17, hO.2.1⟩ (fun rr u hu => ?_)
  obtain ⟨e1, e2⟩ := mp_about hR hO hu
  subst e1
  exact ⟨e2, _, (perm_ix (ws := mC g m (fs.set 0 (.int (nI (s_about σ v wv).1))) ad ff gl σ.2.2.2.2.1) (ws' := [(m, .inr (3, fs.set 0 (.int (nI (s_about σ v wv).1)))), (ad 8, eI g 12 (ff 8)), (ad 9, eI g 12 (ff 9)), (ad 10, eI g 12 (ff 10)), (ad 11, eI g 12 (ff 11)), (ad 12, eL g 12 (gl 0)), (ad 13, eL g 12 (gl 1))] ++ [(ad 0, eI g 48 (ff 0)), (ad 1, eI g 1152 (ff 1)), (ad 2, eI g 8 (ff 2)), (ad 3, eI g 288 (ff 3)), (ad 4, eI g 2 (ff 4)), (ad 5, eI g 1008 (ff 5)), (ad 6, eI g 6 (ff 6)), (ad 7, eI g 6 (ff 7)), (ad 14, eI g 5 σ.2.2.2.2.1)]) [0, 9, 10, 11, 12, 13, 14, 1, 2, 3, 4, 5, 6, 7, 8, 15] (show ([0, 9, 10, 11, 12, 13, 14, 1, 2, 3, 4, 5, 6, 7, 8, 15] : List Nat).Perm (List.range 16) from by decide) rfl).symm, _, ad, ff, gl, rfl, ⟨(glen hlen), gset_eq hlen (by decide), gset_ne (by decide) (hf1), gset_ne (by decide) (hf2), gset_ne (by decide) (hf3), gset_ne (by decide) (hf4), gset_ne (by decide) (hf5), gset_ne (by decide) (hf6), gset_ne (by decide) (hf7), gset_ne (by decide) (hf8), gset_ne (by decide) (hf9), gset_ne (by decide) (hf10), gset_ne (by decide) (hf11), gset_ne (by decide) (hf12), gset_ne (by decide) (hf13), gset_ne (by decide) (hf14), gset_ne (by decide) (hf15), gset_ne (by decide) (hf16), gset_ne (by decide) (hf17), gset_ne (by decide) (hf18)⟩, hR, hO⟩
set_option maxHeartbeats 4000000 in
set_option maxRecDepth 100000 in
theorem s_M_first (l : Launch) (g : gT) (z : Nat) (H0 : Heap) (m : Nat) (σ : sT) (th : Nat) (ws : va_W) (hm : mI g m σ th ws)  : Met l y_M_first w_M_first ({ frames := 3, cells := 0, slots := 0, locals := 73 }) (va_Pc [.ref m] (jPre g z H0 ws)) (mQi g m ws H0 ((0, 0, σ) : oT) (fun rr => fiR σ.1 σ.2.2.1 rr)) 0 0 (va_A ws H0.size) := by
  obtain ⟨fs, ad, ff, gl, hw, hfs, hR, hO⟩ := id hm
  obtain ⟨hlen, hf0, hf1, hf2, hf3, hf4, hf5, hf6, hf7, hf8, hf9, hf10, hf11, hf12, hf13, hf14, hf15, hf16, hf17, hf18⟩ := hfs
  subst hw
  refine mr_i (m_M_first l g z H0 m fs (ad 1) (ad 2) σ.1 (ff 1) (ff 2) (fun j => (σ.2.2.1 j).length)) (perm_ix (ws := mC g m fs ad ff gl σ.2.2.2.2.1) (ws' := [(m, .inr (3, fs)), (ad 1, eI g 1152 (ff 1)), (ad 2, eI g 8 (ff 2))] ++ [(ad 0, eI g 48 (ff 0)), (ad 3, eI g 288 (ff 3)), (ad 4, eI g 2 (ff 4)), (ad 5, eI g 1008 (ff 5)), (ad 6, eI g 6 (ff 6)), (ad 7, eI g 6 (ff 7)), (ad 8, eI g 12 (ff 8)), (ad 9, eI g 12 (ff 9)), (ad 10, eI g 12 (ff 10)), (ad 11, eI g 12 (ff 11)), (ad 12, eL g 12 (gl 0)), (ad 13, eL g 12 (gl 1)), (ad 14, eI g 5 σ.2.2.2.2.1)]) [0, 2, 3, 1, 4, 5, 6, 7, 8, 9, 10, 11, 12, 13, 14, 15] (show ([0, 2, 3, 1, 4, 5, 6, 7, 8, 9, 10, 11, 12, 13, 14, 15] : List Nat).Perm (List.range 16) from by decide) rfl).symm ⟨hlen, hf1, hO.1, hf3, hf4, fun j hj => ⟨(hO.2.2.2.1 j hj).2.1, (hR.1 j hj).1⟩⟩ (fun rr u hu => ?_)
  obtain ⟨e1, e2⟩ := hu
  subst e1
  exact ⟨mp_first hR.1 e2, _, (perm_ix (ws := mC g m (fs.set 0 (.int (nI 0))) ad ff gl σ.2.2.2.2.1) (ws' := [(m, .inr (3, fs.set 0 (.int (nI 0)))), (ad 1, eI g 1152 (ff 1)), (ad 2, eI g 8 (ff 2))] ++ [(ad 0, eI g 48 (ff 0)), (ad 3, eI g 288 (ff 3)), (ad 4, eI g 2 (ff 4)), (ad 5, eI g 1008 (ff 5)), (ad 6, eI g 6 (ff 6)), (ad 7, eI g 6 (ff 7)), (ad 8, eI g 12 (ff 8)), (ad 9, eI g 12 (ff 9)), (ad 10, eI g 12 (ff 10)), (ad 11, eI g 12 (ff 11)), (ad 12, eL g 12 (gl 0)), (ad 13, eL g 12 (gl 1)), (ad 14, eI g 5 σ.2.2.2.2.1)]) [0, 2, 3, 1, 4, 5, 6, 7, 8, 9, 10, 11, 12, 13, 14, 15] (show ([0, 2, 3, 1, 4, 5, 6, 7, 8, 9, 10, 11, 12, 13, 14, 15] : List Nat).Perm (List.range 16) from by decide) rfl).symm, _, ad, ff, gl, rfl, ⟨(glen hlen), gset_eq hlen (by decide), gset_ne (by decide) (hf1), gset_ne (by decide) (hf2), gset_ne (by decide) (hf3), gset_ne (by decide) (hf4), gset_ne (by decide) (hf5), gset_ne (by decide) (hf6), gset_ne (by decide) (hf7), gset_ne (by decide) (hf8), gset_ne (by decide) (hf9), gset_ne (by decide) (hf10), gset_ne (by decide) (hf11), gset_ne (by decide) (hf12), gset_ne (by decide) (hf13), gset_ne (by decide) (hf14), gset_ne (by decide) (hf15), gset_ne (by decide) (hf16), gset_ne (by decide) (hf17), gset_ne (by decide) (hf18)⟩, hR, hO⟩
set_option maxHeartbeats 4000000 in
set_option maxRecDepth 100000 in
theorem s_M_thrown (l : Launch) (g : gT) (z : Nat) (H0 : Heap) (m : Nat) (σ : sT) (th : Nat) (ws : va_W) (hm : mI g m σ th ws) : Met l y_M_thrown w_M_thrown ({ frames := 0, cells := 0, slots := 0, locals := 0 }) (va_Pc [.ref m] (jPre g z H0 ws)) (qI (nI th) H0) 0 0 nA := by
  obtain ⟨fs, ad, ff, gl, hw, hfs, hR, hO⟩ := id hm
  subst hw
  exact met_cq (p_M_thrown l g z H0 m fs (nI th)) (fun a s hp => ⟨hp.1, hp.2.1, hp.2.2.1, hp.2.2.2.1.sub (ws' := [(m, .inr (3, fs))]) [0] rfl, hfs.2.1⟩) (fun a s o t _ q => q) (fun q h => h)
