/-! The class's calls as steps of the state. -/
abbrev jPre (g : gT) (z : Nat) (H0 : Heap) (ws : va_W) : State → Prop := pB g z H0 (va_P g.1 cls ws H0 ∧ va_D (zA z) ws)
def jB (g : gT) (h : Nat) (ws : va_W) (H0 : Heap) (σ' : sT) (ws' : va_W) (t : State) : Prop := jI g h σ' ws' ∧ va_P g.1 cls ws' t.heap ∧ va_D (va_A ws H0.size) ws'
abbrev jQi (g : gT) (h : Nat) (ws : va_W) (H0 : Heap) (σ' : sT) (po : Int32 → Prop) := va_Qi (fun rr (_ : va_W) => po rr) (fun ws' t => jB g h ws H0 σ' ws' t) (va_A ws H0.size)
abbrev jQl (g : gT) (h : Nat) (ws : va_W) (H0 : Heap) (σ' : sT) (po : Int64 → Prop) := va_Ql (fun rr (_ : va_W) => po rr) (fun ws' t => jB g h ws H0 σ' ws' t) (va_A ws H0.size)
abbrev jQv (g : gT) (h : Nat) (ws : va_W) (H0 : Heap) (σ' : sT) (po : Prop) := va_Qv (fun (_ : va_W) => po) (fun ws' t => jB g h ws H0 σ' ws' t) (va_A ws H0.size)
abbrev jX (g : gT) (h : Nat) (ws : va_W) (H0 : Heap) (S : oT) (ec : String → Nat → Prop) := vx_X (fun (_ : va_W) => True) (fun E ws' t => ec E S.1 ∧ jB g h ws H0 S.2.2 ws' t) (va_A ws H0.size)
abbrev ec1 (E : String) (n : Nat) : Prop := E = E_IOB ∧ n = 1
abbrev ec2 (E : String) (n : Nat) : Prop := E = E_IOB ∧ n = 1 ∨ E = E_IAE ∧ n = 2
abbrev ec3 (E : String) (n : Nat) : Prop := E = E_IOB ∧ n = 1 ∨ E = E_IAE ∧ n = 2 ∨ E = E_ISE ∧ n = 3
abbrev eA1 (E : String) (n : Nat) : Prop := E = E_IAE ∧ n = 1
abbrev eA2 (E : String) (n : Nat) : Prop := E = E_IAE ∧ n = 1 ∨ E = E_ISE ∧ n = 2
section ST
variable {l : Launch} {y : MethodName} {w : List Cond} {rm : Room} {lst : List Value} {mc ms : Nat} {g : gT} {z : Nat} {H0 : Heap} {h : Nat} {σ : sT} {ws : va_W} {F : Prop}
theorem jB_kept (hj : jI g h σ ws) {t : State} (hP : va_P g.1 cls ws H0) (hD : va_D (zA z) ws) (hk : ∀ q : Nat, q < H0.size → t.heap[q]? = H0[q]?) : jB g h ws H0 σ ws t := ⟨hj, kp_P hP hk, hD.self⟩
theorem xk_st {xc : String → Prop} {S : oT} {ec : String → Nat → Prop} (hj : jI g h σ ws) (hσ : S.2.2 = σ) (hX : ∀ E, xc E → ec E S.1) : ∀ E (s t : State), s.heap = H0 → va_P g.1 cls ws H0 → va_D (zA z) ws → xX xc H0 E s t → jX g h ws H0 S ec E s t := by
  rintro E s t rfl hP hD ⟨u, -, ⟨hE, hk⟩, hF⟩
  exact ⟨ws, trivial, ⟨hX E hE, hσ ▸ jB_kept hj hP hD hk.2⟩, hk.1, fun q hq _ => hk.2 q hq⟩
theorem F_any {A : Nat → Prop} {s t : State} (h : va_F nA s t) : va_F A s t := ⟨h.1, fun q h1 _ => h.2 q h1 id⟩
theorem rd_i {P : Int32 → Prop} {xc : String → Prop} {S : oT} {ec : String → Nat → Prop} {po : Int32 → Prop} (hM : vx_Met l y w rm (va_Pc lst (pB g z H0 F)) (va_Qi (fun (rr : Int32) (_ : Unit) => P rr) (fun _ t => t.heap = H0) nA) (xX xc H0) mc ms nA) (hF : va_P g.1 cls ws H0 → F) (hj : jI g h σ ws) (hQ : ∀ rr, P rr → po rr) (hσ : S.2.2 = σ) (hX : ∀ E, xc E → ec E S.1) : vx_Met l y w rm (va_Pc lst (jPre g z H0 ws)) (jQi g h ws H0 S.2.2 po) (jX g h ws H0 S ec) mc ms (va_A ws H0.size) := by
  refine vx_cq hM (fun a s hp => ⟨hp.1, hp.2.1, hp.2.2.1, hF hp.2.2.2.1⟩) (fun a s o t hp hq => ?_) (fun a s E t hp hx => xk_st hj hσ hX E s t hp.2.1 hp.2.2.2.1 hp.2.2.2.2 hx) (fun q h => h.elim)
  obtain ⟨⟨r, u, ho, hP, ht⟩, hF2⟩ := hq
  exact ⟨⟨r, ws, ho, hQ r hP, hσ ▸ jB_kept hj hp.2.2.2.1 hp.2.2.2.2 (fun q _ => by rw [ht])⟩, F_any hF2⟩
theorem rd_l {P : Int64 → Prop} {xc : String → Prop} {S : oT} {ec : String → Nat → Prop} {po : Int64 → Prop} (hM : vx_Met l y w rm (va_Pc lst (pB g z H0 F)) (va_Ql (fun (rr : Int64) (_ : Unit) => P rr) (fun _ t => t.heap = H0) nA) (xX xc H0) mc ms nA) (hF : va_P g.1 cls ws H0 → F) (hj : jI g h σ ws) (hQ : ∀ rr, P rr → po rr) (hσ : S.2.2 = σ) (hX : ∀ E, xc E → ec E S.1) : vx_Met l y w rm (va_Pc lst (jPre g z H0 ws)) (jQl g h ws H0 S.2.2 po) (jX g h ws H0 S ec) mc ms (va_A ws H0.size) := by
  refine vx_cq hM (fun a s hp => ⟨hp.1, hp.2.1, hp.2.2.1, hF hp.2.2.2.1⟩) (fun a s o t hp hq => ?_) (fun a s E t hp hx => xk_st hj hσ hX E s t hp.2.1 hp.2.2.2.1 hp.2.2.2.2 hx) (fun q h => h.elim)
  obtain ⟨⟨r, u, ho, hP, ht⟩, hF2⟩ := hq
  exact ⟨⟨r, ws, ho, hQ r hP, hσ ▸ jB_kept hj hp.2.2.2.1 hp.2.2.2.2 (fun q _ => by rw [ht])⟩, F_any hF2⟩
/-- cells X of the world are handed to the call; behind it the world is another -/
theorem st_join {X Y X1 : va_W} {s t : State} {σ' : sT} (hp : ws.Perm (X ++ Y)) (hs : s.heap = H0) (hP : va_P g.1 cls ws H0) (hD : va_D (zA z) ws) (hF : va_F (va_A X H0.size) s t) (hP1 : va_P g.1 cls X1 t.heap) (hD1 : va_D (va_A X H0.size) X1) (hn : ∃ ws', ws'.Perm (X1 ++ Y) ∧ jI g h σ' ws') : ∃ ws', jB g h ws H0 σ' ws' t ∧ va_F (va_A ws H0.size) s t := by
  subst hs
  obtain ⟨ws', hp', hj'⟩ := hn
  obtain ⟨k1, k2⟩ := jn hp hP (hD.self (sz := s.heap.size)) (fun q h1 h2 => hF.2 q h1 h2) (sub_A hp) hP1 hD1
  exact ⟨ws', ⟨hj', va_P_perm k1 hp', va_D_perm k2 hp'⟩, hF.1, fun q h1 h2 => hF.2 q h1 (fun q9 => h2 (sub_A hp q q9))⟩
theorem xw_st {SX : Type} {X Y : va_W} {X1 : SX → va_W} {xc : String → SX → Prop} {S : oT} {ec : String → Nat → Prop} (hp : ws.Perm (X ++ Y)) (hX : ∀ E u, xc E u → ec E S.1 ∧ ∃ ws', ws'.Perm (X1 u ++ Y) ∧ jI g h S.2.2 ws') : ∀ E (s t : State), s.heap = H0 → va_P g.1 cls ws H0 → va_D (zA z) ws → vx_X (fun (_ : SX) => True) (fun E u t => xc E u ∧ va_P g.1 cls (X1 u) t.heap ∧ va_D (va_A X H0.size) (X1 u)) (va_A X H0.size) E s t → jX g h ws H0 S ec E s t := by
  rintro E s t hs hP hD ⟨u, -, ⟨hE, hP1, hD1⟩, hF⟩
  obtain ⟨h1, h2⟩ := hX E u hE
  obtain ⟨ws', k1, k2⟩ := st_join hp hs hP hD hF hP1 hD1 h2
  exact ⟨ws', trivial, ⟨h1, k1⟩, k2⟩
theorem wr_i {S' : Type} {X Y : va_W} {X1 : S' → va_W} {post : Int32 → S' → Prop} {XC : String → State → State → Prop} {S : oT} {ec : String → Nat → Prop} {po : Int32 → Prop} (hM : vx_Met l y w rm (va_Pc lst (pB g z H0 (va_P g.1 cls X H0 ∧ va_D (zA z) X ∧ F))) (va_Qi post (fun u t => va_P g.1 cls (X1 u) t.heap ∧ va_D (va_A X H0.size) (X1 u)) (va_A X H0.size)) XC mc ms (va_A X H0.size)) (hp : ws.Perm (X ++ Y)) (hF : F)
    (hQ : ∀ rr u, post rr u → po rr ∧ ∃ ws', ws'.Perm (X1 u ++ Y) ∧ jI g h S.2.2 ws') (hX : ∀ E (s t : State), s.heap = H0 → va_P g.1 cls ws H0 → va_D (zA z) ws → XC E s t → jX g h ws H0 S ec E s t) : vx_Met l y w rm (va_Pc lst (jPre g z H0 ws)) (jQi g h ws H0 S.2.2 po) (jX g h ws H0 S ec) mc ms (va_A ws H0.size) := by
  refine vx_cq hM (fun a s hp9 => ⟨hp9.1, hp9.2.1, hp9.2.2.1, perm_P hp hp9.2.2.2.1, perm_D hp hp9.2.2.2.2, hF⟩) (fun a s o t hp9 hq => ?_) (fun a s E t hp9 hx => hX E s t hp9.2.1 hp9.2.2.2.1 hp9.2.2.2.2 hx) (sub_A hp)
  obtain ⟨⟨r, u, ho, hP, hP1, hD1⟩, hF2⟩ := hq
  obtain ⟨h1, h2⟩ := hQ r u hP
  obtain ⟨ws', k1, k2⟩ := st_join hp hp9.2.1 hp9.2.2.2.1 hp9.2.2.2.2 hF2 hP1 hD1 h2
  exact ⟨⟨r, ws', ho, h1, k1⟩, k2⟩
theorem wr_v {S' : Type} {X Y : va_W} {X1 : S' → va_W} {post : S' → Prop} {XC : String → State → State → Prop} {S : oT} {ec : String → Nat → Prop} {po : Prop} (hM : vx_Met l y w rm (va_Pc lst (pB g z H0 (va_P g.1 cls X H0 ∧ va_D (zA z) X ∧ F))) (va_Qv post (fun u t => va_P g.1 cls (X1 u) t.heap ∧ va_D (va_A X H0.size) (X1 u)) (va_A X H0.size)) XC mc ms (va_A X H0.size)) (hp : ws.Perm (X ++ Y)) (hF : F)
    (hQ : ∀ u, post u → po ∧ ∃ ws', ws'.Perm (X1 u ++ Y) ∧ jI g h S.2.2 ws') (hX : ∀ E (s t : State), s.heap = H0 → va_P g.1 cls ws H0 → va_D (zA z) ws → XC E s t → jX g h ws H0 S ec E s t) : vx_Met l y w rm (va_Pc lst (jPre g z H0 ws)) (jQv g h ws H0 S.2.2 po) (jX g h ws H0 S ec) mc ms (va_A ws H0.size) := by
  refine vx_cq hM (fun a s hp9 => ⟨hp9.1, hp9.2.1, hp9.2.2.1, perm_P hp hp9.2.2.2.1, perm_D hp hp9.2.2.2.2, hF⟩) (fun a s o t hp9 hq => ?_) (fun a s E t hp9 hx => hX E s t hp9.2.1 hp9.2.2.2.1 hp9.2.2.2.2 hx) (sub_A hp)
  obtain ⟨⟨u, ho, hP, hP1, hD1⟩, hF2⟩ := hq
  obtain ⟨h1, h2⟩ := hQ u hP
  obtain ⟨ws', k1, k2⟩ := st_join hp hp9.2.1 hp9.2.2.2.1 hp9.2.2.2.2 hF2 hP1 hD1 h2
  exact ⟨⟨ws', ho, h1, k1⟩, k2⟩
end ST
theorem hs01 {np : Nat} {PL : Nat → List Bx} {v x y z rr : Int32} (e : hsF np PL v x y z = (0, rr)) : rr = nI 0 ∨ rr = nI 1 := by
  unfold hsF at e
  by_cases h : noP v np
  · rw [if_pos h] at e; cases e
  · rw [if_neg h] at e
    have e2 := congrArg Prod.snd e
    dsimp only at e2
    by_cases q : (PL (nat32 v)).any (inX x y z) = true
    · rw [if_pos q] at e2; exact Or.inr e2.symm
    · rw [if_neg q] at e2; exact Or.inl e2.symm
set_option maxHeartbeats 4000000 in
set_option maxRecDepth 100000 in
theorem s_J_pieces (l : Launch) (hlt : l.stackTraces = false) (g : gT) (z : Nat) (H0 : Heap) (h : Nat) (σ : sT) (ws : va_W) (hj : jI g h σ ws) (v : Int32) : vx_Met l y_J_pieces w_J_pieces ({ frames := 7, cells := 1, slots := 6, locals := 103 }) (va_Pc [.ref h, .int v] (jPre g z H0 ws)) (jQi g h ws H0 (s_pieces σ v).2.2 (fun rr => (s_pieces σ v).1 = 0 ∧ (s_pieces σ v).2.1 = rr.toInt64)) (jX g h ws H0 (s_pieces σ v) ec1) 1 6 (va_A ws H0.size) := by
  obtain ⟨fs, ad, gp, gk, sk, nn, ff, PA, PB, PF, KA, hw, hfs, hR, hO⟩ := id hj
  obtain ⟨hlen, hf0, hf1, hf2, hf3, hf4, hf5, hf6, hf7, hf8, hf9, hf10, hf11, hf12, hf13⟩ := hfs
  refine rd_i (x_J_pieces l hlt g z H0 h fs (ad 0) σ.1 gp PA PB PF σ.2.2.1 v) (fun hP => ?_) hj (fun rr e => ⟨congrArg Prod.fst e, congrArg (fun x => x.2.toInt64) e⟩) rfl (fun E e => e)
  subst hw
  exact ⟨hP.sub (ws' := [(h, .inr (1, fs)), (ad 0, ePS g 8 gp)]) [0, 1] rfl, hf0, (jI_pP hP hR hO).1⟩
set_option maxHeartbeats 4000000 in
set_option maxRecDepth 100000 in
theorem s_J_corner (l : Launch) (hlt : l.stackTraces = false) (g : gT) (z : Nat) (H0 : Heap) (h : Nat) (σ : sT) (ws : va_W) (hj : jI g h σ ws) (v pv kv : Int32) : vx_Met l y_J_corner w_J_corner ({ frames := 7, cells := 2, slots := 12, locals := 103 }) (va_Pc [.ref h, .int v, .int pv, .int kv] (jPre g z H0 ws)) (jQi g h ws H0 (s_corner σ v pv kv).2.2 (fun rr => (s_corner σ v pv kv).1 = 0 ∧ (s_corner σ v pv kv).2.1 = rr.toInt64)) (jX g h ws H0 (s_corner σ v pv kv) ec1) 2 12 (va_A ws H0.size) := by
  obtain ⟨fs, ad, gp, gk, sk, nn, ff, PA, PB, PF, KA, hw, hfs, hR, hO⟩ := id hj
  obtain ⟨hlen, hf0, hf1, hf2, hf3, hf4, hf5, hf6, hf7, hf8, hf9, hf10, hf11, hf12, hf13⟩ := hfs
  refine rd_i (x_J_corner l hlt g z H0 h fs (ad 0) σ.1 gp PA PB PF σ.2.2.1 v pv kv) (fun hP => ?_) hj (fun rr e => ⟨congrArg Prod.fst e, congrArg (fun x => x.2.toInt64) e⟩) rfl (fun E e => e)
  subst hw
  exact ⟨hP.sub (ws' := [(h, .inr (1, fs)), (ad 0, ePS g 8 gp)]) [0, 1] rfl, hf0, (jI_pP hP hR hO).1⟩
set_option maxHeartbeats 4000000 in
set_option maxRecDepth 100000 in
theorem s_J_volume (l : Launch) (hlt : l.stackTraces = false) (g : gT) (z : Nat) (H0 : Heap) (h : Nat) (σ : sT) (ws : va_W) (hj : jI g h σ ws) (v : Int32) : vx_Met l y_J_volume w_J_volume ({ frames := 7, cells := 1, slots := 6, locals := 103 }) (va_Pc [.ref h, .int v] (jPre g z H0 ws)) (jQl g h ws H0 (s_volume σ v).2.2 (fun rr => (s_volume σ v).1 = 0 ∧ (s_volume σ v).2.1 = rr)) (jX g h ws H0 (s_volume σ v) ec1) 1 6 (va_A ws H0.size) := by
  obtain ⟨fs, ad, gp, gk, sk, nn, ff, PA, PB, PF, KA, hw, hfs, hR, hO⟩ := id hj
  obtain ⟨hlen, hf0, hf1, hf2, hf3, hf4, hf5, hf6, hf7, hf8, hf9, hf10, hf11, hf12, hf13⟩ := hfs
  refine rd_l (x_J_volume l hlt g z H0 h fs (ad 0) σ.1 gp PA PB PF σ.2.2.1 v) (fun hP => ?_) hj (fun rr e => ⟨congrArg Prod.fst e, congrArg (fun x => x.2) e⟩) rfl (fun E e => e)
  subst hw
  exact ⟨hP.sub (ws' := [(h, .inr (1, fs)), (ad 0, ePS g 8 gp)]) [0, 1] rfl, hf0, (jI_pP hP hR hO).1⟩
set_option maxHeartbeats 4000000 in
set_option maxRecDepth 100000 in
theorem s_J_has (l : Launch) (hlt : l.stackTraces = false) (g : gT) (z : Nat) (H0 : Heap) (h : Nat) (σ : sT) (ws : va_W) (hj : jI g h σ ws) (v x y zz : Int32) : vx_Met l y_J_has w_J_has ({ frames := 7, cells := 1, slots := 6, locals := 103 }) (va_Pc [.ref h, .int v, .int x, .int y, .int zz] (jPre g z H0 ws)) (jQi g h ws H0 (s_has σ v x y zz).2.2 (fun rr => (s_has σ v x y zz).1 = 0 ∧ (s_has σ v x y zz).2.1 = rr.toInt64 ∧ (rr = nI 0 ∨ rr = nI 1))) (jX g h ws H0 (s_has σ v x y zz) ec1) 1 6 (va_A ws H0.size) := by
  obtain ⟨fs, ad, gp, gk, sk, nn, ff, PA, PB, PF, KA, hw, hfs, hR, hO⟩ := id hj
  obtain ⟨hlen, hf0, hf1, hf2, hf3, hf4, hf5, hf6, hf7, hf8, hf9, hf10, hf11, hf12, hf13⟩ := hfs
  refine rd_i (x_J_has l hlt g z H0 h fs (ad 0) σ.1 gp PA PB PF σ.2.2.1 v x y zz) (fun hP => ?_) hj (fun rr e => ⟨congrArg Prod.fst e, congrArg (fun x => x.2.toInt64) e, hs01 e⟩) rfl (fun E e => e)
  subst hw
  exact ⟨hP.sub (ws' := [(h, .inr (1, fs)), (ad 0, ePS g 8 gp)]) [0, 1] rfl, hf0, (jI_pP hP hR hO).1⟩
set_option maxHeartbeats 4000000 in
set_option maxRecDepth 100000 in
theorem s_J_overlap (l : Launch) (hlt : l.stackTraces = false) (g : gT) (z : Nat) (H0 : Heap) (h : Nat) (σ : sT) (ws : va_W) (hj : jI g h σ ws) (v v2 : Int32) : vx_Met l y_J_overlap w_J_overlap ({ frames := 7, cells := 3, slots := 18, locals := 103 }) (va_Pc [.ref h, .int v, .int v2] (jPre g z H0 ws)) (jQl g h ws H0 (s_two ovL σ v v2).2.2 (fun rr => (s_two ovL σ v v2).1 = 0 ∧ (s_two ovL σ v v2).2.1 = rr)) (jX g h ws H0 (s_two ovL σ v v2) ec2) 3 18 (va_A ws H0.size) := by
  obtain ⟨fs, ad, gp, gk, sk, nn, ff, PA, PB, PF, KA, hw, hfs, hR, hO⟩ := id hj
  obtain ⟨hlen, hf0, hf1, hf2, hf3, hf4, hf5, hf6, hf7, hf8, hf9, hf10, hf11, hf12, hf13⟩ := hfs
  refine rd_l (x_J_overlap l hlt g z H0 h fs (ad 0) σ.1 gp PA PB PF σ.2.2.1 v v2) (fun hP => ?_) hj (fun rr e => ⟨congrArg Prod.fst e, congrArg (fun x => x.2) e⟩) rfl (fun E e => e)
  subst hw
  exact ⟨hP.sub (ws' := [(h, .inr (1, fs)), (ad 0, ePS g 8 gp)]) [0, 1] rfl, hf0, (jI_pP hP hR hO).1⟩
set_option maxHeartbeats 4000000 in
set_option maxRecDepth 100000 in
theorem s_J_touch (l : Launch) (hlt : l.stackTraces = false) (g : gT) (z : Nat) (H0 : Heap) (h : Nat) (σ : sT) (ws : va_W) (hj : jI g h σ ws) (v v2 : Int32) : vx_Met l y_J_touch w_J_touch ({ frames := 7, cells := 3, slots := 18, locals := 103 }) (va_Pc [.ref h, .int v, .int v2] (jPre g z H0 ws)) (jQl g h ws H0 (s_two toL σ v v2).2.2 (fun rr => (s_two toL σ v v2).1 = 0 ∧ (s_two toL σ v v2).2.1 = rr)) (jX g h ws H0 (s_two toL σ v v2) ec2) 3 18 (va_A ws H0.size) := by
  obtain ⟨fs, ad, gp, gk, sk, nn, ff, PA, PB, PF, KA, hw, hfs, hR, hO⟩ := id hj
  obtain ⟨hlen, hf0, hf1, hf2, hf3, hf4, hf5, hf6, hf7, hf8, hf9, hf10, hf11, hf12, hf13⟩ := hfs
  refine rd_l (x_J_touch l hlt g z H0 h fs (ad 0) σ.1 gp PA PB PF σ.2.2.1 v v2) (fun hP => ?_) hj (fun rr e => ⟨congrArg Prod.fst e, congrArg (fun x => x.2) e⟩) rfl (fun E e => e)
  subst hw
  exact ⟨hP.sub (ws' := [(h, .inr (1, fs)), (ad 0, ePS g 8 gp)]) [0, 1] rfl, hf0, (jI_pP hP hR hO).1⟩
set_option maxHeartbeats 4000000 in
set_option maxRecDepth 100000 in
theorem s_J_strength (l : Launch) (hlt : l.stackTraces = false) (g : gT) (z : Nat) (H0 : Heap) (h : Nat) (σ : sT) (ws : va_W) (hj : jI g h σ ws) (v : Int32) : vx_Met l y_J_strength w_J_strength ({ frames := 7, cells := 1, slots := 6, locals := 103 }) (va_Pc [.ref h, .int v] (jPre g z H0 ws)) (jQl g h ws H0 (s_strength σ v).2.2 (fun rr => (s_strength σ v).1 = 0 ∧ (s_strength σ v).2.1 = rr)) (jX g h ws H0 (s_strength σ v) ec1) 1 6 (va_A ws H0.size) := by
  obtain ⟨fs, ad, gp, gk, sk, nn, ff, PA, PB, PF, KA, hw, hfs, hR, hO⟩ := id hj
  obtain ⟨hlen, hf0, hf1, hf2, hf3, hf4, hf5, hf6, hf7, hf8, hf9, hf10, hf11, hf12, hf13⟩ := hfs
  refine rd_l (x_J_strength l hlt g z H0 h fs (ad 0) σ.1 gp PA PB PF σ.2.2.1 (ad 2) σ.2.2.2.2.2.1 gk KA σ.2.2.2.2.2.2 (ad 3) σ.2.2.2.2.1 v) (fun hP => ?_) hj (fun rr e => ⟨congrArg Prod.fst e, congrArg (fun x => x.2) e⟩) rfl (fun E e => e)
  subst hw
  exact ⟨hP.sub (ws' := [(h, .inr (1, fs)), (ad 0, ePS g 8 gp), (ad 2, ePK g 12 gk), (ad 3, eI g 5 σ.2.2.2.2.1)]) [0, 1, 3, 4] rfl, hf0, hf3, hf5, (jI_pP hP hR hO).1, (jI_pP hP hR hO).2, hO.2.2.2.2⟩
set_option maxHeartbeats 4000000 in
set_option maxRecDepth 100000 in
theorem s_J_about (l : Launch) (hlt : l.stackTraces = false) (g : gT) (z : Nat) (H0 : Heap) (h : Nat) (σ : sT) (ws : va_W) (hj : jI g h σ ws) (v wv : Int32) : vx_Met l y_J_about w_J_about ({ frames := 7, cells := 2, slots := 12, locals := 103 }) (va_Pc [.ref h, .int v, .int wv] (jPre g z H0 ws)) (jQl g h ws H0 (s_about σ v wv).2.2 (fun rr => (s_about σ v wv).1 = 0 ∧ (s_about σ v wv).2.1 = rr)) (jX g h ws H0 (s_about σ v wv) ec1) 2 12 (va_A ws H0.size) := by
  obtain ⟨fs, ad, gp, gk, sk, nn, ff, PA, PB, PF, KA, hw, hfs, hR, hO⟩ := id hj
  obtain ⟨hlen, hf0, hf1, hf2, hf3, hf4, hf5, hf6, hf7, hf8, hf9, hf10, hf11, hf12, hf13⟩ := hfs
  refine rd_l (x_J_about l hlt g z H0 h fs (ad 2) σ.2.2.2.2.2.1 gk KA σ.2.2.2.2.2.2 v wv) (fun hP => ?_) hj (fun rr e => ⟨congrArg Prod.fst e, congrArg (fun x => x.2) e⟩) rfl (fun E e => e)
  subst hw
  exact ⟨hP.sub (ws' := [(h, .inr (1, fs)), (ad 2, ePK g 12 gk)]) [0, 3] rfl, hf3, (jI_pP hP hR hO).2⟩
