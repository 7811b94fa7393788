/-! New arrays and objects, with the array classes that the contracts carry. -/
theorem cA_int {g : gT} {s : State} {cA : ClassId} (hK : va_K g.1 cls (gY g) s) (h : va_K g.1 cls (gY g ++ [(cA, .int)]) s) : cA = g.2.1 :=
  Option.some.inj ((h.2 4 (cA, .int) rfl).2.symm.trans (hK.2 0 (g.2.1, .int) rfl).2)
theorem cA_long {g : gT} {s : State} {cA : ClassId} (hK : va_K g.1 cls (gY g) s) (h : va_K g.1 cls (gY g ++ [(cA, .long)]) s) : cA = g.2.2.1 :=
  Option.some.inj ((h.2 4 (cA, .long) rfl).2.symm.trans (hK.2 1 (g.2.2.1, .long) rfl).2)
theorem cA_S {g : gT} {s : State} {cA : ClassId} (hK : va_K g.1 cls (gY g) s) (h : va_K g.1 cls (gY g ++ [(cA, .object R_S)]) s) : cA = g.2.2.2.1 := by
  obtain ⟨_, _, _, _, _, h1⟩ := (h.2 4 (cA, .object R_S) rfl).2
  obtain ⟨_, _, _, _, _, h2⟩ := (hK.2 2 (g.2.2.2.1, .object R_S) rfl).2
  exact Option.some.inj (h1.symm.trans h2)
theorem cA_K {g : gT} {s : State} {cA : ClassId} (hK : va_K g.1 cls (gY g) s) (h : va_K g.1 cls (gY g ++ [(cA, .object R_K)]) s) : cA = g.2.2.2.2 := by
  obtain ⟨_, _, _, _, _, h1⟩ := (h.2 4 (cA, .object R_K) rfl).2
  obtain ⟨_, _, _, _, _, h2⟩ := (hK.2 3 (g.2.2.2.2, .object R_K) rfl).2
  exact Option.some.inj (h1.symm.trans h2)
section JN
variable {p : Program} {l : Launch} {e : Env} {R : Room} {s : State} {m : MethodId} {args : Array Value} {below : List Frame} {meth : Method} {c : Code} {H : Heap} {locs : List Loc} {cells slots : Nat} {Q : State → Prop}
variable {pc : Nat} {ls : Array Slot} {rest : List Value} {cc : ByteArray}
theorem ja_newI {g : gT} {ws : va_W} {A : Nat → Prop} {H0 : Heap} (hexec : p.tables.exec = Jvm.exec) (hb : c.code = cc) (harr : (Cond.arrayClass .int).before args s = true) (hK : va_K g.1 cls (gY g) s) (hP : va_P g.1 cls ws H) (hD : va_D A ws) (hS : va_S A H0 H locs) (hA : ∀ q, H0.size ≤ q → A q) {n : Nat} (hn : n ≤ 100000) (hcells : cells + 1 ≤ R.cells) (hslots : slots + n ≤ R.slots) (hdg : decode cc pc = .ok (.newarray .int, 2))
    (kk : ∀ (q : Nat) (H1 : Heap), va_P g.1 cls (ws ++ [(q, eI g n (fun _ => nI 0))]) H1 → va_D A (ws ++ [(q, eI g n (fun _ => nI 0))]) → va_S A H0 H1 locs → W p l e R s m args below meth c H1 locs (cells + 1) (slots + n) Q (F0 m (pc + 2) ls (.ref q :: rest))) : W p l e R s m args below meth c H locs cells slots Q (F0 m pc ls (.int (nI n) :: rest)) := by
  refine va_newa hexec hb (atype := .int) harr (ty := .int) rfl hK hP hD hS hA (N' := n) (a0 := (n, .inl (fun _ => nI 0))) (fun cA => rfl) (nI_pos (by omega)) (nI_clamp (by omega)) (by show n * 4 ≤ _; omega) hcells hslots hdg (fun q cA H1 k1 k2 k3 k4 => ?_)
  have e := cA_int hK k1
  subst e
  exact kk q H1 k2 k3 k4
theorem ja_newL {g : gT} {ws : va_W} {A : Nat → Prop} {H0 : Heap} (hexec : p.tables.exec = Jvm.exec) (hb : c.code = cc) (harr : (Cond.arrayClass .long).before args s = true) (hK : va_K g.1 cls (gY g) s) (hP : va_P g.1 cls ws H) (hD : va_D A ws) (hS : va_S A H0 H locs) (hA : ∀ q, H0.size ≤ q → A q) {n : Nat} (hn : n ≤ 100000) (hcells : cells + 1 ≤ R.cells) (hslots : slots + n ≤ R.slots) (hdg : decode cc pc = .ok (.newarray .long, 2))
    (kk : ∀ (q : Nat) (H1 : Heap), va_P g.1 cls (ws ++ [(q, eL g n (fun _ => 0))]) H1 → va_D A (ws ++ [(q, eL g n (fun _ => 0))]) → va_S A H0 H1 locs → W p l e R s m args below meth c H1 locs (cells + 1) (slots + n) Q (F0 m (pc + 2) ls (.ref q :: rest))) : W p l e R s m args below meth c H locs cells slots Q (F0 m pc ls (.int (nI n) :: rest)) := by
  refine va_newa hexec hb (atype := .long) harr (ty := .long) rfl hK hP hD hS hA (N' := n) (a0 := (n, .inr (.inl (fun _ => 0)))) (fun cA => rfl) (nI_pos (by omega)) (nI_clamp (by omega)) (by show n * 8 ≤ _; omega) hcells hslots hdg (fun q cA H1 k1 k2 k3 k4 => ?_)
  have e := cA_long hK k1
  subst e
  exact kk q H1 k2 k3 k4
theorem ja_newPS {g : gT} {ws : va_W} {A : Nat → Prop} {H0 : Heap} {own : String} {index : Nat} (hexec : p.tables.exec = Jvm.exec) (hb : c.code = cc) (hown : s.vm.findClass own = some m.cls) (hclink : (Cond.classLink own index R_S).before args s = true) (hover : va_AO R_S s) (hK : va_K g.1 cls (gY g) s) (hP : va_P g.1 cls ws H) (hD : va_D A ws) (hS : va_S A H0 H locs) (hA : ∀ q, H0.size ≤ q → A q) {n : Nat} (hn : n ≤ 100000) (hcells : cells + 1 ≤ R.cells) (hslots : slots + n ≤ R.slots) (hdg : decode cc pc = .ok (.anewarray index, 3))
    (kk : ∀ (q : Nat) (H1 : Heap), va_P g.1 cls (ws ++ [(q, ePS g n (fun _ => none))]) H1 → va_D A (ws ++ [(q, ePS g n (fun _ => none))]) → va_S A H0 H1 locs → W p l e R s m args below meth c H1 locs (cells + 1) (slots + n) Q (F0 m (pc + 3) ls (.ref q :: rest))) : W p l e R s m args below meth c H locs cells slots Q (F0 m pc ls (.int (nI n) :: rest)) := by
  refine va_newq hexec hb hown hclink hover hK hP hD hS hA (N' := n) (nI_pos (by omega)) (nI_clamp (by omega)) (by omega) hcells hslots hdg (fun q cA H1 k1 k2 k3 k4 => ?_)
  have e := cA_S hK k1
  subst e
  exact kk q H1 k2 k3 k4
theorem ja_newPK {g : gT} {ws : va_W} {A : Nat → Prop} {H0 : Heap} {own : String} {index : Nat} (hexec : p.tables.exec = Jvm.exec) (hb : c.code = cc) (hown : s.vm.findClass own = some m.cls) (hclink : (Cond.classLink own index R_K).before args s = true) (hover : va_AO R_K s) (hK : va_K g.1 cls (gY g) s) (hP : va_P g.1 cls ws H) (hD : va_D A ws) (hS : va_S A H0 H locs) (hA : ∀ q, H0.size ≤ q → A q) {n : Nat} (hn : n ≤ 100000) (hcells : cells + 1 ≤ R.cells) (hslots : slots + n ≤ R.slots) (hdg : decode cc pc = .ok (.anewarray index, 3))
    (kk : ∀ (q : Nat) (H1 : Heap), va_P g.1 cls (ws ++ [(q, ePK g n (fun _ => none))]) H1 → va_D A (ws ++ [(q, ePK g n (fun _ => none))]) → va_S A H0 H1 locs → W p l e R s m args below meth c H1 locs (cells + 1) (slots + n) Q (F0 m (pc + 3) ls (.ref q :: rest))) : W p l e R s m args below meth c H locs cells slots Q (F0 m pc ls (.int (nI n) :: rest)) := by
  refine va_newq hexec hb hown hclink hover hK hP hD hS hA (N' := n) (nI_pos (by omega)) (nI_clamp (by omega)) (by omega) hcells hslots hdg (fun q cA H1 k1 k2 k3 k4 => ?_)
  have e := cA_K hK k1
  subst e
  exact kk q H1 k2 k3 k4
end JN
