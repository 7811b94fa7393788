def wr6 (md : Nat → Int32) (n : Nat) (v0 V0 v1 V1 v2 V2 : Int32) : Nat → Int32 := upd (upd (upd (upd (upd (upd md ((6 * n) + 0) v0) (((6 * n) + 3) + 0) V0) ((6 * n) + 1) v1) (((6 * n) + 3) + 1) V1) ((6 * n) + 2) v2) (((6 * n) + 3) + 2) V2
def loK (fd : Nat → Int32) (o : Nat) (bx : Nat → Int32) (a k : Nat) : Int32 := if k < a then mxI (fd (o + k)) (bx k) else fd (o + k)
def hiK (fd : Nat → Int32) (o : Nat) (bx : Nat → Int32) (a k : Nat) : Int32 := if k < a then mnI (fd ((o + 3) + k)) (bx (3 + k)) else fd ((o + 3) + k)
/-- the piece before the tool's box along the axis a -/
def pS0 (fd : Nat → Int32) (o : Nat) (bx : Nat → Int32) (a : Nat) (q : Nat × (Nat → Int32)) : Nat × (Nat → Int32) := if ¬ bx a ≤ fd (o + a) then (q.1 + 1, wr6 q.2 q.1 (loK fd o bx a 0) (if 0 = a then bx a else hiK fd o bx a 0) (loK fd o bx a 1) (if 1 = a then bx a else hiK fd o bx a 1) (loK fd o bx a 2) (if 2 = a then bx a else hiK fd o bx a 2)) else q
/-- the piece behind it -/
def pS1 (fd : Nat → Int32) (o : Nat) (bx : Nat → Int32) (a : Nat) (q : Nat × (Nat → Int32)) : Nat × (Nat → Int32) := if ¬ fd ((o + 3) + a) ≤ bx (3 + a) then (q.1 + 1, wr6 q.2 q.1 (if 0 = a then bx (3 + a) else loK fd o bx a 0) (hiK fd o bx a 0) (if 1 = a then bx (3 + a) else loK fd o bx a 1) (hiK fd o bx a 1) (if 2 = a then bx (3 + a) else loK fd o bx a 2) (hiK fd o bx a 2)) else q
def pAl (fd : Nat → Int32) (o : Nat) (bx : Nat → Int32) (q : Nat × (Nat → Int32)) : Nat × (Nat → Int32) := pS1 fd o bx 2 (pS0 fd o bx 2 (pS1 fd o bx 1 (pS0 fd o bx 1 (pS1 fd o bx 0 (pS0 fd o bx 0 q)))))
set_option maxHeartbeats 4000000 in
set_option maxRecDepth 100000 in
theorem m_M_pare (l : Launch) (g : gT) (z : Nat) (H0 : Heap) (h : Nat) (fs : List Value) (ad amd ab : Nat) (fd md bx : Nat → Int32) (o c0 : Nat) : Met l y_M_pare w_M_pare ({ frames := 1, cells := 0, slots := 0, locals := 21 }) (va_Pc [.ref h, .int (nI (o)), .int (nI (c0))] (pB g z H0 (va_P g.1 cls [(h, .inr (3, fs)), (ad, eI g 288 (fd)), (amd, eI g 1008 (md)), (ab, eI g 6 (bx))] H0 ∧ va_D (zA z) [(h, .inr (3, fs)), (ad, eI g 288 (fd)), (amd, eI g 1008 (md)), (ab, eI g 6 (bx))] ∧ (fs[5]? = some (.ref ad) ∧ fs[7]? = some (.ref amd) ∧ fs[8]? = some (.ref ab) ∧ o + 6 ≤ 288 ∧ c0 ≤ 150)))) (va_Qi (fun (rr : Int32) (u : Nat × (Nat → Int32)) => rr = nI u.1 ∧ u = pAl fd o bx (c0, md) ∧ u.1 ≤ c0 + 6) (fun (u : Nat × (Nat → Int32)) t => va_P g.1 cls [(h, .inr (3, fs)), (ad, eI g 288 (fd)), (amd, eI g 1008 (u.2)), (ab, eI g 6 (bx))] t.heap ∧ va_D (va_A [(h, .inr (3, fs)), (ad, eI g 288 (fd)), (amd, eI g 1008 (md)), (ab, eI g 6 (bx))] H0.size) [(h, .inr (3, fs)), (ad, eI g 288 (fd)), (amd, eI g 1008 (u.2)), (ab, eI g 6 (bx))]) (va_A [(h, .inr (3, fs)), (ad, eI g 288 (fd)), (amd, eI g 1008 (md)), (ab, eI g 6 (bx))] H0.size)) 0 0 (va_A [(h, .inr (3, fs)), (ad, eI g 288 (fd)), (amd, eI g 1008 (md)), (ab, eI g 6 (bx))] H0.size) := by
  refine Met.ofW (cc := c_M_pare) (maxL := 10) (ret := (some .int)) (by decide) rfl ?_
  intro p e s m args below meth c s₁ B hml hv
  obtain ⟨rfl, hH0, ha, hP, hD0, hf5, hf7, hf8, ho, hc0⟩ := hv
  have hx := B.exec
  have hb := B.bytes
  have hr := B.returns
  have htB : ∀ w ∈ tB, w.before _ s = true := fun w h => atoms_spec (ws := w_M_pare) B.pre w (List.mem_cons_of_mem _ h)
  have hown : s.vm.findClass "JointSolidsModel" = some m.cls := findClass_of_methodNamed B.named
  have hlocks := B.notSynchronized
  subst hH0
  have hD := hD0.self (sz := s.heap.size)
  have hz := aA_z hD0 ha.2.2.2.2.2
  generalize hAe : va_A [(h, .inr (3, fs)), (ad, eI g 288 (fd)), (amd, eI g 1008 (md)), (ab, eI g 6 (bx))] s.heap.size = A at hD hz ⊢
  have hA : ∀ q : Nat, s.heap.size ≤ q → A q := fun q h => by rw [← hAe]; exact Or.inr h
  have hS : va_S A s.heap s.heap [] := va_S.rf
  refine W.ofH hP hS (fun H locs hP hS => ?_)
  have hl := lv_entry ([.ref h, .int (nI (o)), .int (nI (c0))]) (n := 10) (Nat.le_of_ble_eq_true rfl)
  rw [lg_entry_eq]
  generalize (lg_sl ([.ref h, .int (nI (o)), .int (nI (c0))]) ++ List.replicate (10 - (lg_sl ([.ref h, .int (nI (o)), .int (nI (c0))])).length) Slot.unset).toArray = ls at hl ⊢
  have hl : lv_has ls 10 [(0, .ref h), (1, .int (nI (o))), (2, .int (nI (c0)))] := hl
  refine lv_iload_n hx hb d_M_pare_0 rfl (lv_at hl 2 rfl) ?_
  refine lv_istore_n (lv' := [(3, .int (nI (c0))), (0, .ref h), (1, .int (nI (o))), (2, .int (nI (c0)))]) hx hb d_M_pare_1 rfl hl (by decide) rfl (fun ls hl => ?_)
  refine lv_iconst (v := (nI (0))) hx hb d_M_pare_2 (by decide) ?_
  refine lv_istore (lv' := [(4, .int (nI (0))), (3, .int (nI (c0))), (0, .ref h), (1, .int (nI (o))), (2, .int (nI (c0)))]) hx hb d_M_pare_3 hl (by decide) rfl (fun ls hl => ?_)
  refine lv_iload hx hb d_M_pare_5 (lv_at hl 0 rfl) ?_
  refine lv_iconst (v := (nI (3))) hx hb d_M_pare_7 (by decide) ?_
  refine jv_icmp_ge (tgt := 280) hx hb (by omega) (by omega) d_M_pare_8 (by decide) (fun h => absurd h (by decide)) (fun _ => ?_)
  refine lv_iconst (v := (nI (0))) hx hb d_M_pare_11 (by decide) ?_
  refine lv_istore (lv' := [(5, .int (nI (0))), (4, .int (nI (0))), (3, .int (nI (c0))), (0, .ref h), (1, .int (nI (o))), (2, .int (nI (c0)))]) hx hb d_M_pare_12 hl (by decide) rfl (fun ls hl => ?_)
  refine W.join (pc2 := 268) (X := fun ls locs H => ∃ (c1 : Nat) (md1 : Nat → Int32), (c1, md1) = pS0 fd o bx 0 (c0, md) ∧ c1 ≤ c0 + 1 ∧ lv_has ls 10 [(0, .ref h), (1, .int (nI (o))), (2, .int (nI (c0))), (3, .int (nI (c1))), (4, .int (nI (0))), (5, .int (nI (0)))] ∧ va_P g.1 cls [(h, .inr (3, fs)), (ad, eI g 288 (fd)), (amd, eI g 1008 (md1)), (ab, eI g 6 (bx))] H ∧ va_D A [(h, .inr (3, fs)), (ad, eI g 288 (fd)), (amd, eI g 1008 (md1)), (ab, eI g 6 (bx))] ∧ va_S A s.heap H locs) (fun ls locs H hX => ?_) (fun K1 => ?_)
  · obtain ⟨c1, md1, hc1, hle1, hl, hP, hD, hS⟩ := hX
    refine lv_iinc (v := nI (1)) (lv' := [(5, .int (nI (1))), (0, .ref h), (1, .int (nI (o))), (2, .int (nI (c0))), (3, .int (nI (c1))), (4, .int (nI (0)))]) hx hb d_M_pare_268 hl (k := 5) rfl (nI_add _ 1) (by decide) rfl (fun ls hl => ?_)
    refine lv_goto (tgt := 14) hx hb d_M_pare_271 (by decide) ?_
    refine W.join (pc2 := 268) (X := fun ls locs H => ∃ (c2 : Nat) (md2 : Nat → Int32), (c2, md2) = pS1 fd o bx 0 (c1, md1) ∧ c2 ≤ c1 + 1 ∧ lv_has ls 10 [(0, .ref h), (1, .int (nI (o))), (2, .int (nI (c0))), (3, .int (nI (c2))), (4, .int (nI (0))), (5, .int (nI (1)))] ∧ va_P g.1 cls [(h, .inr (3, fs)), (ad, eI g 288 (fd)), (amd, eI g 1008 (md2)), (ab, eI g 6 (bx))] H ∧ va_D A [(h, .inr (3, fs)), (ad, eI g 288 (fd)), (amd, eI g 1008 (md2)), (ab, eI g 6 (bx))] ∧ va_S A s.heap H locs) (fun ls locs H hX => ?_) (fun K2 => ?_)
    · obtain ⟨c2, md2, hc2, hle2, hl, hP, hD, hS⟩ := hX
      refine lv_iinc (v := nI (2)) (lv' := [(5, .int (nI (2))), (0, .ref h), (1, .int (nI (o))), (2, .int (nI (c0))), (3, .int (nI (c2))), (4, .int (nI (0)))]) hx hb d_M_pare_268 hl (k := 5) rfl (nI_add _ 1) (by decide) rfl (fun ls hl => ?_)
      refine lv_goto (tgt := 14) hx hb d_M_pare_271 (by decide) ?_
      refine lv_iload hx hb d_M_pare_14 (lv_at hl 0 rfl) ?_
      refine lv_iconst (v := (nI (2))) hx hb d_M_pare_16 (by decide) ?_
      refine jv_icmp_ge (tgt := 274) hx hb (by omega) (by omega) d_M_pare_17 (by decide) (fun _ => ?_) (fun h => absurd h (by decide))
      refine lv_iinc (v := nI (1)) (lv' := [(4, .int (nI (1))), (5, .int (nI (2))), (0, .ref h), (1, .int (nI (o))), (2, .int (nI (c0))), (3, .int (nI (c2)))]) hx hb d_M_pare_274 hl (k := 5) rfl (nI_add _ 1) (by decide) rfl (fun ls hl => ?_)
      refine lv_goto (tgt := 5) hx hb d_M_pare_277 (by decide) ?_
      refine lv_iload hx hb d_M_pare_5 (lv_at hl 0 rfl) ?_
      refine lv_iconst (v := (nI (3))) hx hb d_M_pare_7 (by decide) ?_
      refine jv_icmp_ge (tgt := 280) hx hb (by omega) (by omega) d_M_pare_8 (by decide) (fun h => absurd h (by decide)) (fun _ => ?_)
      refine lv_iconst (v := (nI (0))) hx hb d_M_pare_11 (by decide) ?_
      refine lv_istore (lv' := [(5, .int (nI (0))), (4, .int (nI (1))), (0, .ref h), (1, .int (nI (o))), (2, .int (nI (c0))), (3, .int (nI (c2)))]) hx hb d_M_pare_12 hl (by decide) rfl (fun ls hl => ?_)
      refine W.join (pc2 := 268) (X := fun ls locs H => ∃ (c3 : Nat) (md3 : Nat → Int32), (c3, md3) = pS0 fd o bx 1 (c2, md2) ∧ c3 ≤ c2 + 1 ∧ lv_has ls 10 [(0, .ref h), (1, .int (nI (o))), (2, .int (nI (c0))), (3, .int (nI (c3))), (4, .int (nI (1))), (5, .int (nI (0)))] ∧ va_P g.1 cls [(h, .inr (3, fs)), (ad, eI g 288 (fd)), (amd, eI g 1008 (md3)), (ab, eI g 6 (bx))] H ∧ va_D A [(h, .inr (3, fs)), (ad, eI g 288 (fd)), (amd, eI g 1008 (md3)), (ab, eI g 6 (bx))] ∧ va_S A s.heap H locs) (fun ls locs H hX => ?_) (fun K3 => ?_)
      · obtain ⟨c3, md3, hc3, hle3, hl, hP, hD, hS⟩ := hX
        refine lv_iinc (v := nI (1)) (lv' := [(5, .int (nI (1))), (0, .ref h), (1, .int (nI (o))), (2, .int (nI (c0))), (3, .int (nI (c3))), (4, .int (nI (1)))]) hx hb d_M_pare_268 hl (k := 5) rfl (nI_add _ 1) (by decide) rfl (fun ls hl => ?_)
        refine lv_goto (tgt := 14) hx hb d_M_pare_271 (by decide) ?_
        refine W.join (pc2 := 268) (X := fun ls locs H => ∃ (c4 : Nat) (md4 : Nat → Int32), (c4, md4) = pS1 fd o bx 1 (c3, md3) ∧ c4 ≤ c3 + 1 ∧ lv_has ls 10 [(0, .ref h), (1, .int (nI (o))), (2, .int (nI (c0))), (3, .int (nI (c4))), (4, .int (nI (1))), (5, .int (nI (1)))] ∧ va_P g.1 cls [(h, .inr (3, fs)), (ad, eI g 288 (fd)), (amd, eI g 1008 (md4)), (ab, eI g 6 (bx))] H ∧ va_D A [(h, .inr (3, fs)), (ad, eI g 288 (fd)), (amd, eI g 1008 (md4)), (ab, eI g 6 (bx))] ∧ va_S A s.heap H locs) (fun ls locs H hX => ?_) (fun K4 => ?_)
        · obtain ⟨c4, md4, hc4, hle4, hl, hP, hD, hS⟩ := hX
          refine lv_iinc (v := nI (2)) (lv' := [(5, .int (nI (2))), (0, .ref h), (1, .int (nI (o))), (2, .int (nI (c0))), (3, .int (nI (c4))), (4, .int (nI (1)))]) hx hb d_M_pare_268 hl (k := 5) rfl (nI_add _ 1) (by decide) rfl (fun ls hl => ?_)
          refine lv_goto (tgt := 14) hx hb d_M_pare_271 (by decide) ?_
          refine lv_iload hx hb d_M_pare_14 (lv_at hl 0 rfl) ?_
          refine lv_iconst (v := (nI (2))) hx hb d_M_pare_16 (by decide) ?_
          refine jv_icmp_ge (tgt := 274) hx hb (by omega) (by omega) d_M_pare_17 (by decide) (fun _ => ?_) (fun h => absurd h (by decide))
          refine lv_iinc (v := nI (2)) (lv' := [(4, .int (nI (2))), (5, .int (nI (2))), (0, .ref h), (1, .int (nI (o))), (2, .int (nI (c0))), (3, .int (nI (c4)))]) hx hb d_M_pare_274 hl (k := 5) rfl (nI_add _ 1) (by decide) rfl (fun ls hl => ?_)
          refine lv_goto (tgt := 5) hx hb d_M_pare_277 (by decide) ?_
          refine lv_iload hx hb d_M_pare_5 (lv_at hl 0 rfl) ?_
          refine lv_iconst (v := (nI (3))) hx hb d_M_pare_7 (by decide) ?_
          refine jv_icmp_ge (tgt := 280) hx hb (by omega) (by omega) d_M_pare_8 (by decide) (fun h => absurd h (by decide)) (fun _ => ?_)
          refine lv_iconst (v := (nI (0))) hx hb d_M_pare_11 (by decide) ?_
          refine lv_istore (lv' := [(5, .int (nI (0))), (4, .int (nI (2))), (0, .ref h), (1, .int (nI (o))), (2, .int (nI (c0))), (3, .int (nI (c4)))]) hx hb d_M_pare_12 hl (by decide) rfl (fun ls hl => ?_)
          refine W.join (pc2 := 268) (X := fun ls locs H => ∃ (c5 : Nat) (md5 : Nat → Int32), (c5, md5) = pS0 fd o bx 2 (c4, md4) ∧ c5 ≤ c4 + 1 ∧ lv_has ls 10 [(0, .ref h), (1, .int (nI (o))), (2, .int (nI (c0))), (3, .int (nI (c5))), (4, .int (nI (2))), (5, .int (nI (0)))] ∧ va_P g.1 cls [(h, .inr (3, fs)), (ad, eI g 288 (fd)), (amd, eI g 1008 (md5)), (ab, eI g 6 (bx))] H ∧ va_D A [(h, .inr (3, fs)), (ad, eI g 288 (fd)), (amd, eI g 1008 (md5)), (ab, eI g 6 (bx))] ∧ va_S A s.heap H locs) (fun ls locs H hX => ?_) (fun K5 => ?_)
          · obtain ⟨c5, md5, hc5, hle5, hl, hP, hD, hS⟩ := hX
            refine lv_iinc (v := nI (1)) (lv' := [(5, .int (nI (1))), (0, .ref h), (1, .int (nI (o))), (2, .int (nI (c0))), (3, .int (nI (c5))), (4, .int (nI (2)))]) hx hb d_M_pare_268 hl (k := 5) rfl (nI_add _ 1) (by decide) rfl (fun ls hl => ?_)
            refine lv_goto (tgt := 14) hx hb d_M_pare_271 (by decide) ?_
            refine W.join (pc2 := 268) (X := fun ls locs H => ∃ (c6 : Nat) (md6 : Nat → Int32), (c6, md6) = pS1 fd o bx 2 (c5, md5) ∧ c6 ≤ c5 + 1 ∧ lv_has ls 10 [(0, .ref h), (1, .int (nI (o))), (2, .int (nI (c0))), (3, .int (nI (c6))), (4, .int (nI (2))), (5, .int (nI (1)))] ∧ va_P g.1 cls [(h, .inr (3, fs)), (ad, eI g 288 (fd)), (amd, eI g 1008 (md6)), (ab, eI g 6 (bx))] H ∧ va_D A [(h, .inr (3, fs)), (ad, eI g 288 (fd)), (amd, eI g 1008 (md6)), (ab, eI g 6 (bx))] ∧ va_S A s.heap H locs) (fun ls locs H hX => ?_) (fun K6 => ?_)
            · obtain ⟨c6, md6, hc6, hle6, hl, hP, hD, hS⟩ := hX
              refine lv_iinc (v := nI (2)) (lv' := [(5, .int (nI (2))), (0, .ref h), (1, .int (nI (o))), (2, .int (nI (c0))), (3, .int (nI (c6))), (4, .int (nI (2)))]) hx hb d_M_pare_268 hl (k := 5) rfl (nI_add _ 1) (by decide) rfl (fun ls hl => ?_)
              refine lv_goto (tgt := 14) hx hb d_M_pare_271 (by decide) ?_
              refine lv_iload hx hb d_M_pare_14 (lv_at hl 0 rfl) ?_
              refine lv_iconst (v := (nI (2))) hx hb d_M_pare_16 (by decide) ?_
              refine jv_icmp_ge (tgt := 274) hx hb (by omega) (by omega) d_M_pare_17 (by decide) (fun _ => ?_) (fun h => absurd h (by decide))
              refine lv_iinc (v := nI (3)) (lv' := [(4, .int (nI (3))), (5, .int (nI (2))), (0, .ref h), (1, .int (nI (o))), (2, .int (nI (c0))), (3, .int (nI (c6)))]) hx hb d_M_pare_274 hl (k := 5) rfl (nI_add _ 1) (by decide) rfl (fun ls hl => ?_)
              refine lv_goto (tgt := 5) hx hb d_M_pare_277 (by decide) ?_
              refine lv_iload hx hb d_M_pare_5 (lv_at hl 0 rfl) ?_
              refine lv_iconst (v := (nI (3))) hx hb d_M_pare_7 (by decide) ?_
              refine jv_icmp_ge (tgt := 280) hx hb (by omega) (by omega) d_M_pare_8 (by decide) (fun _ => ?_) (fun h => absurd h (by decide))
              refine lv_iload_n hx hb d_M_pare_280 rfl (lv_at hl 5 rfl) ?_
              have hP9 := hP.sub (ws' := [(h, .inr (3, fs)), (ad, eI g 288 (fd)), (amd, eI g 1008 (md6)), (ab, eI g 6 (bx))]) [0, 1, 2, 3] rfl
              have hD9 := hD.sub (ws' := [(h, .inr (3, fs)), (ad, eI g 288 (fd)), (amd, eI g 1008 (md6)), (ab, eI g 6 (bx))]) [0, 1, 2, 3] (by decide) rfl
              exact (W.widen (k := 0) (n := 0) (Nat.le_of_ble_eq_true rfl) (Nat.le_of_ble_eq_true rfl) (W.iret (v := (nI (c6))) hx hb hr (fun t ht hW => ⟨⟨(nI (c6)), (c6, md6), rfl, ⟨rfl, by rw [hc6, hc5, hc4, hc3, hc2, hc1]; rfl, by show c6 ≤ c0 + 6; omega⟩, by rw [ht]; exact hP9, hD9.re [h, ad, amd, ab] rfl rfl⟩, hS.F ht⟩) hS.2.2 d_M_pare_281))
            · refine lv_iload hx hb d_M_pare_14 (lv_at hl 0 rfl) ?_
              refine lv_iconst (v := (nI (2))) hx hb d_M_pare_16 (by decide) ?_
              refine jv_icmp_ge (tgt := 274) hx hb (by omega) (by omega) d_M_pare_17 (by decide) (fun h => absurd h (by decide)) (fun _ => ?_)
              refine lv_iload hx hb d_M_pare_20 (lv_at hl 0 rfl) ?_
              refine lv_if_ne (tgt := 52) hx hb d_M_pare_22 (by decide) (fun _ => ?_) (fun h => absurd h (by decide))
              refine lv_aload_n hx hb d_M_pare_52 rfl (lv_at hl 1 rfl) ?_
              refine va_get (D := g.1) (ci := 3) (v := .ref ad) (C := R_M) (T := F_M) (N := 19) hx hb htB in_M hown ha.1 hP 0 rfl rfl 5 (by decide) (htB _ kw_447) (fun _ h9 => h9) hf5 d_M_pare_53 ?_
              refine lv_iload_n hx hb d_M_pare_56 rfl (lv_at hl 2 rfl) ?_
              refine lv_iconst (v := (nI (3))) hx hb d_M_pare_57 (by decide) ?_
              refine jv_iadd hx hb d_M_pare_58 ?_
              refine lv_iload hx hb d_M_pare_59 (lv_at hl 5 rfl) ?_
              refine jv_iadd hx hb d_M_pare_61 ?_
              refine ja_ald (k := (o + 3) + 2) hx hb ha.1 hP 1 0 rfl rfl (by omega) (by omega) d_M_pare_62 ?_
              refine lv_aload_n hx hb d_M_pare_63 rfl (lv_at hl 1 rfl) ?_
              refine va_get (D := g.1) (ci := 3) (v := .ref ab) (C := R_M) (T := F_M) (N := 19) hx hb htB in_M hown ha.1 hP 0 rfl rfl 8 (by decide) (htB _ kw_450) (fun _ h9 => h9) hf8 d_M_pare_64 ?_
              refine lv_iconst (v := (nI (3))) hx hb d_M_pare_67 (by decide) ?_
              refine lv_iload hx hb d_M_pare_68 (lv_at hl 5 rfl) ?_
              refine jv_iadd hx hb d_M_pare_70 ?_
              refine ja_ald (k := 5) hx hb ha.1 hP 3 0 rfl rfl (by omega) (by omega) d_M_pare_71 ?_
              refine lv_icmp_le (tgt := 79) hx hb d_M_pare_72 (by decide) (fun c_2 => ?_) (fun c_2 => ?_)
              · refine lv_iconst (v := (nI (0))) hx hb d_M_pare_79 (by decide) ?_
                refine lv_istore (lv' := [(6, .int (nI (0))), (5, .int (nI (1))), (0, .ref h), (1, .int (nI (o))), (2, .int (nI (c0))), (3, .int (nI (c5))), (4, .int (nI (2)))]) hx hb d_M_pare_80 hl (by decide) rfl (fun ls hl => ?_)
                refine lv_iload hx hb d_M_pare_82 (lv_at hl 0 rfl) ?_
                refine lv_if_eq (tgt := 268) hx hb d_M_pare_84 (by decide) (fun _ => ?_) (fun h => absurd h (by decide))
                exact K6 ls locs H ⟨c5, md5, (if_neg (fun q => q c_2)).symm, by omega, lv_sub (l' := [(0, .ref h), (1, .int (nI (o))), (2, .int (nI (c0))), (3, .int (nI (c5))), (4, .int (nI (2))), (5, .int (nI (1)))]) hl [2, 3, 4, 5, 6, 1] rfl, hP, hD, hS⟩
              · refine lv_iconst (v := (nI (1))) hx hb d_M_pare_75 (by decide) ?_
                refine lv_goto (tgt := 80) hx hb d_M_pare_76 (by decide) ?_
                refine lv_istore (lv' := [(6, .int (nI (1))), (5, .int (nI (1))), (0, .ref h), (1, .int (nI (o))), (2, .int (nI (c0))), (3, .int (nI (c5))), (4, .int (nI (2)))]) hx hb d_M_pare_80 hl (by decide) rfl (fun ls hl => ?_)
                refine lv_iload hx hb d_M_pare_82 (lv_at hl 0 rfl) ?_
                refine lv_if_eq (tgt := 268) hx hb d_M_pare_84 (by decide) (fun h => absurd h (by decide)) (fun _ => ?_)
                refine lv_iconst (v := (nI (0))) hx hb d_M_pare_87 (by decide) ?_
                refine lv_istore (lv' := [(7, .int (nI (0))), (6, .int (nI (1))), (5, .int (nI (1))), (0, .ref h), (1, .int (nI (o))), (2, .int (nI (c0))), (3, .int (nI (c5))), (4, .int (nI (2)))]) hx hb d_M_pare_88 hl (by decide) rfl (fun ls hl => ?_)
                refine lv_iload hx hb d_M_pare_90 (lv_at hl 0 rfl) ?_
                refine lv_iconst (v := (nI (3))) hx hb d_M_pare_92 (by decide) ?_
                refine jv_icmp_ge (tgt := 265) hx hb (by omega) (by omega) d_M_pare_93 (by decide) (fun h => absurd h (by decide)) (fun _ => ?_)
                refine lv_iload hx hb d_M_pare_96 (lv_at hl 0 rfl) ?_
                refine lv_iload hx hb d_M_pare_98 (lv_at hl 7 rfl) ?_
                refine jv_icmp_ge (tgt := 125) hx hb (by omega) (by omega) d_M_pare_100 (by decide) (fun h => absurd h (by decide)) (fun _ => ?_)
                refine lv_aload_n hx hb d_M_pare_103 rfl (lv_at hl 3 rfl) ?_
                refine va_get (D := g.1) (ci := 3) (v := .ref ad) (C := R_M) (T := F_M) (N := 19) hx hb htB in_M hown ha.1 hP 0 rfl rfl 5 (by decide) (htB _ kw_447) (fun _ h9 => h9) hf5 d_M_pare_104 ?_
                refine lv_iload_n hx hb d_M_pare_107 rfl (lv_at hl 4 rfl) ?_
                refine lv_iload hx hb d_M_pare_108 (lv_at hl 0 rfl) ?_
                refine jv_iadd hx hb d_M_pare_110 ?_
                refine ja_ald (k := o + 0) hx hb ha.1 hP 1 0 rfl rfl (by omega) (by omega) d_M_pare_111 ?_
                refine lv_aload_n hx hb d_M_pare_112 rfl (lv_at hl 3 rfl) ?_
                refine va_get (D := g.1) (ci := 3) (v := .ref ab) (C := R_M) (T := F_M) (N := 19) hx hb htB in_M hown ha.1 hP 0 rfl rfl 8 (by decide) (htB _ kw_450) (fun _ h9 => h9) hf8 d_M_pare_113 ?_
                refine lv_iload hx hb d_M_pare_116 (lv_at hl 0 rfl) ?_
                refine ja_ald (k := 0) hx hb ha.1 hP 3 0 rfl rfl (by omega) (by omega) d_M_pare_118 ?_
                refine va_calli (va_runS (As := [.int (fd (o + 0)), .int (bx (0))]) (rest := []) ⟨hx, hb, hml, hown, htB⟩ (p_M_more l g z _ (fd (o + 0)) (bx (0))) (va_cwS 2 htB (gS kw_540 kw_541 kw_3 g_M_more) rfl rfl rfl (by decide +kernel) ⟨by decide, by decide⟩) (pre_S hS hz ha trivial) rfl rfl hl.1 rfl (lv_room (Nat.le_of_ble_eq_true rfl)) d_M_pare_119 ⟨by decide, by decide⟩) hS (fun q _ h => h.elim) (fun q h => h.elim) (fun r_5 u t H1 locs ht hvm hw hB hz1 hk1 hS => ?_)
                obtain rfl := hB.symm.trans ht
                subst hw
                refine lv_goto (tgt := 134) hx hb d_M_pare_122 (by decide) ?_
                refine lv_istore (lv' := [(8, .int (mxI (fd (o + 0)) (bx (0)))), (7, .int (nI (0))), (6, .int (nI (1))), (5, .int (nI (1))), (0, .ref h), (1, .int (nI (o))), (2, .int (nI (c0))), (3, .int (nI (c5))), (4, .int (nI (2)))]) hx hb d_M_pare_134 hl (by decide) rfl (fun ls hl => ?_)
                refine lv_iload hx hb d_M_pare_136 (lv_at hl 1 rfl) ?_
                refine lv_iload hx hb d_M_pare_138 (lv_at hl 8 rfl) ?_
                refine jv_icmp_ge (tgt := 169) hx hb (by omega) (by omega) d_M_pare_140 (by decide) (fun h => absurd h (by decide)) (fun _ => ?_)
                refine lv_aload_n hx hb d_M_pare_143 rfl (lv_at hl 4 rfl) ?_
                refine va_get (D := g.1) (ci := 3) (v := .ref ad) (C := R_M) (T := F_M) (N := 19) hx hb htB in_M hown ha.1 hP 0 rfl rfl 5 (by decide) (htB _ kw_447) (fun _ h9 => h9) hf5 d_M_pare_144 ?_
                refine lv_iload_n hx hb d_M_pare_147 rfl (lv_at hl 5 rfl) ?_
                refine lv_iconst (v := (nI (3))) hx hb d_M_pare_148 (by decide) ?_
                refine jv_iadd hx hb d_M_pare_149 ?_
                refine lv_iload hx hb d_M_pare_150 (lv_at hl 1 rfl) ?_
                refine jv_iadd hx hb d_M_pare_152 ?_
                refine ja_ald (k := (o + 3) + 0) hx hb ha.1 hP 1 0 rfl rfl (by omega) (by omega) d_M_pare_153 ?_
                refine lv_aload_n hx hb d_M_pare_154 rfl (lv_at hl 4 rfl) ?_
                refine va_get (D := g.1) (ci := 3) (v := .ref ab) (C := R_M) (T := F_M) (N := 19) hx hb htB in_M hown ha.1 hP 0 rfl rfl 8 (by decide) (htB _ kw_450) (fun _ h9 => h9) hf8 d_M_pare_155 ?_
                refine lv_iconst (v := (nI (3))) hx hb d_M_pare_158 (by decide) ?_
                refine lv_iload hx hb d_M_pare_159 (lv_at hl 1 rfl) ?_
                refine jv_iadd hx hb d_M_pare_161 ?_
                refine ja_ald (k := 3) hx hb ha.1 hP 3 0 rfl rfl (by omega) (by omega) d_M_pare_162 ?_
                refine va_calli (va_runS (As := [.int (fd ((o + 3) + 0)), .int (bx (3))]) (rest := []) ⟨hx, hb, hml, hown, htB⟩ (p_M_less l g z _ (fd ((o + 3) + 0)) (bx (3))) (va_cwS 2 htB (gS kw_543 kw_544 kw_3 g_M_less) rfl rfl rfl (by decide +kernel) ⟨by decide, by decide⟩) (pre_S hS hz ha trivial) rfl rfl hl.1 rfl (lv_room (Nat.le_of_ble_eq_true rfl)) d_M_pare_163 ⟨by decide, by decide⟩) hS (fun q _ h => h.elim) (fun q h => h.elim) (fun r_6 u t H1 locs ht hvm hw hB hz1 hk1 hS => ?_)
                obtain rfl := hB.symm.trans ht
                subst hw
                refine lv_goto (tgt := 180) hx hb d_M_pare_166 (by decide) ?_
                refine lv_istore (lv' := [(9, .int (mnI (fd ((o + 3) + 0)) (bx (3)))), (8, .int (mxI (fd (o + 0)) (bx (0)))), (7, .int (nI (0))), (6, .int (nI (1))), (5, .int (nI (1))), (0, .ref h), (1, .int (nI (o))), (2, .int (nI (c0))), (3, .int (nI (c5))), (4, .int (nI (2)))]) hx hb d_M_pare_180 hl (by decide) rfl (fun ls hl => ?_)
                refine lv_aload_n hx hb d_M_pare_182 rfl (lv_at hl 5 rfl) ?_
                refine va_get (D := g.1) (ci := 3) (v := .ref amd) (C := R_M) (T := F_M) (N := 19) hx hb htB in_M hown ha.1 hP 0 rfl rfl 7 (by decide) (htB _ kw_449) (fun _ h9 => h9) hf7 d_M_pare_183 ?_
                refine lv_bipush (v := (nI (6))) hx hb d_M_pare_186 (by decide) ?_
                refine lv_iload_n hx hb d_M_pare_188 rfl (lv_at hl 8 rfl) ?_
                refine jv_imul hx hb d_M_pare_189 ?_
                refine lv_iload hx hb d_M_pare_190 (lv_at hl 2 rfl) ?_
                refine jv_iadd hx hb d_M_pare_192 ?_
                refine lv_iload hx hb d_M_pare_193 (lv_at hl 2 rfl) ?_
                refine lv_iload hx hb d_M_pare_195 (lv_at hl 9 rfl) ?_
                refine jv_icmp_ne (tgt := 218) hx hb (by omega) (by omega) d_M_pare_197 (by decide) (fun _ => ?_) (fun h => absurd h (by decide))
                refine lv_iload hx hb d_M_pare_218 (lv_at hl 1 rfl) ?_
                refine ja_ast (k := (6 * c5) + 0) hx hb ha.1 hP hD hS 2 0 rfl rfl (by omega) (by omega) d_M_pare_220 (fun H locs hP hD hS => ?_)
                have hP : va_P g.1 cls [(h, .inr (3, fs)), (ad, eI g 288 (fd)), (amd, eI g 1008 (upd (md5) ((6 * c5) + 0) (mxI (fd (o + 0)) (bx (0))))), (ab, eI g 6 (bx))] H := hP
                have hD : va_D A [(h, .inr (3, fs)), (ad, eI g 288 (fd)), (amd, eI g 1008 (upd (md5) ((6 * c5) + 0) (mxI (fd (o + 0)) (bx (0))))), (ab, eI g 6 (bx))] := hD
                refine lv_aload_n hx hb d_M_pare_221 rfl (lv_at hl 5 rfl) ?_
                refine va_get (D := g.1) (ci := 3) (v := .ref amd) (C := R_M) (T := F_M) (N := 19) hx hb htB in_M hown ha.1 hP 0 rfl rfl 7 (by decide) (htB _ kw_449) (fun _ h9 => h9) hf7 d_M_pare_222 ?_
                refine lv_bipush (v := (nI (6))) hx hb d_M_pare_225 (by decide) ?_
                refine lv_iload_n hx hb d_M_pare_227 rfl (lv_at hl 8 rfl) ?_
                refine jv_imul hx hb d_M_pare_228 ?_
                refine lv_iconst (v := (nI (3))) hx hb d_M_pare_229 (by decide) ?_
                refine jv_iadd hx hb d_M_pare_230 ?_
                refine lv_iload hx hb d_M_pare_231 (lv_at hl 2 rfl) ?_
                refine jv_iadd hx hb d_M_pare_233 ?_
                refine lv_iload hx hb d_M_pare_234 (lv_at hl 2 rfl) ?_
                refine lv_iload hx hb d_M_pare_236 (lv_at hl 9 rfl) ?_
                refine jv_icmp_ne (tgt := 256) hx hb (by omega) (by omega) d_M_pare_238 (by decide) (fun _ => ?_) (fun h => absurd h (by decide))
                refine lv_iload hx hb d_M_pare_256 (lv_at hl 0 rfl) ?_
                refine ja_ast (k := ((6 * c5) + 3) + 0) hx hb ha.1 hP hD hS 2 0 rfl rfl (by omega) (by omega) d_M_pare_258 (fun H locs hP hD hS => ?_)
                have hP : va_P g.1 cls [(h, .inr (3, fs)), (ad, eI g 288 (fd)), (amd, eI g 1008 (upd (upd (md5) ((6 * c5) + 0) (mxI (fd (o + 0)) (bx (0)))) (((6 * c5) + 3) + 0) (mnI (fd ((o + 3) + 0)) (bx (3))))), (ab, eI g 6 (bx))] H := hP
                have hD : va_D A [(h, .inr (3, fs)), (ad, eI g 288 (fd)), (amd, eI g 1008 (upd (upd (md5) ((6 * c5) + 0) (mxI (fd (o + 0)) (bx (0)))) (((6 * c5) + 3) + 0) (mnI (fd ((o + 3) + 0)) (bx (3))))), (ab, eI g 6 (bx))] := hD
                refine lv_iinc (v := nI (1)) (lv' := [(7, .int (nI (1))), (9, .int (mnI (fd ((o + 3) + 0)) (bx (3)))), (8, .int (mxI (fd (o + 0)) (bx (0)))), (6, .int (nI (1))), (5, .int (nI (1))), (0, .ref h), (1, .int (nI (o))), (2, .int (nI (c0))), (3, .int (nI (c5))), (4, .int (nI (2)))]) hx hb d_M_pare_259 hl (k := 2) rfl (nI_add _ 1) (by decide) rfl (fun ls hl => ?_)
                refine lv_goto (tgt := 90) hx hb d_M_pare_262 (by decide) ?_
                refine lv_iload hx hb d_M_pare_90 (lv_at hl 0 rfl) ?_
                refine lv_iconst (v := (nI (3))) hx hb d_M_pare_92 (by decide) ?_
                refine jv_icmp_ge (tgt := 265) hx hb (by omega) (by omega) d_M_pare_93 (by decide) (fun h => absurd h (by decide)) (fun _ => ?_)
                refine lv_iload hx hb d_M_pare_96 (lv_at hl 0 rfl) ?_
                refine lv_iload hx hb d_M_pare_98 (lv_at hl 9 rfl) ?_
                refine jv_icmp_ge (tgt := 125) hx hb (by omega) (by omega) d_M_pare_100 (by decide) (fun h => absurd h (by decide)) (fun _ => ?_)
                refine lv_aload_n hx hb d_M_pare_103 rfl (lv_at hl 5 rfl) ?_
                refine va_get (D := g.1) (ci := 3) (v := .ref ad) (C := R_M) (T := F_M) (N := 19) hx hb htB in_M hown ha.1 hP 0 rfl rfl 5 (by decide) (htB _ kw_447) (fun _ h9 => h9) hf5 d_M_pare_104 ?_
                refine lv_iload_n hx hb d_M_pare_107 rfl (lv_at hl 6 rfl) ?_
                refine lv_iload hx hb d_M_pare_108 (lv_at hl 0 rfl) ?_
                refine jv_iadd hx hb d_M_pare_110 ?_
                refine ja_ald (k := o + 1) hx hb ha.1 hP 1 0 rfl rfl (by omega) (by omega) d_M_pare_111 ?_
                refine lv_aload_n hx hb d_M_pare_112 rfl (lv_at hl 5 rfl) ?_
                refine va_get (D := g.1) (ci := 3) (v := .ref ab) (C := R_M) (T := F_M) (N := 19) hx hb htB in_M hown ha.1 hP 0 rfl rfl 8 (by decide) (htB _ kw_450) (fun _ h9 => h9) hf8 d_M_pare_113 ?_
                refine lv_iload hx hb d_M_pare_116 (lv_at hl 0 rfl) ?_
                refine ja_ald (k := 1) hx hb ha.1 hP 3 0 rfl rfl (by omega) (by omega) d_M_pare_118 ?_
                refine va_calli (va_runS (As := [.int (fd (o + 1)), .int (bx (1))]) (rest := []) ⟨hx, hb, hml, hown, htB⟩ (p_M_more l g z _ (fd (o + 1)) (bx (1))) (va_cwS 2 htB (gS kw_540 kw_541 kw_3 g_M_more) rfl rfl rfl (by decide +kernel) ⟨by decide, by decide⟩) (pre_S hS hz ha trivial) rfl rfl hl.1 rfl (lv_room (Nat.le_of_ble_eq_true rfl)) d_M_pare_119 ⟨by decide, by decide⟩) hS (fun q _ h => h.elim) (fun q h => h.elim) (fun r_7 u t H1 locs ht hvm hw hB hz1 hk1 hS => ?_)
                obtain rfl := hB.symm.trans ht
                subst hw
                refine lv_goto (tgt := 134) hx hb d_M_pare_122 (by decide) ?_
                refine lv_istore (lv' := [(8, .int (mxI (fd (o + 1)) (bx (1)))), (7, .int (nI (1))), (9, .int (mnI (fd ((o + 3) + 0)) (bx (3)))), (6, .int (nI (1))), (5, .int (nI (1))), (0, .ref h), (1, .int (nI (o))), (2, .int (nI (c0))), (3, .int (nI (c5))), (4, .int (nI (2)))]) hx hb d_M_pare_134 hl (by decide) rfl (fun ls hl => ?_)
                refine lv_iload hx hb d_M_pare_136 (lv_at hl 1 rfl) ?_
                refine lv_iload hx hb d_M_pare_138 (lv_at hl 9 rfl) ?_
                refine jv_icmp_ge (tgt := 169) hx hb (by omega) (by omega) d_M_pare_140 (by decide) (fun h => absurd h (by decide)) (fun _ => ?_)
                refine lv_aload_n hx hb d_M_pare_143 rfl (lv_at hl 5 rfl) ?_
                refine va_get (D := g.1) (ci := 3) (v := .ref ad) (C := R_M) (T := F_M) (N := 19) hx hb htB in_M hown ha.1 hP 0 rfl rfl 5 (by decide) (htB _ kw_447) (fun _ h9 => h9) hf5 d_M_pare_144 ?_
                refine lv_iload_n hx hb d_M_pare_147 rfl (lv_at hl 6 rfl) ?_
                refine lv_iconst (v := (nI (3))) hx hb d_M_pare_148 (by decide) ?_
                refine jv_iadd hx hb d_M_pare_149 ?_
                refine lv_iload hx hb d_M_pare_150 (lv_at hl 1 rfl) ?_
                refine jv_iadd hx hb d_M_pare_152 ?_
                refine ja_ald (k := (o + 3) + 1) hx hb ha.1 hP 1 0 rfl rfl (by omega) (by omega) d_M_pare_153 ?_
                refine lv_aload_n hx hb d_M_pare_154 rfl (lv_at hl 5 rfl) ?_
                refine va_get (D := g.1) (ci := 3) (v := .ref ab) (C := R_M) (T := F_M) (N := 19) hx hb htB in_M hown ha.1 hP 0 rfl rfl 8 (by decide) (htB _ kw_450) (fun _ h9 => h9) hf8 d_M_pare_155 ?_
                refine lv_iconst (v := (nI (3))) hx hb d_M_pare_158 (by decide) ?_
                refine lv_iload hx hb d_M_pare_159 (lv_at hl 1 rfl) ?_
                refine jv_iadd hx hb d_M_pare_161 ?_
                refine ja_ald (k := 4) hx hb ha.1 hP 3 0 rfl rfl (by omega) (by omega) d_M_pare_162 ?_
                refine va_calli (va_runS (As := [.int (fd ((o + 3) + 1)), .int (bx (4))]) (rest := []) ⟨hx, hb, hml, hown, htB⟩ (p_M_less l g z _ (fd ((o + 3) + 1)) (bx (4))) (va_cwS 2 htB (gS kw_543 kw_544 kw_3 g_M_less) rfl rfl rfl (by decide +kernel) ⟨by decide, by decide⟩) (pre_S hS hz ha trivial) rfl rfl hl.1 rfl (lv_room (Nat.le_of_ble_eq_true rfl)) d_M_pare_163 ⟨by decide, by decide⟩) hS (fun q _ h => h.elim) (fun q h => h.elim) (fun r_8 u t H1 locs ht hvm hw hB hz1 hk1 hS => ?_)
                obtain rfl := hB.symm.trans ht
                subst hw
                refine lv_goto (tgt := 180) hx hb d_M_pare_166 (by decide) ?_
                refine lv_istore (lv' := [(9, .int (mnI (fd ((o + 3) + 1)) (bx (4)))), (8, .int (mxI (fd (o + 1)) (bx (1)))), (7, .int (nI (1))), (6, .int (nI (1))), (5, .int (nI (1))), (0, .ref h), (1, .int (nI (o))), (2, .int (nI (c0))), (3, .int (nI (c5))), (4, .int (nI (2)))]) hx hb d_M_pare_180 hl (by decide) rfl (fun ls hl => ?_)
                refine lv_aload_n hx hb d_M_pare_182 rfl (lv_at hl 5 rfl) ?_
                refine va_get (D := g.1) (ci := 3) (v := .ref amd) (C := R_M) (T := F_M) (N := 19) hx hb htB in_M hown ha.1 hP 0 rfl rfl 7 (by decide) (htB _ kw_449) (fun _ h9 => h9) hf7 d_M_pare_183 ?_
                refine lv_bipush (v := (nI (6))) hx hb d_M_pare_186 (by decide) ?_
                refine lv_iload_n hx hb d_M_pare_188 rfl (lv_at hl 8 rfl) ?_
                refine jv_imul hx hb d_M_pare_189 ?_
                refine lv_iload hx hb d_M_pare_190 (lv_at hl 2 rfl) ?_
                refine jv_iadd hx hb d_M_pare_192 ?_
                refine lv_iload hx hb d_M_pare_193 (lv_at hl 2 rfl) ?_
                refine lv_iload hx hb d_M_pare_195 (lv_at hl 9 rfl) ?_
                refine jv_icmp_ne (tgt := 218) hx hb (by omega) (by omega) d_M_pare_197 (by decide) (fun _ => ?_) (fun h => absurd h (by decide))
                refine lv_iload hx hb d_M_pare_218 (lv_at hl 1 rfl) ?_
                refine ja_ast (k := (6 * c5) + 1) hx hb ha.1 hP hD hS 2 0 rfl rfl (by omega) (by omega) d_M_pare_220 (fun H locs hP hD hS => ?_)
                have hP : va_P g.1 cls [(h, .inr (3, fs)), (ad, eI g 288 (fd)), (amd, eI g 1008 (upd (upd (upd (md5) ((6 * c5) + 0) (mxI (fd (o + 0)) (bx (0)))) (((6 * c5) + 3) + 0) (mnI (fd ((o + 3) + 0)) (bx (3)))) ((6 * c5) + 1) (mxI (fd (o + 1)) (bx (1))))), (ab, eI g 6 (bx))] H := hP
                have hD : va_D A [(h, .inr (3, fs)), (ad, eI g 288 (fd)), (amd, eI g 1008 (upd (upd (upd (md5) ((6 * c5) + 0) (mxI (fd (o + 0)) (bx (0)))) (((6 * c5) + 3) + 0) (mnI (fd ((o + 3) + 0)) (bx (3)))) ((6 * c5) + 1) (mxI (fd (o + 1)) (bx (1))))), (ab, eI g 6 (bx))] := hD
                refine lv_aload_n hx hb d_M_pare_221 rfl (lv_at hl 5 rfl) ?_
                refine va_get (D := g.1) (ci := 3) (v := .ref amd) (C := R_M) (T := F_M) (N := 19) hx hb htB in_M hown ha.1 hP 0 rfl rfl 7 (by decide) (htB _ kw_449) (fun _ h9 => h9) hf7 d_M_pare_222 ?_
                refine lv_bipush (v := (nI (6))) hx hb d_M_pare_225 (by decide) ?_
                refine lv_iload_n hx hb d_M_pare_227 rfl (lv_at hl 8 rfl) ?_
                refine jv_imul hx hb d_M_pare_228 ?_
                refine lv_iconst (v := (nI (3))) hx hb d_M_pare_229 (by decide) ?_
                refine jv_iadd hx hb d_M_pare_230 ?_
                refine lv_iload hx hb d_M_pare_231 (lv_at hl 2 rfl) ?_
                refine jv_iadd hx hb d_M_pare_233 ?_
                refine lv_iload hx hb d_M_pare_234 (lv_at hl 2 rfl) ?_
                refine lv_iload hx hb d_M_pare_236 (lv_at hl 9 rfl) ?_
                refine jv_icmp_ne (tgt := 256) hx hb (by omega) (by omega) d_M_pare_238 (by decide) (fun _ => ?_) (fun h => absurd h (by decide))
                refine lv_iload hx hb d_M_pare_256 (lv_at hl 0 rfl) ?_
                refine ja_ast (k := ((6 * c5) + 3) + 1) hx hb ha.1 hP hD hS 2 0 rfl rfl (by omega) (by omega) d_M_pare_258 (fun H locs hP hD hS => ?_)
                have hP : va_P g.1 cls [(h, .inr (3, fs)), (ad, eI g 288 (fd)), (amd, eI g 1008 (upd (upd (upd (upd (md5) ((6 * c5) + 0) (mxI (fd (o + 0)) (bx (0)))) (((6 * c5) + 3) + 0) (mnI (fd ((o + 3) + 0)) (bx (3)))) ((6 * c5) + 1) (mxI (fd (o + 1)) (bx (1)))) (((6 * c5) + 3) + 1) (mnI (fd ((o + 3) + 1)) (bx (4))))), (ab, eI g 6 (bx))] H := hP
                have hD : va_D A [(h, .inr (3, fs)), (ad, eI g 288 (fd)), (amd, eI g 1008 (upd (upd (upd (upd (md5) ((6 * c5) + 0) (mxI (fd (o + 0)) (bx (0)))) (((6 * c5) + 3) + 0) (mnI (fd ((o + 3) + 0)) (bx (3)))) ((6 * c5) + 1) (mxI (fd (o + 1)) (bx (1)))) (((6 * c5) + 3) + 1) (mnI (fd ((o + 3) + 1)) (bx (4))))), (ab, eI g 6 (bx))] := hD
                refine lv_iinc (v := nI (2)) (lv' := [(7, .int (nI (2))), (9, .int (mnI (fd ((o + 3) + 1)) (bx (4)))), (8, .int (mxI (fd (o + 1)) (bx (1)))), (6, .int (nI (1))), (5, .int (nI (1))), (0, .ref h), (1, .int (nI (o))), (2, .int (nI (c0))), (3, .int (nI (c5))), (4, .int (nI (2)))]) hx hb d_M_pare_259 hl (k := 2) rfl (nI_add _ 1) (by decide) rfl (fun ls hl => ?_)
                refine lv_goto (tgt := 90) hx hb d_M_pare_262 (by decide) ?_
                refine lv_iload hx hb d_M_pare_90 (lv_at hl 0 rfl) ?_
                refine lv_iconst (v := (nI (3))) hx hb d_M_pare_92 (by decide) ?_
                refine jv_icmp_ge (tgt := 265) hx hb (by omega) (by omega) d_M_pare_93 (by decide) (fun h => absurd h (by decide)) (fun _ => ?_)
                refine lv_iload hx hb d_M_pare_96 (lv_at hl 0 rfl) ?_
                refine lv_iload hx hb d_M_pare_98 (lv_at hl 9 rfl) ?_
                refine jv_icmp_ge (tgt := 125) hx hb (by omega) (by omega) d_M_pare_100 (by decide) (fun _ => ?_) (fun h => absurd h (by decide))
                refine lv_aload_n hx hb d_M_pare_125 rfl (lv_at hl 5 rfl) ?_
                refine va_get (D := g.1) (ci := 3) (v := .ref ad) (C := R_M) (T := F_M) (N := 19) hx hb htB in_M hown ha.1 hP 0 rfl rfl 5 (by decide) (htB _ kw_447) (fun _ h9 => h9) hf5 d_M_pare_126 ?_
                refine lv_iload_n hx hb d_M_pare_129 rfl (lv_at hl 6 rfl) ?_
                refine lv_iload hx hb d_M_pare_130 (lv_at hl 0 rfl) ?_
                refine jv_iadd hx hb d_M_pare_132 ?_
                refine ja_ald (k := o + 2) hx hb ha.1 hP 1 0 rfl rfl (by omega) (by omega) d_M_pare_133 ?_
                refine lv_istore (lv' := [(8, .int (fd (o + 2))), (7, .int (nI (2))), (9, .int (mnI (fd ((o + 3) + 1)) (bx (4)))), (6, .int (nI (1))), (5, .int (nI (1))), (0, .ref h), (1, .int (nI (o))), (2, .int (nI (c0))), (3, .int (nI (c5))), (4, .int (nI (2)))]) hx hb d_M_pare_134 hl (by decide) rfl (fun ls hl => ?_)
                refine lv_iload hx hb d_M_pare_136 (lv_at hl 1 rfl) ?_
                refine lv_iload hx hb d_M_pare_138 (lv_at hl 9 rfl) ?_
                refine jv_icmp_ge (tgt := 169) hx hb (by omega) (by omega) d_M_pare_140 (by decide) (fun _ => ?_) (fun h => absurd h (by decide))
                refine lv_aload_n hx hb d_M_pare_169 rfl (lv_at hl 5 rfl) ?_
                refine va_get (D := g.1) (ci := 3) (v := .ref ad) (C := R_M) (T := F_M) (N := 19) hx hb htB in_M hown ha.1 hP 0 rfl rfl 5 (by decide) (htB _ kw_447) (fun _ h9 => h9) hf5 d_M_pare_170 ?_
                refine lv_iload_n hx hb d_M_pare_173 rfl (lv_at hl 6 rfl) ?_
                refine lv_iconst (v := (nI (3))) hx hb d_M_pare_174 (by decide) ?_
                refine jv_iadd hx hb d_M_pare_175 ?_
                refine lv_iload hx hb d_M_pare_176 (lv_at hl 1 rfl) ?_
                refine jv_iadd hx hb d_M_pare_178 ?_
                refine ja_ald (k := (o + 3) + 2) hx hb ha.1 hP 1 0 rfl rfl (by omega) (by omega) d_M_pare_179 ?_
                refine lv_istore (lv' := [(9, .int (fd ((o + 3) + 2))), (8, .int (fd (o + 2))), (7, .int (nI (2))), (6, .int (nI (1))), (5, .int (nI (1))), (0, .ref h), (1, .int (nI (o))), (2, .int (nI (c0))), (3, .int (nI (c5))), (4, .int (nI (2)))]) hx hb d_M_pare_180 hl (by decide) rfl (fun ls hl => ?_)
                refine lv_aload_n hx hb d_M_pare_182 rfl (lv_at hl 5 rfl) ?_
                refine va_get (D := g.1) (ci := 3) (v := .ref amd) (C := R_M) (T := F_M) (N := 19) hx hb htB in_M hown ha.1 hP 0 rfl rfl 7 (by decide) (htB _ kw_449) (fun _ h9 => h9) hf7 d_M_pare_183 ?_
                refine lv_bipush (v := (nI (6))) hx hb d_M_pare_186 (by decide) ?_
                refine lv_iload_n hx hb d_M_pare_188 rfl (lv_at hl 8 rfl) ?_
                refine jv_imul hx hb d_M_pare_189 ?_
                refine lv_iload hx hb d_M_pare_190 (lv_at hl 2 rfl) ?_
                refine jv_iadd hx hb d_M_pare_192 ?_
                refine lv_iload hx hb d_M_pare_193 (lv_at hl 2 rfl) ?_
                refine lv_iload hx hb d_M_pare_195 (lv_at hl 9 rfl) ?_
                refine jv_icmp_ne (tgt := 218) hx hb (by omega) (by omega) d_M_pare_197 (by decide) (fun h => absurd h (by decide)) (fun _ => ?_)
                refine lv_iload hx hb d_M_pare_200 (lv_at hl 4 rfl) ?_
                refine lv_iconst (v := (nI (1))) hx hb d_M_pare_202 (by decide) ?_
                refine jv_icmp_ne (tgt := 218) hx hb (by omega) (by omega) d_M_pare_203 (by decide) (fun h => absurd h (by decide)) (fun _ => ?_)
                refine lv_aload_n hx hb d_M_pare_206 rfl (lv_at hl 5 rfl) ?_
                refine va_get (D := g.1) (ci := 3) (v := .ref ab) (C := R_M) (T := F_M) (N := 19) hx hb htB in_M hown ha.1 hP 0 rfl rfl 8 (by decide) (htB _ kw_450) (fun _ h9 => h9) hf8 d_M_pare_207 ?_
                refine lv_iconst (v := (nI (3))) hx hb d_M_pare_210 (by decide) ?_
                refine lv_iload hx hb d_M_pare_211 (lv_at hl 9 rfl) ?_
                refine jv_iadd hx hb d_M_pare_213 ?_
                refine ja_ald (k := 5) hx hb ha.1 hP 3 0 rfl rfl (by omega) (by omega) d_M_pare_214 ?_
                refine lv_goto (tgt := 220) hx hb d_M_pare_215 (by decide) ?_
                refine ja_ast (k := (6 * c5) + 2) hx hb ha.1 hP hD hS 2 0 rfl rfl (by omega) (by omega) d_M_pare_220 (fun H locs hP hD hS => ?_)
                have hP : va_P g.1 cls [(h, .inr (3, fs)), (ad, eI g 288 (fd)), (amd, eI g 1008 (upd (upd (upd (upd (upd (md5) ((6 * c5) + 0) (mxI (fd (o + 0)) (bx (0)))) (((6 * c5) + 3) + 0) (mnI (fd ((o + 3) + 0)) (bx (3)))) ((6 * c5) + 1) (mxI (fd (o + 1)) (bx (1)))) (((6 * c5) + 3) + 1) (mnI (fd ((o + 3) + 1)) (bx (4)))) ((6 * c5) + 2) (bx (5)))), (ab, eI g 6 (bx))] H := hP
                have hD : va_D A [(h, .inr (3, fs)), (ad, eI g 288 (fd)), (amd, eI g 1008 (upd (upd (upd (upd (upd (md5) ((6 * c5) + 0) (mxI (fd (o + 0)) (bx (0)))) (((6 * c5) + 3) + 0) (mnI (fd ((o + 3) + 0)) (bx (3)))) ((6 * c5) + 1) (mxI (fd (o + 1)) (bx (1)))) (((6 * c5) + 3) + 1) (mnI (fd ((o + 3) + 1)) (bx (4)))) ((6 * c5) + 2) (bx (5)))), (ab, eI g 6 (bx))] := hD
                refine lv_aload_n hx hb d_M_pare_221 rfl (lv_at hl 5 rfl) ?_
                refine va_get (D := g.1) (ci := 3) (v := .ref amd) (C := R_M) (T := F_M) (N := 19) hx hb htB in_M hown ha.1 hP 0 rfl rfl 7 (by decide) (htB _ kw_449) (fun _ h9 => h9) hf7 d_M_pare_222 ?_
                refine lv_bipush (v := (nI (6))) hx hb d_M_pare_225 (by decide) ?_
                refine lv_iload_n hx hb d_M_pare_227 rfl (lv_at hl 8 rfl) ?_
                refine jv_imul hx hb d_M_pare_228 ?_
                refine lv_iconst (v := (nI (3))) hx hb d_M_pare_229 (by decide) ?_
                refine jv_iadd hx hb d_M_pare_230 ?_
                refine lv_iload hx hb d_M_pare_231 (lv_at hl 2 rfl) ?_
                refine jv_iadd hx hb d_M_pare_233 ?_
                refine lv_iload hx hb d_M_pare_234 (lv_at hl 2 rfl) ?_
                refine lv_iload hx hb d_M_pare_236 (lv_at hl 9 rfl) ?_
                refine jv_icmp_ne (tgt := 256) hx hb (by omega) (by omega) d_M_pare_238 (by decide) (fun h => absurd h (by decide)) (fun _ => ?_)
                refine lv_iload hx hb d_M_pare_241 (lv_at hl 4 rfl) ?_
                refine lv_if_ne (tgt := 256) hx hb d_M_pare_243 (by decide) (fun _ => ?_) (fun h => absurd h (by decide))
                refine lv_iload hx hb d_M_pare_256 (lv_at hl 0 rfl) ?_
                refine ja_ast (k := ((6 * c5) + 3) + 2) hx hb ha.1 hP hD hS 2 0 rfl rfl (by omega) (by omega) d_M_pare_258 (fun H locs hP hD hS => ?_)
                have hP : va_P g.1 cls [(h, .inr (3, fs)), (ad, eI g 288 (fd)), (amd, eI g 1008 (upd (upd (upd (upd (upd (upd (md5) ((6 * c5) + 0) (mxI (fd (o + 0)) (bx (0)))) (((6 * c5) + 3) + 0) (mnI (fd ((o + 3) + 0)) (bx (3)))) ((6 * c5) + 1) (mxI (fd (o + 1)) (bx (1)))) (((6 * c5) + 3) + 1) (mnI (fd ((o + 3) + 1)) (bx (4)))) ((6 * c5) + 2) (bx (5))) (((6 * c5) + 3) + 2) (fd ((o + 3) + 2)))), (ab, eI g 6 (bx))] H := hP
                have hD : va_D A [(h, .inr (3, fs)), (ad, eI g 288 (fd)), (amd, eI g 1008 (upd (upd (upd (upd (upd (upd (md5) ((6 * c5) + 0) (mxI (fd (o + 0)) (bx (0)))) (((6 * c5) + 3) + 0) (mnI (fd ((o + 3) + 0)) (bx (3)))) ((6 * c5) + 1) (mxI (fd (o + 1)) (bx (1)))) (((6 * c5) + 3) + 1) (mnI (fd ((o + 3) + 1)) (bx (4)))) ((6 * c5) + 2) (bx (5))) (((6 * c5) + 3) + 2) (fd ((o + 3) + 2)))), (ab, eI g 6 (bx))] := hD
                refine lv_iinc (v := nI (3)) (lv' := [(7, .int (nI (3))), (9, .int (fd ((o + 3) + 2))), (8, .int (fd (o + 2))), (6, .int (nI (1))), (5, .int (nI (1))), (0, .ref h), (1, .int (nI (o))), (2, .int (nI (c0))), (3, .int (nI (c5))), (4, .int (nI (2)))]) hx hb d_M_pare_259 hl (k := 2) rfl (nI_add _ 1) (by decide) rfl (fun ls hl => ?_)
                refine lv_goto (tgt := 90) hx hb d_M_pare_262 (by decide) ?_
                refine lv_iload hx hb d_M_pare_90 (lv_at hl 0 rfl) ?_
                refine lv_iconst (v := (nI (3))) hx hb d_M_pare_92 (by decide) ?_
                refine jv_icmp_ge (tgt := 265) hx hb (by omega) (by omega) d_M_pare_93 (by decide) (fun _ => ?_) (fun h => absurd h (by decide))
                refine lv_iinc (v := nI (c5 + 1)) (lv' := [(3, .int (nI (c5 + 1))), (7, .int (nI (3))), (9, .int (fd ((o + 3) + 2))), (8, .int (fd (o + 2))), (6, .int (nI (1))), (5, .int (nI (1))), (0, .ref h), (1, .int (nI (o))), (2, .int (nI (c0))), (4, .int (nI (2)))]) hx hb d_M_pare_265 hl (k := 8) rfl (nI_add _ 1) (by decide) rfl (fun ls hl => ?_)
                exact K6 ls locs H ⟨c5 + 1, upd (upd (upd (upd (upd (upd (md5) ((6 * c5) + 0) (mxI (fd (o + 0)) (bx (0)))) (((6 * c5) + 3) + 0) (mnI (fd ((o + 3) + 0)) (bx (3)))) ((6 * c5) + 1) (mxI (fd (o + 1)) (bx (1)))) (((6 * c5) + 3) + 1) (mnI (fd ((o + 3) + 1)) (bx (4)))) ((6 * c5) + 2) (bx (5))) (((6 * c5) + 3) + 2) (fd ((o + 3) + 2)), (if_pos c_2).symm, by omega, lv_sub (l' := [(0, .ref h), (1, .int (nI (o))), (2, .int (nI (c0))), (3, .int (nI (c5 + 1))), (4, .int (nI (2))), (5, .int (nI (1)))]) hl [6, 7, 8, 0, 9, 5] rfl, hP, hD, hS⟩
          · refine lv_iload hx hb d_M_pare_14 (lv_at hl 0 rfl) ?_
            refine lv_iconst (v := (nI (2))) hx hb d_M_pare_16 (by decide) ?_
            refine jv_icmp_ge (tgt := 274) hx hb (by omega) (by omega) d_M_pare_17 (by decide) (fun h => absurd h (by decide)) (fun _ => ?_)
            refine lv_iload hx hb d_M_pare_20 (lv_at hl 0 rfl) ?_
            refine lv_if_ne (tgt := 52) hx hb d_M_pare_22 (by decide) (fun h => absurd h (by decide)) (fun _ => ?_)
            refine lv_aload_n hx hb d_M_pare_25 rfl (lv_at hl 2 rfl) ?_
            refine va_get (D := g.1) (ci := 3) (v := .ref ad) (C := R_M) (T := F_M) (N := 19) hx hb htB in_M hown ha.1 hP 0 rfl rfl 5 (by decide) (htB _ kw_447) (fun _ h9 => h9) hf5 d_M_pare_26 ?_
            refine lv_iload_n hx hb d_M_pare_29 rfl (lv_at hl 3 rfl) ?_
            refine lv_iload hx hb d_M_pare_30 (lv_at hl 1 rfl) ?_
            refine jv_iadd hx hb d_M_pare_32 ?_
            refine ja_ald (k := o + 2) hx hb ha.1 hP 1 0 rfl rfl (by omega) (by omega) d_M_pare_33 ?_
            refine lv_aload_n hx hb d_M_pare_34 rfl (lv_at hl 2 rfl) ?_
            refine va_get (D := g.1) (ci := 3) (v := .ref ab) (C := R_M) (T := F_M) (N := 19) hx hb htB in_M hown ha.1 hP 0 rfl rfl 8 (by decide) (htB _ kw_450) (fun _ h9 => h9) hf8 d_M_pare_35 ?_
            refine lv_iload hx hb d_M_pare_38 (lv_at hl 1 rfl) ?_
            refine ja_ald (k := 2) hx hb ha.1 hP 3 0 rfl rfl (by omega) (by omega) d_M_pare_40 ?_
            refine lv_icmp_ge (tgt := 48) hx hb d_M_pare_41 (by decide) (fun c_11 => ?_) (fun c_11 => ?_)
            · refine lv_iconst (v := (nI (0))) hx hb d_M_pare_48 (by decide) ?_
              refine lv_goto (tgt := 80) hx hb d_M_pare_49 (by decide) ?_
              refine lv_istore (lv' := [(6, .int (nI (0))), (5, .int (nI (0))), (4, .int (nI (2))), (0, .ref h), (1, .int (nI (o))), (2, .int (nI (c0))), (3, .int (nI (c4)))]) hx hb d_M_pare_80 hl (by decide) rfl (fun ls hl => ?_)
              refine lv_iload hx hb d_M_pare_82 (lv_at hl 0 rfl) ?_
              refine lv_if_eq (tgt := 268) hx hb d_M_pare_84 (by decide) (fun _ => ?_) (fun h => absurd h (by decide))
              exact K5 ls locs H ⟨c4, md4, (if_neg (fun q => q c_11)).symm, by omega, lv_sub (l' := [(0, .ref h), (1, .int (nI (o))), (2, .int (nI (c0))), (3, .int (nI (c4))), (4, .int (nI (2))), (5, .int (nI (0)))]) hl [3, 4, 5, 6, 2, 1] rfl, hP, hD, hS⟩
            · refine lv_iconst (v := (nI (1))) hx hb d_M_pare_44 (by decide) ?_
              refine lv_goto (tgt := 80) hx hb d_M_pare_45 (by decide) ?_
              refine lv_istore (lv' := [(6, .int (nI (1))), (5, .int (nI (0))), (4, .int (nI (2))), (0, .ref h), (1, .int (nI (o))), (2, .int (nI (c0))), (3, .int (nI (c4)))]) hx hb d_M_pare_80 hl (by decide) rfl (fun ls hl => ?_)
              refine lv_iload hx hb d_M_pare_82 (lv_at hl 0 rfl) ?_
              refine lv_if_eq (tgt := 268) hx hb d_M_pare_84 (by decide) (fun h => absurd h (by decide)) (fun _ => ?_)
              refine lv_iconst (v := (nI (0))) hx hb d_M_pare_87 (by decide) ?_
              refine lv_istore (lv' := [(7, .int (nI (0))), (6, .int (nI (1))), (5, .int (nI (0))), (4, .int (nI (2))), (0, .ref h), (1, .int (nI (o))), (2, .int (nI (c0))), (3, .int (nI (c4)))]) hx hb d_M_pare_88 hl (by decide) rfl (fun ls hl => ?_)
              refine lv_iload hx hb d_M_pare_90 (lv_at hl 0 rfl) ?_
              refine lv_iconst (v := (nI (3))) hx hb d_M_pare_92 (by decide) ?_
              refine jv_icmp_ge (tgt := 265) hx hb (by omega) (by omega) d_M_pare_93 (by decide) (fun h => absurd h (by decide)) (fun _ => ?_)
              refine lv_iload hx hb d_M_pare_96 (lv_at hl 0 rfl) ?_
              refine lv_iload hx hb d_M_pare_98 (lv_at hl 3 rfl) ?_
              refine jv_icmp_ge (tgt := 125) hx hb (by omega) (by omega) d_M_pare_100 (by decide) (fun h => absurd h (by decide)) (fun _ => ?_)
              refine lv_aload_n hx hb d_M_pare_103 rfl (lv_at hl 4 rfl) ?_
              refine va_get (D := g.1) (ci := 3) (v := .ref ad) (C := R_M) (T := F_M) (N := 19) hx hb htB in_M hown ha.1 hP 0 rfl rfl 5 (by decide) (htB _ kw_447) (fun _ h9 => h9) hf5 d_M_pare_104 ?_
              refine lv_iload_n hx hb d_M_pare_107 rfl (lv_at hl 5 rfl) ?_
              refine lv_iload hx hb d_M_pare_108 (lv_at hl 0 rfl) ?_
              refine jv_iadd hx hb d_M_pare_110 ?_
              refine ja_ald (k := o + 0) hx hb ha.1 hP 1 0 rfl rfl (by omega) (by omega) d_M_pare_111 ?_
              refine lv_aload_n hx hb d_M_pare_112 rfl (lv_at hl 4 rfl) ?_
              refine va_get (D := g.1) (ci := 3) (v := .ref ab) (C := R_M) (T := F_M) (N := 19) hx hb htB in_M hown ha.1 hP 0 rfl rfl 8 (by decide) (htB _ kw_450) (fun _ h9 => h9) hf8 d_M_pare_113 ?_
              refine lv_iload hx hb d_M_pare_116 (lv_at hl 0 rfl) ?_
              refine ja_ald (k := 0) hx hb ha.1 hP 3 0 rfl rfl (by omega) (by omega) d_M_pare_118 ?_
              refine va_calli (va_runS (As := [.int (fd (o + 0)), .int (bx (0))]) (rest := []) ⟨hx, hb, hml, hown, htB⟩ (p_M_more l g z _ (fd (o + 0)) (bx (0))) (va_cwS 2 htB (gS kw_540 kw_541 kw_3 g_M_more) rfl rfl rfl (by decide +kernel) ⟨by decide, by decide⟩) (pre_S hS hz ha trivial) rfl rfl hl.1 rfl (lv_room (Nat.le_of_ble_eq_true rfl)) d_M_pare_119 ⟨by decide, by decide⟩) hS (fun q _ h => h.elim) (fun q h => h.elim) (fun r_14 u t H1 locs ht hvm hw hB hz1 hk1 hS => ?_)
              obtain rfl := hB.symm.trans ht
              subst hw
              refine lv_goto (tgt := 134) hx hb d_M_pare_122 (by decide) ?_
              refine lv_istore (lv' := [(8, .int (mxI (fd (o + 0)) (bx (0)))), (7, .int (nI (0))), (6, .int (nI (1))), (5, .int (nI (0))), (4, .int (nI (2))), (0, .ref h), (1, .int (nI (o))), (2, .int (nI (c0))), (3, .int (nI (c4)))]) hx hb d_M_pare_134 hl (by decide) rfl (fun ls hl => ?_)
              refine lv_iload hx hb d_M_pare_136 (lv_at hl 1 rfl) ?_
              refine lv_iload hx hb d_M_pare_138 (lv_at hl 4 rfl) ?_
              refine jv_icmp_ge (tgt := 169) hx hb (by omega) (by omega) d_M_pare_140 (by decide) (fun h => absurd h (by decide)) (fun _ => ?_)
              refine lv_aload_n hx hb d_M_pare_143 rfl (lv_at hl 5 rfl) ?_
              refine va_get (D := g.1) (ci := 3) (v := .ref ad) (C := R_M) (T := F_M) (N := 19) hx hb htB in_M hown ha.1 hP 0 rfl rfl 5 (by decide) (htB _ kw_447) (fun _ h9 => h9) hf5 d_M_pare_144 ?_
              refine lv_iload_n hx hb d_M_pare_147 rfl (lv_at hl 6 rfl) ?_
              refine lv_iconst (v := (nI (3))) hx hb d_M_pare_148 (by decide) ?_
              refine jv_iadd hx hb d_M_pare_149 ?_
              refine lv_iload hx hb d_M_pare_150 (lv_at hl 1 rfl) ?_
              refine jv_iadd hx hb d_M_pare_152 ?_
              refine ja_ald (k := (o + 3) + 0) hx hb ha.1 hP 1 0 rfl rfl (by omega) (by omega) d_M_pare_153 ?_
              refine lv_aload_n hx hb d_M_pare_154 rfl (lv_at hl 5 rfl) ?_
              refine va_get (D := g.1) (ci := 3) (v := .ref ab) (C := R_M) (T := F_M) (N := 19) hx hb htB in_M hown ha.1 hP 0 rfl rfl 8 (by decide) (htB _ kw_450) (fun _ h9 => h9) hf8 d_M_pare_155 ?_
              refine lv_iconst (v := (nI (3))) hx hb d_M_pare_158 (by decide) ?_
              refine lv_iload hx hb d_M_pare_159 (lv_at hl 1 rfl) ?_
              refine jv_iadd hx hb d_M_pare_161 ?_
              refine ja_ald (k := 3) hx hb ha.1 hP 3 0 rfl rfl (by omega) (by omega) d_M_pare_162 ?_
              refine va_calli (va_runS (As := [.int (fd ((o + 3) + 0)), .int (bx (3))]) (rest := []) ⟨hx, hb, hml, hown, htB⟩ (p_M_less l g z _ (fd ((o + 3) + 0)) (bx (3))) (va_cwS 2 htB (gS kw_543 kw_544 kw_3 g_M_less) rfl rfl rfl (by decide +kernel) ⟨by decide, by decide⟩) (pre_S hS hz ha trivial) rfl rfl hl.1 rfl (lv_room (Nat.le_of_ble_eq_true rfl)) d_M_pare_163 ⟨by decide, by decide⟩) hS (fun q _ h => h.elim) (fun q h => h.elim) (fun r_15 u t H1 locs ht hvm hw hB hz1 hk1 hS => ?_)
              obtain rfl := hB.symm.trans ht
              subst hw
              refine lv_goto (tgt := 180) hx hb d_M_pare_166 (by decide) ?_
              refine lv_istore (lv' := [(9, .int (mnI (fd ((o + 3) + 0)) (bx (3)))), (8, .int (mxI (fd (o + 0)) (bx (0)))), (7, .int (nI (0))), (6, .int (nI (1))), (5, .int (nI (0))), (4, .int (nI (2))), (0, .ref h), (1, .int (nI (o))), (2, .int (nI (c0))), (3, .int (nI (c4)))]) hx hb d_M_pare_180 hl (by decide) rfl (fun ls hl => ?_)
              refine lv_aload_n hx hb d_M_pare_182 rfl (lv_at hl 6 rfl) ?_
              refine va_get (D := g.1) (ci := 3) (v := .ref amd) (C := R_M) (T := F_M) (N := 19) hx hb htB in_M hown ha.1 hP 0 rfl rfl 7 (by decide) (htB _ kw_449) (fun _ h9 => h9) hf7 d_M_pare_183 ?_
              refine lv_bipush (v := (nI (6))) hx hb d_M_pare_186 (by decide) ?_
              refine lv_iload_n hx hb d_M_pare_188 rfl (lv_at hl 9 rfl) ?_
              refine jv_imul hx hb d_M_pare_189 ?_
              refine lv_iload hx hb d_M_pare_190 (lv_at hl 2 rfl) ?_
              refine jv_iadd hx hb d_M_pare_192 ?_
              refine lv_iload hx hb d_M_pare_193 (lv_at hl 2 rfl) ?_
              refine lv_iload hx hb d_M_pare_195 (lv_at hl 5 rfl) ?_
              refine jv_icmp_ne (tgt := 218) hx hb (by omega) (by omega) d_M_pare_197 (by decide) (fun _ => ?_) (fun h => absurd h (by decide))
              refine lv_iload hx hb d_M_pare_218 (lv_at hl 1 rfl) ?_
              refine ja_ast (k := (6 * c4) + 0) hx hb ha.1 hP hD hS 2 0 rfl rfl (by omega) (by omega) d_M_pare_220 (fun H locs hP hD hS => ?_)
              have hP : va_P g.1 cls [(h, .inr (3, fs)), (ad, eI g 288 (fd)), (amd, eI g 1008 (upd (md4) ((6 * c4) + 0) (mxI (fd (o + 0)) (bx (0))))), (ab, eI g 6 (bx))] H := hP
              have hD : va_D A [(h, .inr (3, fs)), (ad, eI g 288 (fd)), (amd, eI g 1008 (upd (md4) ((6 * c4) + 0) (mxI (fd (o + 0)) (bx (0))))), (ab, eI g 6 (bx))] := hD
              refine lv_aload_n hx hb d_M_pare_221 rfl (lv_at hl 6 rfl) ?_
              refine va_get (D := g.1) (ci := 3) (v := .ref amd) (C := R_M) (T := F_M) (N := 19) hx hb htB in_M hown ha.1 hP 0 rfl rfl 7 (by decide) (htB _ kw_449) (fun _ h9 => h9) hf7 d_M_pare_222 ?_
              refine lv_bipush (v := (nI (6))) hx hb d_M_pare_225 (by decide) ?_
              refine lv_iload_n hx hb d_M_pare_227 rfl (lv_at hl 9 rfl) ?_
              refine jv_imul hx hb d_M_pare_228 ?_
              refine lv_iconst (v := (nI (3))) hx hb d_M_pare_229 (by decide) ?_
              refine jv_iadd hx hb d_M_pare_230 ?_
              refine lv_iload hx hb d_M_pare_231 (lv_at hl 2 rfl) ?_
              refine jv_iadd hx hb d_M_pare_233 ?_
              refine lv_iload hx hb d_M_pare_234 (lv_at hl 2 rfl) ?_
              refine lv_iload hx hb d_M_pare_236 (lv_at hl 5 rfl) ?_
              refine jv_icmp_ne (tgt := 256) hx hb (by omega) (by omega) d_M_pare_238 (by decide) (fun _ => ?_) (fun h => absurd h (by decide))
              refine lv_iload hx hb d_M_pare_256 (lv_at hl 0 rfl) ?_
              refine ja_ast (k := ((6 * c4) + 3) + 0) hx hb ha.1 hP hD hS 2 0 rfl rfl (by omega) (by omega) d_M_pare_258 (fun H locs hP hD hS => ?_)
              have hP : va_P g.1 cls [(h, .inr (3, fs)), (ad, eI g 288 (fd)), (amd, eI g 1008 (upd (upd (md4) ((6 * c4) + 0) (mxI (fd (o + 0)) (bx (0)))) (((6 * c4) + 3) + 0) (mnI (fd ((o + 3) + 0)) (bx (3))))), (ab, eI g 6 (bx))] H := hP
              have hD : va_D A [(h, .inr (3, fs)), (ad, eI g 288 (fd)), (amd, eI g 1008 (upd (upd (md4) ((6 * c4) + 0) (mxI (fd (o + 0)) (bx (0)))) (((6 * c4) + 3) + 0) (mnI (fd ((o + 3) + 0)) (bx (3))))), (ab, eI g 6 (bx))] := hD
              refine lv_iinc (v := nI (1)) (lv' := [(7, .int (nI (1))), (9, .int (mnI (fd ((o + 3) + 0)) (bx (3)))), (8, .int (mxI (fd (o + 0)) (bx (0)))), (6, .int (nI (1))), (5, .int (nI (0))), (4, .int (nI (2))), (0, .ref h), (1, .int (nI (o))), (2, .int (nI (c0))), (3, .int (nI (c4)))]) hx hb d_M_pare_259 hl (k := 2) rfl (nI_add _ 1) (by decide) rfl (fun ls hl => ?_)
              refine lv_goto (tgt := 90) hx hb d_M_pare_262 (by decide) ?_
              refine lv_iload hx hb d_M_pare_90 (lv_at hl 0 rfl) ?_
              refine lv_iconst (v := (nI (3))) hx hb d_M_pare_92 (by decide) ?_
              refine jv_icmp_ge (tgt := 265) hx hb (by omega) (by omega) d_M_pare_93 (by decide) (fun h => absurd h (by decide)) (fun _ => ?_)
              refine lv_iload hx hb d_M_pare_96 (lv_at hl 0 rfl) ?_
              refine lv_iload hx hb d_M_pare_98 (lv_at hl 5 rfl) ?_
              refine jv_icmp_ge (tgt := 125) hx hb (by omega) (by omega) d_M_pare_100 (by decide) (fun h => absurd h (by decide)) (fun _ => ?_)
              refine lv_aload_n hx hb d_M_pare_103 rfl (lv_at hl 6 rfl) ?_
              refine va_get (D := g.1) (ci := 3) (v := .ref ad) (C := R_M) (T := F_M) (N := 19) hx hb htB in_M hown ha.1 hP 0 rfl rfl 5 (by decide) (htB _ kw_447) (fun _ h9 => h9) hf5 d_M_pare_104 ?_
              refine lv_iload_n hx hb d_M_pare_107 rfl (lv_at hl 7 rfl) ?_
              refine lv_iload hx hb d_M_pare_108 (lv_at hl 0 rfl) ?_
              refine jv_iadd hx hb d_M_pare_110 ?_
              refine ja_ald (k := o + 1) hx hb ha.1 hP 1 0 rfl rfl (by omega) (by omega) d_M_pare_111 ?_
              refine lv_aload_n hx hb d_M_pare_112 rfl (lv_at hl 6 rfl) ?_
              refine va_get (D := g.1) (ci := 3) (v := .ref ab) (C := R_M) (T := F_M) (N := 19) hx hb htB in_M hown ha.1 hP 0 rfl rfl 8 (by decide) (htB _ kw_450) (fun _ h9 => h9) hf8 d_M_pare_113 ?_
              refine lv_iload hx hb d_M_pare_116 (lv_at hl 0 rfl) ?_
              refine ja_ald (k := 1) hx hb ha.1 hP 3 0 rfl rfl (by omega) (by omega) d_M_pare_118 ?_
              refine va_calli (va_runS (As := [.int (fd (o + 1)), .int (bx (1))]) (rest := []) ⟨hx, hb, hml, hown, htB⟩ (p_M_more l g z _ (fd (o + 1)) (bx (1))) (va_cwS 2 htB (gS kw_540 kw_541 kw_3 g_M_more) rfl rfl rfl (by decide +kernel) ⟨by decide, by decide⟩) (pre_S hS hz ha trivial) rfl rfl hl.1 rfl (lv_room (Nat.le_of_ble_eq_true rfl)) d_M_pare_119 ⟨by decide, by decide⟩) hS (fun q _ h => h.elim) (fun q h => h.elim) (fun r_16 u t H1 locs ht hvm hw hB hz1 hk1 hS => ?_)
              obtain rfl := hB.symm.trans ht
              subst hw
              refine lv_goto (tgt := 134) hx hb d_M_pare_122 (by decide) ?_
              refine lv_istore (lv' := [(8, .int (mxI (fd (o + 1)) (bx (1)))), (7, .int (nI (1))), (9, .int (mnI (fd ((o + 3) + 0)) (bx (3)))), (6, .int (nI (1))), (5, .int (nI (0))), (4, .int (nI (2))), (0, .ref h), (1, .int (nI (o))), (2, .int (nI (c0))), (3, .int (nI (c4)))]) hx hb d_M_pare_134 hl (by decide) rfl (fun ls hl => ?_)
              refine lv_iload hx hb d_M_pare_136 (lv_at hl 1 rfl) ?_
              refine lv_iload hx hb d_M_pare_138 (lv_at hl 5 rfl) ?_
              refine jv_icmp_ge (tgt := 169) hx hb (by omega) (by omega) d_M_pare_140 (by decide) (fun h => absurd h (by decide)) (fun _ => ?_)
              refine lv_aload_n hx hb d_M_pare_143 rfl (lv_at hl 6 rfl) ?_
              refine va_get (D := g.1) (ci := 3) (v := .ref ad) (C := R_M) (T := F_M) (N := 19) hx hb htB in_M hown ha.1 hP 0 rfl rfl 5 (by decide) (htB _ kw_447) (fun _ h9 => h9) hf5 d_M_pare_144 ?_
              refine lv_iload_n hx hb d_M_pare_147 rfl (lv_at hl 7 rfl) ?_
              refine lv_iconst (v := (nI (3))) hx hb d_M_pare_148 (by decide) ?_
              refine jv_iadd hx hb d_M_pare_149 ?_
              refine lv_iload hx hb d_M_pare_150 (lv_at hl 1 rfl) ?_
              refine jv_iadd hx hb d_M_pare_152 ?_
              refine ja_ald (k := (o + 3) + 1) hx hb ha.1 hP 1 0 rfl rfl (by omega) (by omega) d_M_pare_153 ?_
              refine lv_aload_n hx hb d_M_pare_154 rfl (lv_at hl 6 rfl) ?_
              refine va_get (D := g.1) (ci := 3) (v := .ref ab) (C := R_M) (T := F_M) (N := 19) hx hb htB in_M hown ha.1 hP 0 rfl rfl 8 (by decide) (htB _ kw_450) (fun _ h9 => h9) hf8 d_M_pare_155 ?_
              refine lv_iconst (v := (nI (3))) hx hb d_M_pare_158 (by decide) ?_
              refine lv_iload hx hb d_M_pare_159 (lv_at hl 1 rfl) ?_
              refine jv_iadd hx hb d_M_pare_161 ?_
              refine ja_ald (k := 4) hx hb ha.1 hP 3 0 rfl rfl (by omega) (by omega) d_M_pare_162 ?_
              refine va_calli (va_runS (As := [.int (fd ((o + 3) + 1)), .int (bx (4))]) (rest := []) ⟨hx, hb, hml, hown, htB⟩ (p_M_less l g z _ (fd ((o + 3) + 1)) (bx (4))) (va_cwS 2 htB (gS kw_543 kw_544 kw_3 g_M_less) rfl rfl rfl (by decide +kernel) ⟨by decide, by decide⟩) (pre_S hS hz ha trivial) rfl rfl hl.1 rfl (lv_room (Nat.le_of_ble_eq_true rfl)) d_M_pare_163 ⟨by decide, by decide⟩) hS (fun q _ h => h.elim) (fun q h => h.elim) (fun r_17 u t H1 locs ht hvm hw hB hz1 hk1 hS => ?_)
              obtain rfl := hB.symm.trans ht
              subst hw
              refine lv_goto (tgt := 180) hx hb d_M_pare_166 (by decide) ?_
              refine lv_istore (lv' := [(9, .int (mnI (fd ((o + 3) + 1)) (bx (4)))), (8, .int (mxI (fd (o + 1)) (bx (1)))), (7, .int (nI (1))), (6, .int (nI (1))), (5, .int (nI (0))), (4, .int (nI (2))), (0, .ref h), (1, .int (nI (o))), (2, .int (nI (c0))), (3, .int (nI (c4)))]) hx hb d_M_pare_180 hl (by decide) rfl (fun ls hl => ?_)
              refine lv_aload_n hx hb d_M_pare_182 rfl (lv_at hl 6 rfl) ?_
              refine va_get (D := g.1) (ci := 3) (v := .ref amd) (C := R_M) (T := F_M) (N := 19) hx hb htB in_M hown ha.1 hP 0 rfl rfl 7 (by decide) (htB _ kw_449) (fun _ h9 => h9) hf7 d_M_pare_183 ?_
              refine lv_bipush (v := (nI (6))) hx hb d_M_pare_186 (by decide) ?_
              refine lv_iload_n hx hb d_M_pare_188 rfl (lv_at hl 9 rfl) ?_
              refine jv_imul hx hb d_M_pare_189 ?_
              refine lv_iload hx hb d_M_pare_190 (lv_at hl 2 rfl) ?_
              refine jv_iadd hx hb d_M_pare_192 ?_
              refine lv_iload hx hb d_M_pare_193 (lv_at hl 2 rfl) ?_
              refine lv_iload hx hb d_M_pare_195 (lv_at hl 5 rfl) ?_
              refine jv_icmp_ne (tgt := 218) hx hb (by omega) (by omega) d_M_pare_197 (by decide) (fun _ => ?_) (fun h => absurd h (by decide))
              refine lv_iload hx hb d_M_pare_218 (lv_at hl 1 rfl) ?_
              refine ja_ast (k := (6 * c4) + 1) hx hb ha.1 hP hD hS 2 0 rfl rfl (by omega) (by omega) d_M_pare_220 (fun H locs hP hD hS => ?_)
              have hP : va_P g.1 cls [(h, .inr (3, fs)), (ad, eI g 288 (fd)), (amd, eI g 1008 (upd (upd (upd (md4) ((6 * c4) + 0) (mxI (fd (o + 0)) (bx (0)))) (((6 * c4) + 3) + 0) (mnI (fd ((o + 3) + 0)) (bx (3)))) ((6 * c4) + 1) (mxI (fd (o + 1)) (bx (1))))), (ab, eI g 6 (bx))] H := hP
              have hD : va_D A [(h, .inr (3, fs)), (ad, eI g 288 (fd)), (amd, eI g 1008 (upd (upd (upd (md4) ((6 * c4) + 0) (mxI (fd (o + 0)) (bx (0)))) (((6 * c4) + 3) + 0) (mnI (fd ((o + 3) + 0)) (bx (3)))) ((6 * c4) + 1) (mxI (fd (o + 1)) (bx (1))))), (ab, eI g 6 (bx))] := hD
              refine lv_aload_n hx hb d_M_pare_221 rfl (lv_at hl 6 rfl) ?_
              refine va_get (D := g.1) (ci := 3) (v := .ref amd) (C := R_M) (T := F_M) (N := 19) hx hb htB in_M hown ha.1 hP 0 rfl rfl 7 (by decide) (htB _ kw_449) (fun _ h9 => h9) hf7 d_M_pare_222 ?_
              refine lv_bipush (v := (nI (6))) hx hb d_M_pare_225 (by decide) ?_
              refine lv_iload_n hx hb d_M_pare_227 rfl (lv_at hl 9 rfl) ?_
              refine jv_imul hx hb d_M_pare_228 ?_
              refine lv_iconst (v := (nI (3))) hx hb d_M_pare_229 (by decide) ?_
              refine jv_iadd hx hb d_M_pare_230 ?_
              refine lv_iload hx hb d_M_pare_231 (lv_at hl 2 rfl) ?_
              refine jv_iadd hx hb d_M_pare_233 ?_
              refine lv_iload hx hb d_M_pare_234 (lv_at hl 2 rfl) ?_
              refine lv_iload hx hb d_M_pare_236 (lv_at hl 5 rfl) ?_
              refine jv_icmp_ne (tgt := 256) hx hb (by omega) (by omega) d_M_pare_238 (by decide) (fun _ => ?_) (fun h => absurd h (by decide))
              refine lv_iload hx hb d_M_pare_256 (lv_at hl 0 rfl) ?_
              refine ja_ast (k := ((6 * c4) + 3) + 1) hx hb ha.1 hP hD hS 2 0 rfl rfl (by omega) (by omega) d_M_pare_258 (fun H locs hP hD hS => ?_)
              have hP : va_P g.1 cls [(h, .inr (3, fs)), (ad, eI g 288 (fd)), (amd, eI g 1008 (upd (upd (upd (upd (md4) ((6 * c4) + 0) (mxI (fd (o + 0)) (bx (0)))) (((6 * c4) + 3) + 0) (mnI (fd ((o + 3) + 0)) (bx (3)))) ((6 * c4) + 1) (mxI (fd (o + 1)) (bx (1)))) (((6 * c4) + 3) + 1) (mnI (fd ((o + 3) + 1)) (bx (4))))), (ab, eI g 6 (bx))] H := hP
              have hD : va_D A [(h, .inr (3, fs)), (ad, eI g 288 (fd)), (amd, eI g 1008 (upd (upd (upd (upd (md4) ((6 * c4) + 0) (mxI (fd (o + 0)) (bx (0)))) (((6 * c4) + 3) + 0) (mnI (fd ((o + 3) + 0)) (bx (3)))) ((6 * c4) + 1) (mxI (fd (o + 1)) (bx (1)))) (((6 * c4) + 3) + 1) (mnI (fd ((o + 3) + 1)) (bx (4))))), (ab, eI g 6 (bx))] := hD
              refine lv_iinc (v := nI (2)) (lv' := [(7, .int (nI (2))), (9, .int (mnI (fd ((o + 3) + 1)) (bx (4)))), (8, .int (mxI (fd (o + 1)) (bx (1)))), (6, .int (nI (1))), (5, .int (nI (0))), (4, .int (nI (2))), (0, .ref h), (1, .int (nI (o))), (2, .int (nI (c0))), (3, .int (nI (c4)))]) hx hb d_M_pare_259 hl (k := 2) rfl (nI_add _ 1) (by decide) rfl (fun ls hl => ?_)
              refine lv_goto (tgt := 90) hx hb d_M_pare_262 (by decide) ?_
              refine lv_iload hx hb d_M_pare_90 (lv_at hl 0 rfl) ?_
              refine lv_iconst (v := (nI (3))) hx hb d_M_pare_92 (by decide) ?_
              refine jv_icmp_ge (tgt := 265) hx hb (by omega) (by omega) d_M_pare_93 (by decide) (fun h => absurd h (by decide)) (fun _ => ?_)
              refine lv_iload hx hb d_M_pare_96 (lv_at hl 0 rfl) ?_
              refine lv_iload hx hb d_M_pare_98 (lv_at hl 5 rfl) ?_
              refine jv_icmp_ge (tgt := 125) hx hb (by omega) (by omega) d_M_pare_100 (by decide) (fun _ => ?_) (fun h => absurd h (by decide))
              refine lv_aload_n hx hb d_M_pare_125 rfl (lv_at hl 6 rfl) ?_
              refine va_get (D := g.1) (ci := 3) (v := .ref ad) (C := R_M) (T := F_M) (N := 19) hx hb htB in_M hown ha.1 hP 0 rfl rfl 5 (by decide) (htB _ kw_447) (fun _ h9 => h9) hf5 d_M_pare_126 ?_
              refine lv_iload_n hx hb d_M_pare_129 rfl (lv_at hl 7 rfl) ?_
              refine lv_iload hx hb d_M_pare_130 (lv_at hl 0 rfl) ?_
              refine jv_iadd hx hb d_M_pare_132 ?_
              refine ja_ald (k := o + 2) hx hb ha.1 hP 1 0 rfl rfl (by omega) (by omega) d_M_pare_133 ?_
              refine lv_istore (lv' := [(8, .int (fd (o + 2))), (7, .int (nI (2))), (9, .int (mnI (fd ((o + 3) + 1)) (bx (4)))), (6, .int (nI (1))), (5, .int (nI (0))), (4, .int (nI (2))), (0, .ref h), (1, .int (nI (o))), (2, .int (nI (c0))), (3, .int (nI (c4)))]) hx hb d_M_pare_134 hl (by decide) rfl (fun ls hl => ?_)
              refine lv_iload hx hb d_M_pare_136 (lv_at hl 1 rfl) ?_
              refine lv_iload hx hb d_M_pare_138 (lv_at hl 5 rfl) ?_
              refine jv_icmp_ge (tgt := 169) hx hb (by omega) (by omega) d_M_pare_140 (by decide) (fun _ => ?_) (fun h => absurd h (by decide))
              refine lv_aload_n hx hb d_M_pare_169 rfl (lv_at hl 6 rfl) ?_
              refine va_get (D := g.1) (ci := 3) (v := .ref ad) (C := R_M) (T := F_M) (N := 19) hx hb htB in_M hown ha.1 hP 0 rfl rfl 5 (by decide) (htB _ kw_447) (fun _ h9 => h9) hf5 d_M_pare_170 ?_
              refine lv_iload_n hx hb d_M_pare_173 rfl (lv_at hl 7 rfl) ?_
              refine lv_iconst (v := (nI (3))) hx hb d_M_pare_174 (by decide) ?_
              refine jv_iadd hx hb d_M_pare_175 ?_
              refine lv_iload hx hb d_M_pare_176 (lv_at hl 1 rfl) ?_
              refine jv_iadd hx hb d_M_pare_178 ?_
              refine ja_ald (k := (o + 3) + 2) hx hb ha.1 hP 1 0 rfl rfl (by omega) (by omega) d_M_pare_179 ?_
              refine lv_istore (lv' := [(9, .int (fd ((o + 3) + 2))), (8, .int (fd (o + 2))), (7, .int (nI (2))), (6, .int (nI (1))), (5, .int (nI (0))), (4, .int (nI (2))), (0, .ref h), (1, .int (nI (o))), (2, .int (nI (c0))), (3, .int (nI (c4)))]) hx hb d_M_pare_180 hl (by decide) rfl (fun ls hl => ?_)
              refine lv_aload_n hx hb d_M_pare_182 rfl (lv_at hl 6 rfl) ?_
              refine va_get (D := g.1) (ci := 3) (v := .ref amd) (C := R_M) (T := F_M) (N := 19) hx hb htB in_M hown ha.1 hP 0 rfl rfl 7 (by decide) (htB _ kw_449) (fun _ h9 => h9) hf7 d_M_pare_183 ?_
              refine lv_bipush (v := (nI (6))) hx hb d_M_pare_186 (by decide) ?_
              refine lv_iload_n hx hb d_M_pare_188 rfl (lv_at hl 9 rfl) ?_
              refine jv_imul hx hb d_M_pare_189 ?_
              refine lv_iload hx hb d_M_pare_190 (lv_at hl 2 rfl) ?_
              refine jv_iadd hx hb d_M_pare_192 ?_
              refine lv_iload hx hb d_M_pare_193 (lv_at hl 2 rfl) ?_
              refine lv_iload hx hb d_M_pare_195 (lv_at hl 5 rfl) ?_
              refine jv_icmp_ne (tgt := 218) hx hb (by omega) (by omega) d_M_pare_197 (by decide) (fun h => absurd h (by decide)) (fun _ => ?_)
              refine lv_iload hx hb d_M_pare_200 (lv_at hl 4 rfl) ?_
              refine lv_iconst (v := (nI (1))) hx hb d_M_pare_202 (by decide) ?_
              refine jv_icmp_ne (tgt := 218) hx hb (by omega) (by omega) d_M_pare_203 (by decide) (fun _ => ?_) (fun h => absurd h (by decide))
              refine lv_iload hx hb d_M_pare_218 (lv_at hl 1 rfl) ?_
              refine ja_ast (k := (6 * c4) + 2) hx hb ha.1 hP hD hS 2 0 rfl rfl (by omega) (by omega) d_M_pare_220 (fun H locs hP hD hS => ?_)
              have hP : va_P g.1 cls [(h, .inr (3, fs)), (ad, eI g 288 (fd)), (amd, eI g 1008 (upd (upd (upd (upd (upd (md4) ((6 * c4) + 0) (mxI (fd (o + 0)) (bx (0)))) (((6 * c4) + 3) + 0) (mnI (fd ((o + 3) + 0)) (bx (3)))) ((6 * c4) + 1) (mxI (fd (o + 1)) (bx (1)))) (((6 * c4) + 3) + 1) (mnI (fd ((o + 3) + 1)) (bx (4)))) ((6 * c4) + 2) (fd (o + 2)))), (ab, eI g 6 (bx))] H := hP
              have hD : va_D A [(h, .inr (3, fs)), (ad, eI g 288 (fd)), (amd, eI g 1008 (upd (upd (upd (upd (upd (md4) ((6 * c4) + 0) (mxI (fd (o + 0)) (bx (0)))) (((6 * c4) + 3) + 0) (mnI (fd ((o + 3) + 0)) (bx (3)))) ((6 * c4) + 1) (mxI (fd (o + 1)) (bx (1)))) (((6 * c4) + 3) + 1) (mnI (fd ((o + 3) + 1)) (bx (4)))) ((6 * c4) + 2) (fd (o + 2)))), (ab, eI g 6 (bx))] := hD
              refine lv_aload_n hx hb d_M_pare_221 rfl (lv_at hl 6 rfl) ?_
              refine va_get (D := g.1) (ci := 3) (v := .ref amd) (C := R_M) (T := F_M) (N := 19) hx hb htB in_M hown ha.1 hP 0 rfl rfl 7 (by decide) (htB _ kw_449) (fun _ h9 => h9) hf7 d_M_pare_222 ?_
              refine lv_bipush (v := (nI (6))) hx hb d_M_pare_225 (by decide) ?_
              refine lv_iload_n hx hb d_M_pare_227 rfl (lv_at hl 9 rfl) ?_
              refine jv_imul hx hb d_M_pare_228 ?_
              refine lv_iconst (v := (nI (3))) hx hb d_M_pare_229 (by decide) ?_
              refine jv_iadd hx hb d_M_pare_230 ?_
              refine lv_iload hx hb d_M_pare_231 (lv_at hl 2 rfl) ?_
              refine jv_iadd hx hb d_M_pare_233 ?_
              refine lv_iload hx hb d_M_pare_234 (lv_at hl 2 rfl) ?_
              refine lv_iload hx hb d_M_pare_236 (lv_at hl 5 rfl) ?_
              refine jv_icmp_ne (tgt := 256) hx hb (by omega) (by omega) d_M_pare_238 (by decide) (fun h => absurd h (by decide)) (fun _ => ?_)
              refine lv_iload hx hb d_M_pare_241 (lv_at hl 4 rfl) ?_
              refine lv_if_ne (tgt := 256) hx hb d_M_pare_243 (by decide) (fun h => absurd h (by decide)) (fun _ => ?_)
              refine lv_aload_n hx hb d_M_pare_246 rfl (lv_at hl 6 rfl) ?_
              refine va_get (D := g.1) (ci := 3) (v := .ref ab) (C := R_M) (T := F_M) (N := 19) hx hb htB in_M hown ha.1 hP 0 rfl rfl 8 (by decide) (htB _ kw_450) (fun _ h9 => h9) hf8 d_M_pare_247 ?_
              refine lv_iload hx hb d_M_pare_250 (lv_at hl 5 rfl) ?_
              refine ja_ald (k := 2) hx hb ha.1 hP 3 0 rfl rfl (by omega) (by omega) d_M_pare_252 ?_
              refine lv_goto (tgt := 258) hx hb d_M_pare_253 (by decide) ?_
              refine ja_ast (k := ((6 * c4) + 3) + 2) hx hb ha.1 hP hD hS 2 0 rfl rfl (by omega) (by omega) d_M_pare_258 (fun H locs hP hD hS => ?_)
              have hP : va_P g.1 cls [(h, .inr (3, fs)), (ad, eI g 288 (fd)), (amd, eI g 1008 (upd (upd (upd (upd (upd (upd (md4) ((6 * c4) + 0) (mxI (fd (o + 0)) (bx (0)))) (((6 * c4) + 3) + 0) (mnI (fd ((o + 3) + 0)) (bx (3)))) ((6 * c4) + 1) (mxI (fd (o + 1)) (bx (1)))) (((6 * c4) + 3) + 1) (mnI (fd ((o + 3) + 1)) (bx (4)))) ((6 * c4) + 2) (fd (o + 2))) (((6 * c4) + 3) + 2) (bx (2)))), (ab, eI g 6 (bx))] H := hP
              have hD : va_D A [(h, .inr (3, fs)), (ad, eI g 288 (fd)), (amd, eI g 1008 (upd (upd (upd (upd (upd (upd (md4) ((6 * c4) + 0) (mxI (fd (o + 0)) (bx (0)))) (((6 * c4) + 3) + 0) (mnI (fd ((o + 3) + 0)) (bx (3)))) ((6 * c4) + 1) (mxI (fd (o + 1)) (bx (1)))) (((6 * c4) + 3) + 1) (mnI (fd ((o + 3) + 1)) (bx (4)))) ((6 * c4) + 2) (fd (o + 2))) (((6 * c4) + 3) + 2) (bx (2)))), (ab, eI g 6 (bx))] := hD
              refine lv_iinc (v := nI (3)) (lv' := [(7, .int (nI (3))), (9, .int (fd ((o + 3) + 2))), (8, .int (fd (o + 2))), (6, .int (nI (1))), (5, .int (nI (0))), (4, .int (nI (2))), (0, .ref h), (1, .int (nI (o))), (2, .int (nI (c0))), (3, .int (nI (c4)))]) hx hb d_M_pare_259 hl (k := 2) rfl (nI_add _ 1) (by decide) rfl (fun ls hl => ?_)
              refine lv_goto (tgt := 90) hx hb d_M_pare_262 (by decide) ?_
              refine lv_iload hx hb d_M_pare_90 (lv_at hl 0 rfl) ?_
              refine lv_iconst (v := (nI (3))) hx hb d_M_pare_92 (by decide) ?_
              refine jv_icmp_ge (tgt := 265) hx hb (by omega) (by omega) d_M_pare_93 (by decide) (fun _ => ?_) (fun h => absurd h (by decide))
              refine lv_iinc (v := nI (c4 + 1)) (lv' := [(3, .int (nI (c4 + 1))), (7, .int (nI (3))), (9, .int (fd ((o + 3) + 2))), (8, .int (fd (o + 2))), (6, .int (nI (1))), (5, .int (nI (0))), (4, .int (nI (2))), (0, .ref h), (1, .int (nI (o))), (2, .int (nI (c0)))]) hx hb d_M_pare_265 hl (k := 9) rfl (nI_add _ 1) (by decide) rfl (fun ls hl => ?_)
              exact K5 ls locs H ⟨c4 + 1, upd (upd (upd (upd (upd (upd (md4) ((6 * c4) + 0) (mxI (fd (o + 0)) (bx (0)))) (((6 * c4) + 3) + 0) (mnI (fd ((o + 3) + 0)) (bx (3)))) ((6 * c4) + 1) (mxI (fd (o + 1)) (bx (1)))) (((6 * c4) + 3) + 1) (mnI (fd ((o + 3) + 1)) (bx (4)))) ((6 * c4) + 2) (fd (o + 2))) (((6 * c4) + 3) + 2) (bx (2)), (if_pos c_11).symm, by omega, lv_sub (l' := [(0, .ref h), (1, .int (nI (o))), (2, .int (nI (c0))), (3, .int (nI (c4 + 1))), (4, .int (nI (2))), (5, .int (nI (0)))]) hl [7, 8, 9, 0, 6, 5] rfl, hP, hD, hS⟩
        · refine lv_iload hx hb d_M_pare_14 (lv_at hl 0 rfl) ?_
          refine lv_iconst (v := (nI (2))) hx hb d_M_pare_16 (by decide) ?_
          refine jv_icmp_ge (tgt := 274) hx hb (by omega) (by omega) d_M_pare_17 (by decide) (fun h => absurd h (by decide)) (fun _ => ?_)
          refine lv_iload hx hb d_M_pare_20 (lv_at hl 0 rfl) ?_
          refine lv_if_ne (tgt := 52) hx hb d_M_pare_22 (by decide) (fun _ => ?_) (fun h => absurd h (by decide))
          refine lv_aload_n hx hb d_M_pare_52 rfl (lv_at hl 1 rfl) ?_
          refine va_get (D := g.1) (ci := 3) (v := .ref ad) (C := R_M) (T := F_M) (N := 19) hx hb htB in_M hown ha.1 hP 0 rfl rfl 5 (by decide) (htB _ kw_447) (fun _ h9 => h9) hf5 d_M_pare_53 ?_
          refine lv_iload_n hx hb d_M_pare_56 rfl (lv_at hl 2 rfl) ?_
          refine lv_iconst (v := (nI (3))) hx hb d_M_pare_57 (by decide) ?_
          refine jv_iadd hx hb d_M_pare_58 ?_
          refine lv_iload hx hb d_M_pare_59 (lv_at hl 5 rfl) ?_
          refine jv_iadd hx hb d_M_pare_61 ?_
          refine ja_ald (k := (o + 3) + 1) hx hb ha.1 hP 1 0 rfl rfl (by omega) (by omega) d_M_pare_62 ?_
          refine lv_aload_n hx hb d_M_pare_63 rfl (lv_at hl 1 rfl) ?_
          refine va_get (D := g.1) (ci := 3) (v := .ref ab) (C := R_M) (T := F_M) (N := 19) hx hb htB in_M hown ha.1 hP 0 rfl rfl 8 (by decide) (htB _ kw_450) (fun _ h9 => h9) hf8 d_M_pare_64 ?_
          refine lv_iconst (v := (nI (3))) hx hb d_M_pare_67 (by decide) ?_
          refine lv_iload hx hb d_M_pare_68 (lv_at hl 5 rfl) ?_
          refine jv_iadd hx hb d_M_pare_70 ?_
          refine ja_ald (k := 4) hx hb ha.1 hP 3 0 rfl rfl (by omega) (by omega) d_M_pare_71 ?_
          refine lv_icmp_le (tgt := 79) hx hb d_M_pare_72 (by decide) (fun c_20 => ?_) (fun c_20 => ?_)
          · refine lv_iconst (v := (nI (0))) hx hb d_M_pare_79 (by decide) ?_
            refine lv_istore (lv' := [(6, .int (nI (0))), (5, .int (nI (1))), (0, .ref h), (1, .int (nI (o))), (2, .int (nI (c0))), (3, .int (nI (c3))), (4, .int (nI (1)))]) hx hb d_M_pare_80 hl (by decide) rfl (fun ls hl => ?_)
            refine lv_iload hx hb d_M_pare_82 (lv_at hl 0 rfl) ?_
            refine lv_if_eq (tgt := 268) hx hb d_M_pare_84 (by decide) (fun _ => ?_) (fun h => absurd h (by decide))
            exact K4 ls locs H ⟨c3, md3, (if_neg (fun q => q c_20)).symm, by omega, lv_sub (l' := [(0, .ref h), (1, .int (nI (o))), (2, .int (nI (c0))), (3, .int (nI (c3))), (4, .int (nI (1))), (5, .int (nI (1)))]) hl [2, 3, 4, 5, 6, 1] rfl, hP, hD, hS⟩
          · refine lv_iconst (v := (nI (1))) hx hb d_M_pare_75 (by decide) ?_
            refine lv_goto (tgt := 80) hx hb d_M_pare_76 (by decide) ?_
            refine lv_istore (lv' := [(6, .int (nI (1))), (5, .int (nI (1))), (0, .ref h), (1, .int (nI (o))), (2, .int (nI (c0))), (3, .int (nI (c3))), (4, .int (nI (1)))]) hx hb d_M_pare_80 hl (by decide) rfl (fun ls hl => ?_)
            refine lv_iload hx hb d_M_pare_82 (lv_at hl 0 rfl) ?_
            refine lv_if_eq (tgt := 268) hx hb d_M_pare_84 (by decide) (fun h => absurd h (by decide)) (fun _ => ?_)
            refine lv_iconst (v := (nI (0))) hx hb d_M_pare_87 (by decide) ?_
            refine lv_istore (lv' := [(7, .int (nI (0))), (6, .int (nI (1))), (5, .int (nI (1))), (0, .ref h), (1, .int (nI (o))), (2, .int (nI (c0))), (3, .int (nI (c3))), (4, .int (nI (1)))]) hx hb d_M_pare_88 hl (by decide) rfl (fun ls hl => ?_)
            refine lv_iload hx hb d_M_pare_90 (lv_at hl 0 rfl) ?_
            refine lv_iconst (v := (nI (3))) hx hb d_M_pare_92 (by decide) ?_
            refine jv_icmp_ge (tgt := 265) hx hb (by omega) (by omega) d_M_pare_93 (by decide) (fun h => absurd h (by decide)) (fun _ => ?_)
            refine lv_iload hx hb d_M_pare_96 (lv_at hl 0 rfl) ?_
            refine lv_iload hx hb d_M_pare_98 (lv_at hl 7 rfl) ?_
            refine jv_icmp_ge (tgt := 125) hx hb (by omega) (by omega) d_M_pare_100 (by decide) (fun h => absurd h (by decide)) (fun _ => ?_)
            refine lv_aload_n hx hb d_M_pare_103 rfl (lv_at hl 3 rfl) ?_
            refine va_get (D := g.1) (ci := 3) (v := .ref ad) (C := R_M) (T := F_M) (N := 19) hx hb htB in_M hown ha.1 hP 0 rfl rfl 5 (by decide) (htB _ kw_447) (fun _ h9 => h9) hf5 d_M_pare_104 ?_
            refine lv_iload_n hx hb d_M_pare_107 rfl (lv_at hl 4 rfl) ?_
            refine lv_iload hx hb d_M_pare_108 (lv_at hl 0 rfl) ?_
            refine jv_iadd hx hb d_M_pare_110 ?_
            refine ja_ald (k := o + 0) hx hb ha.1 hP 1 0 rfl rfl (by omega) (by omega) d_M_pare_111 ?_
            refine lv_aload_n hx hb d_M_pare_112 rfl (lv_at hl 3 rfl) ?_
            refine va_get (D := g.1) (ci := 3) (v := .ref ab) (C := R_M) (T := F_M) (N := 19) hx hb htB in_M hown ha.1 hP 0 rfl rfl 8 (by decide) (htB _ kw_450) (fun _ h9 => h9) hf8 d_M_pare_113 ?_
            refine lv_iload hx hb d_M_pare_116 (lv_at hl 0 rfl) ?_
            refine ja_ald (k := 0) hx hb ha.1 hP 3 0 rfl rfl (by omega) (by omega) d_M_pare_118 ?_
            refine va_calli (va_runS (As := [.int (fd (o + 0)), .int (bx (0))]) (rest := []) ⟨hx, hb, hml, hown, htB⟩ (p_M_more l g z _ (fd (o + 0)) (bx (0))) (va_cwS 2 htB (gS kw_540 kw_541 kw_3 g_M_more) rfl rfl rfl (by decide +kernel) ⟨by decide, by decide⟩) (pre_S hS hz ha trivial) rfl rfl hl.1 rfl (lv_room (Nat.le_of_ble_eq_true rfl)) d_M_pare_119 ⟨by decide, by decide⟩) hS (fun q _ h => h.elim) (fun q h => h.elim) (fun r_23 u t H1 locs ht hvm hw hB hz1 hk1 hS => ?_)
            obtain rfl := hB.symm.trans ht
            subst hw
            refine lv_goto (tgt := 134) hx hb d_M_pare_122 (by decide) ?_
            refine lv_istore (lv' := [(8, .int (mxI (fd (o + 0)) (bx (0)))), (7, .int (nI (0))), (6, .int (nI (1))), (5, .int (nI (1))), (0, .ref h), (1, .int (nI (o))), (2, .int (nI (c0))), (3, .int (nI (c3))), (4, .int (nI (1)))]) hx hb d_M_pare_134 hl (by decide) rfl (fun ls hl => ?_)
            refine lv_iload hx hb d_M_pare_136 (lv_at hl 1 rfl) ?_
            refine lv_iload hx hb d_M_pare_138 (lv_at hl 8 rfl) ?_
            refine jv_icmp_ge (tgt := 169) hx hb (by omega) (by omega) d_M_pare_140 (by decide) (fun h => absurd h (by decide)) (fun _ => ?_)
            refine lv_aload_n hx hb d_M_pare_143 rfl (lv_at hl 4 rfl) ?_
            refine va_get (D := g.1) (ci := 3) (v := .ref ad) (C := R_M) (T := F_M) (N := 19) hx hb htB in_M hown ha.1 hP 0 rfl rfl 5 (by decide) (htB _ kw_447) (fun _ h9 => h9) hf5 d_M_pare_144 ?_
            refine lv_iload_n hx hb d_M_pare_147 rfl (lv_at hl 5 rfl) ?_
            refine lv_iconst (v := (nI (3))) hx hb d_M_pare_148 (by decide) ?_
            refine jv_iadd hx hb d_M_pare_149 ?_
            refine lv_iload hx hb d_M_pare_150 (lv_at hl 1 rfl) ?_
            refine jv_iadd hx hb d_M_pare_152 ?_
            refine ja_ald (k := (o + 3) + 0) hx hb ha.1 hP 1 0 rfl rfl (by omega) (by omega) d_M_pare_153 ?_
            refine lv_aload_n hx hb d_M_pare_154 rfl (lv_at hl 4 rfl) ?_
            refine va_get (D := g.1) (ci := 3) (v := .ref ab) (C := R_M) (T := F_M) (N := 19) hx hb htB in_M hown ha.1 hP 0 rfl rfl 8 (by decide) (htB _ kw_450) (fun _ h9 => h9) hf8 d_M_pare_155 ?_
            refine lv_iconst (v := (nI (3))) hx hb d_M_pare_158 (by decide) ?_
            refine lv_iload hx hb d_M_pare_159 (lv_at hl 1 rfl) ?_
            refine jv_iadd hx hb d_M_pare_161 ?_
            refine ja_ald (k := 3) hx hb ha.1 hP 3 0 rfl rfl (by omega) (by omega) d_M_pare_162 ?_
            refine va_calli (va_runS (As := [.int (fd ((o + 3) + 0)), .int (bx (3))]) (rest := []) ⟨hx, hb, hml, hown, htB⟩ (p_M_less l g z _ (fd ((o + 3) + 0)) (bx (3))) (va_cwS 2 htB (gS kw_543 kw_544 kw_3 g_M_less) rfl rfl rfl (by decide +kernel) ⟨by decide, by decide⟩) (pre_S hS hz ha trivial) rfl rfl hl.1 rfl (lv_room (Nat.le_of_ble_eq_true rfl)) d_M_pare_163 ⟨by decide, by decide⟩) hS (fun q _ h => h.elim) (fun q h => h.elim) (fun r_24 u t H1 locs ht hvm hw hB hz1 hk1 hS => ?_)
            obtain rfl := hB.symm.trans ht
            subst hw
            refine lv_goto (tgt := 180) hx hb d_M_pare_166 (by decide) ?_
            refine lv_istore (lv' := [(9, .int (mnI (fd ((o + 3) + 0)) (bx (3)))), (8, .int (mxI (fd (o + 0)) (bx (0)))), (7, .int (nI (0))), (6, .int (nI (1))), (5, .int (nI (1))), (0, .ref h), (1, .int (nI (o))), (2, .int (nI (c0))), (3, .int (nI (c3))), (4, .int (nI (1)))]) hx hb d_M_pare_180 hl (by decide) rfl (fun ls hl => ?_)
            refine lv_aload_n hx hb d_M_pare_182 rfl (lv_at hl 5 rfl) ?_
            refine va_get (D := g.1) (ci := 3) (v := .ref amd) (C := R_M) (T := F_M) (N := 19) hx hb htB in_M hown ha.1 hP 0 rfl rfl 7 (by decide) (htB _ kw_449) (fun _ h9 => h9) hf7 d_M_pare_183 ?_
            refine lv_bipush (v := (nI (6))) hx hb d_M_pare_186 (by decide) ?_
            refine lv_iload_n hx hb d_M_pare_188 rfl (lv_at hl 8 rfl) ?_
            refine jv_imul hx hb d_M_pare_189 ?_
            refine lv_iload hx hb d_M_pare_190 (lv_at hl 2 rfl) ?_
            refine jv_iadd hx hb d_M_pare_192 ?_
            refine lv_iload hx hb d_M_pare_193 (lv_at hl 2 rfl) ?_
            refine lv_iload hx hb d_M_pare_195 (lv_at hl 9 rfl) ?_
            refine jv_icmp_ne (tgt := 218) hx hb (by omega) (by omega) d_M_pare_197 (by decide) (fun _ => ?_) (fun h => absurd h (by decide))
            refine lv_iload hx hb d_M_pare_218 (lv_at hl 1 rfl) ?_
            refine ja_ast (k := (6 * c3) + 0) hx hb ha.1 hP hD hS 2 0 rfl rfl (by omega) (by omega) d_M_pare_220 (fun H locs hP hD hS => ?_)
            have hP : va_P g.1 cls [(h, .inr (3, fs)), (ad, eI g 288 (fd)), (amd, eI g 1008 (upd (md3) ((6 * c3) + 0) (mxI (fd (o + 0)) (bx (0))))), (ab, eI g 6 (bx))] H := hP
            have hD : va_D A [(h, .inr (3, fs)), (ad, eI g 288 (fd)), (amd, eI g 1008 (upd (md3) ((6 * c3) + 0) (mxI (fd (o + 0)) (bx (0))))), (ab, eI g 6 (bx))] := hD
            refine lv_aload_n hx hb d_M_pare_221 rfl (lv_at hl 5 rfl) ?_
            refine va_get (D := g.1) (ci := 3) (v := .ref amd) (C := R_M) (T := F_M) (N := 19) hx hb htB in_M hown ha.1 hP 0 rfl rfl 7 (by decide) (htB _ kw_449) (fun _ h9 => h9) hf7 d_M_pare_222 ?_
            refine lv_bipush (v := (nI (6))) hx hb d_M_pare_225 (by decide) ?_
            refine lv_iload_n hx hb d_M_pare_227 rfl (lv_at hl 8 rfl) ?_
            refine jv_imul hx hb d_M_pare_228 ?_
            refine lv_iconst (v := (nI (3))) hx hb d_M_pare_229 (by decide) ?_
            refine jv_iadd hx hb d_M_pare_230 ?_
            refine lv_iload hx hb d_M_pare_231 (lv_at hl 2 rfl) ?_
            refine jv_iadd hx hb d_M_pare_233 ?_
            refine lv_iload hx hb d_M_pare_234 (lv_at hl 2 rfl) ?_
            refine lv_iload hx hb d_M_pare_236 (lv_at hl 9 rfl) ?_
            refine jv_icmp_ne (tgt := 256) hx hb (by omega) (by omega) d_M_pare_238 (by decide) (fun _ => ?_) (fun h => absurd h (by decide))
            refine lv_iload hx hb d_M_pare_256 (lv_at hl 0 rfl) ?_
            refine ja_ast (k := ((6 * c3) + 3) + 0) hx hb ha.1 hP hD hS 2 0 rfl rfl (by omega) (by omega) d_M_pare_258 (fun H locs hP hD hS => ?_)
            have hP : va_P g.1 cls [(h, .inr (3, fs)), (ad, eI g 288 (fd)), (amd, eI g 1008 (upd (upd (md3) ((6 * c3) + 0) (mxI (fd (o + 0)) (bx (0)))) (((6 * c3) + 3) + 0) (mnI (fd ((o + 3) + 0)) (bx (3))))), (ab, eI g 6 (bx))] H := hP
            have hD : va_D A [(h, .inr (3, fs)), (ad, eI g 288 (fd)), (amd, eI g 1008 (upd (upd (md3) ((6 * c3) + 0) (mxI (fd (o + 0)) (bx (0)))) (((6 * c3) + 3) + 0) (mnI (fd ((o + 3) + 0)) (bx (3))))), (ab, eI g 6 (bx))] := hD
            refine lv_iinc (v := nI (1)) (lv' := [(7, .int (nI (1))), (9, .int (mnI (fd ((o + 3) + 0)) (bx (3)))), (8, .int (mxI (fd (o + 0)) (bx (0)))), (6, .int (nI (1))), (5, .int (nI (1))), (0, .ref h), (1, .int (nI (o))), (2, .int (nI (c0))), (3, .int (nI (c3))), (4, .int (nI (1)))]) hx hb d_M_pare_259 hl (k := 2) rfl (nI_add _ 1) (by decide) rfl (fun ls hl => ?_)
            refine lv_goto (tgt := 90) hx hb d_M_pare_262 (by decide) ?_
            refine lv_iload hx hb d_M_pare_90 (lv_at hl 0 rfl) ?_
            refine lv_iconst (v := (nI (3))) hx hb d_M_pare_92 (by decide) ?_
            refine jv_icmp_ge (tgt := 265) hx hb (by omega) (by omega) d_M_pare_93 (by decide) (fun h => absurd h (by decide)) (fun _ => ?_)
            refine lv_iload hx hb d_M_pare_96 (lv_at hl 0 rfl) ?_
            refine lv_iload hx hb d_M_pare_98 (lv_at hl 9 rfl) ?_
            refine jv_icmp_ge (tgt := 125) hx hb (by omega) (by omega) d_M_pare_100 (by decide) (fun _ => ?_) (fun h => absurd h (by decide))
            refine lv_aload_n hx hb d_M_pare_125 rfl (lv_at hl 5 rfl) ?_
            refine va_get (D := g.1) (ci := 3) (v := .ref ad) (C := R_M) (T := F_M) (N := 19) hx hb htB in_M hown ha.1 hP 0 rfl rfl 5 (by decide) (htB _ kw_447) (fun _ h9 => h9) hf5 d_M_pare_126 ?_
            refine lv_iload_n hx hb d_M_pare_129 rfl (lv_at hl 6 rfl) ?_
            refine lv_iload hx hb d_M_pare_130 (lv_at hl 0 rfl) ?_
            refine jv_iadd hx hb d_M_pare_132 ?_
            refine ja_ald (k := o + 1) hx hb ha.1 hP 1 0 rfl rfl (by omega) (by omega) d_M_pare_133 ?_
            refine lv_istore (lv' := [(8, .int (fd (o + 1))), (7, .int (nI (1))), (9, .int (mnI (fd ((o + 3) + 0)) (bx (3)))), (6, .int (nI (1))), (5, .int (nI (1))), (0, .ref h), (1, .int (nI (o))), (2, .int (nI (c0))), (3, .int (nI (c3))), (4, .int (nI (1)))]) hx hb d_M_pare_134 hl (by decide) rfl (fun ls hl => ?_)
            refine lv_iload hx hb d_M_pare_136 (lv_at hl 1 rfl) ?_
            refine lv_iload hx hb d_M_pare_138 (lv_at hl 9 rfl) ?_
            refine jv_icmp_ge (tgt := 169) hx hb (by omega) (by omega) d_M_pare_140 (by decide) (fun _ => ?_) (fun h => absurd h (by decide))
            refine lv_aload_n hx hb d_M_pare_169 rfl (lv_at hl 5 rfl) ?_
            refine va_get (D := g.1) (ci := 3) (v := .ref ad) (C := R_M) (T := F_M) (N := 19) hx hb htB in_M hown ha.1 hP 0 rfl rfl 5 (by decide) (htB _ kw_447) (fun _ h9 => h9) hf5 d_M_pare_170 ?_
            refine lv_iload_n hx hb d_M_pare_173 rfl (lv_at hl 6 rfl) ?_
            refine lv_iconst (v := (nI (3))) hx hb d_M_pare_174 (by decide) ?_
            refine jv_iadd hx hb d_M_pare_175 ?_
            refine lv_iload hx hb d_M_pare_176 (lv_at hl 1 rfl) ?_
            refine jv_iadd hx hb d_M_pare_178 ?_
            refine ja_ald (k := (o + 3) + 1) hx hb ha.1 hP 1 0 rfl rfl (by omega) (by omega) d_M_pare_179 ?_
            refine lv_istore (lv' := [(9, .int (fd ((o + 3) + 1))), (8, .int (fd (o + 1))), (7, .int (nI (1))), (6, .int (nI (1))), (5, .int (nI (1))), (0, .ref h), (1, .int (nI (o))), (2, .int (nI (c0))), (3, .int (nI (c3))), (4, .int (nI (1)))]) hx hb d_M_pare_180 hl (by decide) rfl (fun ls hl => ?_)
            refine lv_aload_n hx hb d_M_pare_182 rfl (lv_at hl 5 rfl) ?_
            refine va_get (D := g.1) (ci := 3) (v := .ref amd) (C := R_M) (T := F_M) (N := 19) hx hb htB in_M hown ha.1 hP 0 rfl rfl 7 (by decide) (htB _ kw_449) (fun _ h9 => h9) hf7 d_M_pare_183 ?_
            refine lv_bipush (v := (nI (6))) hx hb d_M_pare_186 (by decide) ?_
            refine lv_iload_n hx hb d_M_pare_188 rfl (lv_at hl 8 rfl) ?_
            refine jv_imul hx hb d_M_pare_189 ?_
            refine lv_iload hx hb d_M_pare_190 (lv_at hl 2 rfl) ?_
            refine jv_iadd hx hb d_M_pare_192 ?_
            refine lv_iload hx hb d_M_pare_193 (lv_at hl 2 rfl) ?_
            refine lv_iload hx hb d_M_pare_195 (lv_at hl 9 rfl) ?_
            refine jv_icmp_ne (tgt := 218) hx hb (by omega) (by omega) d_M_pare_197 (by decide) (fun h => absurd h (by decide)) (fun _ => ?_)
            refine lv_iload hx hb d_M_pare_200 (lv_at hl 4 rfl) ?_
            refine lv_iconst (v := (nI (1))) hx hb d_M_pare_202 (by decide) ?_
            refine jv_icmp_ne (tgt := 218) hx hb (by omega) (by omega) d_M_pare_203 (by decide) (fun h => absurd h (by decide)) (fun _ => ?_)
            refine lv_aload_n hx hb d_M_pare_206 rfl (lv_at hl 5 rfl) ?_
            refine va_get (D := g.1) (ci := 3) (v := .ref ab) (C := R_M) (T := F_M) (N := 19) hx hb htB in_M hown ha.1 hP 0 rfl rfl 8 (by decide) (htB _ kw_450) (fun _ h9 => h9) hf8 d_M_pare_207 ?_
            refine lv_iconst (v := (nI (3))) hx hb d_M_pare_210 (by decide) ?_
            refine lv_iload hx hb d_M_pare_211 (lv_at hl 9 rfl) ?_
            refine jv_iadd hx hb d_M_pare_213 ?_
            refine ja_ald (k := 4) hx hb ha.1 hP 3 0 rfl rfl (by omega) (by omega) d_M_pare_214 ?_
            refine lv_goto (tgt := 220) hx hb d_M_pare_215 (by decide) ?_
            refine ja_ast (k := (6 * c3) + 1) hx hb ha.1 hP hD hS 2 0 rfl rfl (by omega) (by omega) d_M_pare_220 (fun H locs hP hD hS => ?_)
            have hP : va_P g.1 cls [(h, .inr (3, fs)), (ad, eI g 288 (fd)), (amd, eI g 1008 (upd (upd (upd (md3) ((6 * c3) + 0) (mxI (fd (o + 0)) (bx (0)))) (((6 * c3) + 3) + 0) (mnI (fd ((o + 3) + 0)) (bx (3)))) ((6 * c3) + 1) (bx (4)))), (ab, eI g 6 (bx))] H := hP
            have hD : va_D A [(h, .inr (3, fs)), (ad, eI g 288 (fd)), (amd, eI g 1008 (upd (upd (upd (md3) ((6 * c3) + 0) (mxI (fd (o + 0)) (bx (0)))) (((6 * c3) + 3) + 0) (mnI (fd ((o + 3) + 0)) (bx (3)))) ((6 * c3) + 1) (bx (4)))), (ab, eI g 6 (bx))] := hD
            refine lv_aload_n hx hb d_M_pare_221 rfl (lv_at hl 5 rfl) ?_
            refine va_get (D := g.1) (ci := 3) (v := .ref amd) (C := R_M) (T := F_M) (N := 19) hx hb htB in_M hown ha.1 hP 0 rfl rfl 7 (by decide) (htB _ kw_449) (fun _ h9 => h9) hf7 d_M_pare_222 ?_
            refine lv_bipush (v := (nI (6))) hx hb d_M_pare_225 (by decide) ?_
            refine lv_iload_n hx hb d_M_pare_227 rfl (lv_at hl 8 rfl) ?_
            refine jv_imul hx hb d_M_pare_228 ?_
            refine lv_iconst (v := (nI (3))) hx hb d_M_pare_229 (by decide) ?_
            refine jv_iadd hx hb d_M_pare_230 ?_
            refine lv_iload hx hb d_M_pare_231 (lv_at hl 2 rfl) ?_
            refine jv_iadd hx hb d_M_pare_233 ?_
            refine lv_iload hx hb d_M_pare_234 (lv_at hl 2 rfl) ?_
            refine lv_iload hx hb d_M_pare_236 (lv_at hl 9 rfl) ?_
            refine jv_icmp_ne (tgt := 256) hx hb (by omega) (by omega) d_M_pare_238 (by decide) (fun h => absurd h (by decide)) (fun _ => ?_)
            refine lv_iload hx hb d_M_pare_241 (lv_at hl 4 rfl) ?_
            refine lv_if_ne (tgt := 256) hx hb d_M_pare_243 (by decide) (fun _ => ?_) (fun h => absurd h (by decide))
            refine lv_iload hx hb d_M_pare_256 (lv_at hl 0 rfl) ?_
            refine ja_ast (k := ((6 * c3) + 3) + 1) hx hb ha.1 hP hD hS 2 0 rfl rfl (by omega) (by omega) d_M_pare_258 (fun H locs hP hD hS => ?_)
            have hP : va_P g.1 cls [(h, .inr (3, fs)), (ad, eI g 288 (fd)), (amd, eI g 1008 (upd (upd (upd (upd (md3) ((6 * c3) + 0) (mxI (fd (o + 0)) (bx (0)))) (((6 * c3) + 3) + 0) (mnI (fd ((o + 3) + 0)) (bx (3)))) ((6 * c3) + 1) (bx (4))) (((6 * c3) + 3) + 1) (fd ((o + 3) + 1)))), (ab, eI g 6 (bx))] H := hP
            have hD : va_D A [(h, .inr (3, fs)), (ad, eI g 288 (fd)), (amd, eI g 1008 (upd (upd (upd (upd (md3) ((6 * c3) + 0) (mxI (fd (o + 0)) (bx (0)))) (((6 * c3) + 3) + 0) (mnI (fd ((o + 3) + 0)) (bx (3)))) ((6 * c3) + 1) (bx (4))) (((6 * c3) + 3) + 1) (fd ((o + 3) + 1)))), (ab, eI g 6 (bx))] := hD
            refine lv_iinc (v := nI (2)) (lv' := [(7, .int (nI (2))), (9, .int (fd ((o + 3) + 1))), (8, .int (fd (o + 1))), (6, .int (nI (1))), (5, .int (nI (1))), (0, .ref h), (1, .int (nI (o))), (2, .int (nI (c0))), (3, .int (nI (c3))), (4, .int (nI (1)))]) hx hb d_M_pare_259 hl (k := 2) rfl (nI_add _ 1) (by decide) rfl (fun ls hl => ?_)
            refine lv_goto (tgt := 90) hx hb d_M_pare_262 (by decide) ?_
            refine lv_iload hx hb d_M_pare_90 (lv_at hl 0 rfl) ?_
            refine lv_iconst (v := (nI (3))) hx hb d_M_pare_92 (by decide) ?_
            refine jv_icmp_ge (tgt := 265) hx hb (by omega) (by omega) d_M_pare_93 (by decide) (fun h => absurd h (by decide)) (fun _ => ?_)
            refine lv_iload hx hb d_M_pare_96 (lv_at hl 0 rfl) ?_
            refine lv_iload hx hb d_M_pare_98 (lv_at hl 9 rfl) ?_
            refine jv_icmp_ge (tgt := 125) hx hb (by omega) (by omega) d_M_pare_100 (by decide) (fun _ => ?_) (fun h => absurd h (by decide))
            refine lv_aload_n hx hb d_M_pare_125 rfl (lv_at hl 5 rfl) ?_
            refine va_get (D := g.1) (ci := 3) (v := .ref ad) (C := R_M) (T := F_M) (N := 19) hx hb htB in_M hown ha.1 hP 0 rfl rfl 5 (by decide) (htB _ kw_447) (fun _ h9 => h9) hf5 d_M_pare_126 ?_
            refine lv_iload_n hx hb d_M_pare_129 rfl (lv_at hl 6 rfl) ?_
            refine lv_iload hx hb d_M_pare_130 (lv_at hl 0 rfl) ?_
            refine jv_iadd hx hb d_M_pare_132 ?_
            refine ja_ald (k := o + 2) hx hb ha.1 hP 1 0 rfl rfl (by omega) (by omega) d_M_pare_133 ?_
            refine lv_istore (lv' := [(8, .int (fd (o + 2))), (7, .int (nI (2))), (9, .int (fd ((o + 3) + 1))), (6, .int (nI (1))), (5, .int (nI (1))), (0, .ref h), (1, .int (nI (o))), (2, .int (nI (c0))), (3, .int (nI (c3))), (4, .int (nI (1)))]) hx hb d_M_pare_134 hl (by decide) rfl (fun ls hl => ?_)
            refine lv_iload hx hb d_M_pare_136 (lv_at hl 1 rfl) ?_
            refine lv_iload hx hb d_M_pare_138 (lv_at hl 9 rfl) ?_
            refine jv_icmp_ge (tgt := 169) hx hb (by omega) (by omega) d_M_pare_140 (by decide) (fun _ => ?_) (fun h => absurd h (by decide))
            refine lv_aload_n hx hb d_M_pare_169 rfl (lv_at hl 5 rfl) ?_
            refine va_get (D := g.1) (ci := 3) (v := .ref ad) (C := R_M) (T := F_M) (N := 19) hx hb htB in_M hown ha.1 hP 0 rfl rfl 5 (by decide) (htB _ kw_447) (fun _ h9 => h9) hf5 d_M_pare_170 ?_
            refine lv_iload_n hx hb d_M_pare_173 rfl (lv_at hl 6 rfl) ?_
            refine lv_iconst (v := (nI (3))) hx hb d_M_pare_174 (by decide) ?_
            refine jv_iadd hx hb d_M_pare_175 ?_
            refine lv_iload hx hb d_M_pare_176 (lv_at hl 1 rfl) ?_
            refine jv_iadd hx hb d_M_pare_178 ?_
            refine ja_ald (k := (o + 3) + 2) hx hb ha.1 hP 1 0 rfl rfl (by omega) (by omega) d_M_pare_179 ?_
            refine lv_istore (lv' := [(9, .int (fd ((o + 3) + 2))), (8, .int (fd (o + 2))), (7, .int (nI (2))), (6, .int (nI (1))), (5, .int (nI (1))), (0, .ref h), (1, .int (nI (o))), (2, .int (nI (c0))), (3, .int (nI (c3))), (4, .int (nI (1)))]) hx hb d_M_pare_180 hl (by decide) rfl (fun ls hl => ?_)
            refine lv_aload_n hx hb d_M_pare_182 rfl (lv_at hl 5 rfl) ?_
            refine va_get (D := g.1) (ci := 3) (v := .ref amd) (C := R_M) (T := F_M) (N := 19) hx hb htB in_M hown ha.1 hP 0 rfl rfl 7 (by decide) (htB _ kw_449) (fun _ h9 => h9) hf7 d_M_pare_183 ?_
            refine lv_bipush (v := (nI (6))) hx hb d_M_pare_186 (by decide) ?_
            refine lv_iload_n hx hb d_M_pare_188 rfl (lv_at hl 8 rfl) ?_
            refine jv_imul hx hb d_M_pare_189 ?_
            refine lv_iload hx hb d_M_pare_190 (lv_at hl 2 rfl) ?_
            refine jv_iadd hx hb d_M_pare_192 ?_
            refine lv_iload hx hb d_M_pare_193 (lv_at hl 2 rfl) ?_
            refine lv_iload hx hb d_M_pare_195 (lv_at hl 9 rfl) ?_
            refine jv_icmp_ne (tgt := 218) hx hb (by omega) (by omega) d_M_pare_197 (by decide) (fun _ => ?_) (fun h => absurd h (by decide))
            refine lv_iload hx hb d_M_pare_218 (lv_at hl 1 rfl) ?_
            refine ja_ast (k := (6 * c3) + 2) hx hb ha.1 hP hD hS 2 0 rfl rfl (by omega) (by omega) d_M_pare_220 (fun H locs hP hD hS => ?_)
            have hP : va_P g.1 cls [(h, .inr (3, fs)), (ad, eI g 288 (fd)), (amd, eI g 1008 (upd (upd (upd (upd (upd (md3) ((6 * c3) + 0) (mxI (fd (o + 0)) (bx (0)))) (((6 * c3) + 3) + 0) (mnI (fd ((o + 3) + 0)) (bx (3)))) ((6 * c3) + 1) (bx (4))) (((6 * c3) + 3) + 1) (fd ((o + 3) + 1))) ((6 * c3) + 2) (fd (o + 2)))), (ab, eI g 6 (bx))] H := hP
            have hD : va_D A [(h, .inr (3, fs)), (ad, eI g 288 (fd)), (amd, eI g 1008 (upd (upd (upd (upd (upd (md3) ((6 * c3) + 0) (mxI (fd (o + 0)) (bx (0)))) (((6 * c3) + 3) + 0) (mnI (fd ((o + 3) + 0)) (bx (3)))) ((6 * c3) + 1) (bx (4))) (((6 * c3) + 3) + 1) (fd ((o + 3) + 1))) ((6 * c3) + 2) (fd (o + 2)))), (ab, eI g 6 (bx))] := hD
            refine lv_aload_n hx hb d_M_pare_221 rfl (lv_at hl 5 rfl) ?_
            refine va_get (D := g.1) (ci := 3) (v := .ref amd) (C := R_M) (T := F_M) (N := 19) hx hb htB in_M hown ha.1 hP 0 rfl rfl 7 (by decide) (htB _ kw_449) (fun _ h9 => h9) hf7 d_M_pare_222 ?_
            refine lv_bipush (v := (nI (6))) hx hb d_M_pare_225 (by decide) ?_
            refine lv_iload_n hx hb d_M_pare_227 rfl (lv_at hl 8 rfl) ?_
            refine jv_imul hx hb d_M_pare_228 ?_
            refine lv_iconst (v := (nI (3))) hx hb d_M_pare_229 (by decide) ?_
            refine jv_iadd hx hb d_M_pare_230 ?_
            refine lv_iload hx hb d_M_pare_231 (lv_at hl 2 rfl) ?_
            refine jv_iadd hx hb d_M_pare_233 ?_
            refine lv_iload hx hb d_M_pare_234 (lv_at hl 2 rfl) ?_
            refine lv_iload hx hb d_M_pare_236 (lv_at hl 9 rfl) ?_
            refine jv_icmp_ne (tgt := 256) hx hb (by omega) (by omega) d_M_pare_238 (by decide) (fun _ => ?_) (fun h => absurd h (by decide))
            refine lv_iload hx hb d_M_pare_256 (lv_at hl 0 rfl) ?_
            refine ja_ast (k := ((6 * c3) + 3) + 2) hx hb ha.1 hP hD hS 2 0 rfl rfl (by omega) (by omega) d_M_pare_258 (fun H locs hP hD hS => ?_)
            have hP : va_P g.1 cls [(h, .inr (3, fs)), (ad, eI g 288 (fd)), (amd, eI g 1008 (upd (upd (upd (upd (upd (upd (md3) ((6 * c3) + 0) (mxI (fd (o + 0)) (bx (0)))) (((6 * c3) + 3) + 0) (mnI (fd ((o + 3) + 0)) (bx (3)))) ((6 * c3) + 1) (bx (4))) (((6 * c3) + 3) + 1) (fd ((o + 3) + 1))) ((6 * c3) + 2) (fd (o + 2))) (((6 * c3) + 3) + 2) (fd ((o + 3) + 2)))), (ab, eI g 6 (bx))] H := hP
            have hD : va_D A [(h, .inr (3, fs)), (ad, eI g 288 (fd)), (amd, eI g 1008 (upd (upd (upd (upd (upd (upd (md3) ((6 * c3) + 0) (mxI (fd (o + 0)) (bx (0)))) (((6 * c3) + 3) + 0) (mnI (fd ((o + 3) + 0)) (bx (3)))) ((6 * c3) + 1) (bx (4))) (((6 * c3) + 3) + 1) (fd ((o + 3) + 1))) ((6 * c3) + 2) (fd (o + 2))) (((6 * c3) + 3) + 2) (fd ((o + 3) + 2)))), (ab, eI g 6 (bx))] := hD
            refine lv_iinc (v := nI (3)) (lv' := [(7, .int (nI (3))), (9, .int (fd ((o + 3) + 2))), (8, .int (fd (o + 2))), (6, .int (nI (1))), (5, .int (nI (1))), (0, .ref h), (1, .int (nI (o))), (2, .int (nI (c0))), (3, .int (nI (c3))), (4, .int (nI (1)))]) hx hb d_M_pare_259 hl (k := 2) rfl (nI_add _ 1) (by decide) rfl (fun ls hl => ?_)
            refine lv_goto (tgt := 90) hx hb d_M_pare_262 (by decide) ?_
            refine lv_iload hx hb d_M_pare_90 (lv_at hl 0 rfl) ?_
            refine lv_iconst (v := (nI (3))) hx hb d_M_pare_92 (by decide) ?_
            refine jv_icmp_ge (tgt := 265) hx hb (by omega) (by omega) d_M_pare_93 (by decide) (fun _ => ?_) (fun h => absurd h (by decide))
            refine lv_iinc (v := nI (c3 + 1)) (lv' := [(3, .int (nI (c3 + 1))), (7, .int (nI (3))), (9, .int (fd ((o + 3) + 2))), (8, .int (fd (o + 2))), (6, .int (nI (1))), (5, .int (nI (1))), (0, .ref h), (1, .int (nI (o))), (2, .int (nI (c0))), (4, .int (nI (1)))]) hx hb d_M_pare_265 hl (k := 8) rfl (nI_add _ 1) (by decide) rfl (fun ls hl => ?_)
            exact K4 ls locs H ⟨c3 + 1, upd (upd (upd (upd (upd (upd (md3) ((6 * c3) + 0) (mxI (fd (o + 0)) (bx (0)))) (((6 * c3) + 3) + 0) (mnI (fd ((o + 3) + 0)) (bx (3)))) ((6 * c3) + 1) (bx (4))) (((6 * c3) + 3) + 1) (fd ((o + 3) + 1))) ((6 * c3) + 2) (fd (o + 2))) (((6 * c3) + 3) + 2) (fd ((o + 3) + 2)), (if_pos c_20).symm, by omega, lv_sub (l' := [(0, .ref h), (1, .int (nI (o))), (2, .int (nI (c0))), (3, .int (nI (c3 + 1))), (4, .int (nI (1))), (5, .int (nI (1)))]) hl [6, 7, 8, 0, 9, 5] rfl, hP, hD, hS⟩
      · refine lv_iload hx hb d_M_pare_14 (lv_at hl 0 rfl) ?_
        refine lv_iconst (v := (nI (2))) hx hb d_M_pare_16 (by decide) ?_
        refine jv_icmp_ge (tgt := 274) hx hb (by omega) (by omega) d_M_pare_17 (by decide) (fun h => absurd h (by decide)) (fun _ => ?_)
        refine lv_iload hx hb d_M_pare_20 (lv_at hl 0 rfl) ?_
        refine lv_if_ne (tgt := 52) hx hb d_M_pare_22 (by decide) (fun h => absurd h (by decide)) (fun _ => ?_)
        refine lv_aload_n hx hb d_M_pare_25 rfl (lv_at hl 2 rfl) ?_
        refine va_get (D := g.1) (ci := 3) (v := .ref ad) (C := R_M) (T := F_M) (N := 19) hx hb htB in_M hown ha.1 hP 0 rfl rfl 5 (by decide) (htB _ kw_447) (fun _ h9 => h9) hf5 d_M_pare_26 ?_
        refine lv_iload_n hx hb d_M_pare_29 rfl (lv_at hl 3 rfl) ?_
        refine lv_iload hx hb d_M_pare_30 (lv_at hl 1 rfl) ?_
        refine jv_iadd hx hb d_M_pare_32 ?_
        refine ja_ald (k := o + 1) hx hb ha.1 hP 1 0 rfl rfl (by omega) (by omega) d_M_pare_33 ?_
        refine lv_aload_n hx hb d_M_pare_34 rfl (lv_at hl 2 rfl) ?_
        refine va_get (D := g.1) (ci := 3) (v := .ref ab) (C := R_M) (T := F_M) (N := 19) hx hb htB in_M hown ha.1 hP 0 rfl rfl 8 (by decide) (htB _ kw_450) (fun _ h9 => h9) hf8 d_M_pare_35 ?_
        refine lv_iload hx hb d_M_pare_38 (lv_at hl 1 rfl) ?_
        refine ja_ald (k := 1) hx hb ha.1 hP 3 0 rfl rfl (by omega) (by omega) d_M_pare_40 ?_
        refine lv_icmp_ge (tgt := 48) hx hb d_M_pare_41 (by decide) (fun c_27 => ?_) (fun c_27 => ?_)
        · refine lv_iconst (v := (nI (0))) hx hb d_M_pare_48 (by decide) ?_
          refine lv_goto (tgt := 80) hx hb d_M_pare_49 (by decide) ?_
          refine lv_istore (lv' := [(6, .int (nI (0))), (5, .int (nI (0))), (4, .int (nI (1))), (0, .ref h), (1, .int (nI (o))), (2, .int (nI (c0))), (3, .int (nI (c2)))]) hx hb d_M_pare_80 hl (by decide) rfl (fun ls hl => ?_)
          refine lv_iload hx hb d_M_pare_82 (lv_at hl 0 rfl) ?_
          refine lv_if_eq (tgt := 268) hx hb d_M_pare_84 (by decide) (fun _ => ?_) (fun h => absurd h (by decide))
          exact K3 ls locs H ⟨c2, md2, (if_neg (fun q => q c_27)).symm, by omega, lv_sub (l' := [(0, .ref h), (1, .int (nI (o))), (2, .int (nI (c0))), (3, .int (nI (c2))), (4, .int (nI (1))), (5, .int (nI (0)))]) hl [3, 4, 5, 6, 2, 1] rfl, hP, hD, hS⟩
        · refine lv_iconst (v := (nI (1))) hx hb d_M_pare_44 (by decide) ?_
          refine lv_goto (tgt := 80) hx hb d_M_pare_45 (by decide) ?_
          refine lv_istore (lv' := [(6, .int (nI (1))), (5, .int (nI (0))), (4, .int (nI (1))), (0, .ref h), (1, .int (nI (o))), (2, .int (nI (c0))), (3, .int (nI (c2)))]) hx hb d_M_pare_80 hl (by decide) rfl (fun ls hl => ?_)
          refine lv_iload hx hb d_M_pare_82 (lv_at hl 0 rfl) ?_
          refine lv_if_eq (tgt := 268) hx hb d_M_pare_84 (by decide) (fun h => absurd h (by decide)) (fun _ => ?_)
          refine lv_iconst (v := (nI (0))) hx hb d_M_pare_87 (by decide) ?_
          refine lv_istore (lv' := [(7, .int (nI (0))), (6, .int (nI (1))), (5, .int (nI (0))), (4, .int (nI (1))), (0, .ref h), (1, .int (nI (o))), (2, .int (nI (c0))), (3, .int (nI (c2)))]) hx hb d_M_pare_88 hl (by decide) rfl (fun ls hl => ?_)
          refine lv_iload hx hb d_M_pare_90 (lv_at hl 0 rfl) ?_
          refine lv_iconst (v := (nI (3))) hx hb d_M_pare_92 (by decide) ?_
          refine jv_icmp_ge (tgt := 265) hx hb (by omega) (by omega) d_M_pare_93 (by decide) (fun h => absurd h (by decide)) (fun _ => ?_)
          refine lv_iload hx hb d_M_pare_96 (lv_at hl 0 rfl) ?_
          refine lv_iload hx hb d_M_pare_98 (lv_at hl 3 rfl) ?_
          refine jv_icmp_ge (tgt := 125) hx hb (by omega) (by omega) d_M_pare_100 (by decide) (fun h => absurd h (by decide)) (fun _ => ?_)
          refine lv_aload_n hx hb d_M_pare_103 rfl (lv_at hl 4 rfl) ?_
          refine va_get (D := g.1) (ci := 3) (v := .ref ad) (C := R_M) (T := F_M) (N := 19) hx hb htB in_M hown ha.1 hP 0 rfl rfl 5 (by decide) (htB _ kw_447) (fun _ h9 => h9) hf5 d_M_pare_104 ?_
          refine lv_iload_n hx hb d_M_pare_107 rfl (lv_at hl 5 rfl) ?_
          refine lv_iload hx hb d_M_pare_108 (lv_at hl 0 rfl) ?_
          refine jv_iadd hx hb d_M_pare_110 ?_
          refine ja_ald (k := o + 0) hx hb ha.1 hP 1 0 rfl rfl (by omega) (by omega) d_M_pare_111 ?_
          refine lv_aload_n hx hb d_M_pare_112 rfl (lv_at hl 4 rfl) ?_
          refine va_get (D := g.1) (ci := 3) (v := .ref ab) (C := R_M) (T := F_M) (N := 19) hx hb htB in_M hown ha.1 hP 0 rfl rfl 8 (by decide) (htB _ kw_450) (fun _ h9 => h9) hf8 d_M_pare_113 ?_
          refine lv_iload hx hb d_M_pare_116 (lv_at hl 0 rfl) ?_
          refine ja_ald (k := 0) hx hb ha.1 hP 3 0 rfl rfl (by omega) (by omega) d_M_pare_118 ?_
          refine va_calli (va_runS (As := [.int (fd (o + 0)), .int (bx (0))]) (rest := []) ⟨hx, hb, hml, hown, htB⟩ (p_M_more l g z _ (fd (o + 0)) (bx (0))) (va_cwS 2 htB (gS kw_540 kw_541 kw_3 g_M_more) rfl rfl rfl (by decide +kernel) ⟨by decide, by decide⟩) (pre_S hS hz ha trivial) rfl rfl hl.1 rfl (lv_room (Nat.le_of_ble_eq_true rfl)) d_M_pare_119 ⟨by decide, by decide⟩) hS (fun q _ h => h.elim) (fun q h => h.elim) (fun r_30 u t H1 locs ht hvm hw hB hz1 hk1 hS => ?_)
          obtain rfl := hB.symm.trans ht
          subst hw
          refine lv_goto (tgt := 134) hx hb d_M_pare_122 (by decide) ?_
          refine lv_istore (lv' := [(8, .int (mxI (fd (o + 0)) (bx (0)))), (7, .int (nI (0))), (6, .int (nI (1))), (5, .int (nI (0))), (4, .int (nI (1))), (0, .ref h), (1, .int (nI (o))), (2, .int (nI (c0))), (3, .int (nI (c2)))]) hx hb d_M_pare_134 hl (by decide) rfl (fun ls hl => ?_)
          refine lv_iload hx hb d_M_pare_136 (lv_at hl 1 rfl) ?_
          refine lv_iload hx hb d_M_pare_138 (lv_at hl 4 rfl) ?_
          refine jv_icmp_ge (tgt := 169) hx hb (by omega) (by omega) d_M_pare_140 (by decide) (fun h => absurd h (by decide)) (fun _ => ?_)
          refine lv_aload_n hx hb d_M_pare_143 rfl (lv_at hl 5 rfl) ?_
          refine va_get (D := g.1) (ci := 3) (v := .ref ad) (C := R_M) (T := F_M) (N := 19) hx hb htB in_M hown ha.1 hP 0 rfl rfl 5 (by decide) (htB _ kw_447) (fun _ h9 => h9) hf5 d_M_pare_144 ?_
          refine lv_iload_n hx hb d_M_pare_147 rfl (lv_at hl 6 rfl) ?_
          refine lv_iconst (v := (nI (3))) hx hb d_M_pare_148 (by decide) ?_
          refine jv_iadd hx hb d_M_pare_149 ?_
          refine lv_iload hx hb d_M_pare_150 (lv_at hl 1 rfl) ?_
          refine jv_iadd hx hb d_M_pare_152 ?_
          refine ja_ald (k := (o + 3) + 0) hx hb ha.1 hP 1 0 rfl rfl (by omega) (by omega) d_M_pare_153 ?_
          refine lv_aload_n hx hb d_M_pare_154 rfl (lv_at hl 5 rfl) ?_
          refine va_get (D := g.1) (ci := 3) (v := .ref ab) (C := R_M) (T := F_M) (N := 19) hx hb htB in_M hown ha.1 hP 0 rfl rfl 8 (by decide) (htB _ kw_450) (fun _ h9 => h9) hf8 d_M_pare_155 ?_
          refine lv_iconst (v := (nI (3))) hx hb d_M_pare_158 (by decide) ?_
          refine lv_iload hx hb d_M_pare_159 (lv_at hl 1 rfl) ?_
          refine jv_iadd hx hb d_M_pare_161 ?_
          refine ja_ald (k := 3) hx hb ha.1 hP 3 0 rfl rfl (by omega) (by omega) d_M_pare_162 ?_
          refine va_calli (va_runS (As := [.int (fd ((o + 3) + 0)), .int (bx (3))]) (rest := []) ⟨hx, hb, hml, hown, htB⟩ (p_M_less l g z _ (fd ((o + 3) + 0)) (bx (3))) (va_cwS 2 htB (gS kw_543 kw_544 kw_3 g_M_less) rfl rfl rfl (by decide +kernel) ⟨by decide, by decide⟩) (pre_S hS hz ha trivial) rfl rfl hl.1 rfl (lv_room (Nat.le_of_ble_eq_true rfl)) d_M_pare_163 ⟨by decide, by decide⟩) hS (fun q _ h => h.elim) (fun q h => h.elim) (fun r_31 u t H1 locs ht hvm hw hB hz1 hk1 hS => ?_)
          obtain rfl := hB.symm.trans ht
          subst hw
          refine lv_goto (tgt := 180) hx hb d_M_pare_166 (by decide) ?_
          refine lv_istore (lv' := [(9, .int (mnI (fd ((o + 3) + 0)) (bx (3)))), (8, .int (mxI (fd (o + 0)) (bx (0)))), (7, .int (nI (0))), (6, .int (nI (1))), (5, .int (nI (0))), (4, .int (nI (1))), (0, .ref h), (1, .int (nI (o))), (2, .int (nI (c0))), (3, .int (nI (c2)))]) hx hb d_M_pare_180 hl (by decide) rfl (fun ls hl => ?_)
          refine lv_aload_n hx hb d_M_pare_182 rfl (lv_at hl 6 rfl) ?_
          refine va_get (D := g.1) (ci := 3) (v := .ref amd) (C := R_M) (T := F_M) (N := 19) hx hb htB in_M hown ha.1 hP 0 rfl rfl 7 (by decide) (htB _ kw_449) (fun _ h9 => h9) hf7 d_M_pare_183 ?_
          refine lv_bipush (v := (nI (6))) hx hb d_M_pare_186 (by decide) ?_
          refine lv_iload_n hx hb d_M_pare_188 rfl (lv_at hl 9 rfl) ?_
          refine jv_imul hx hb d_M_pare_189 ?_
          refine lv_iload hx hb d_M_pare_190 (lv_at hl 2 rfl) ?_
          refine jv_iadd hx hb d_M_pare_192 ?_
          refine lv_iload hx hb d_M_pare_193 (lv_at hl 2 rfl) ?_
          refine lv_iload hx hb d_M_pare_195 (lv_at hl 5 rfl) ?_
          refine jv_icmp_ne (tgt := 218) hx hb (by omega) (by omega) d_M_pare_197 (by decide) (fun _ => ?_) (fun h => absurd h (by decide))
          refine lv_iload hx hb d_M_pare_218 (lv_at hl 1 rfl) ?_
          refine ja_ast (k := (6 * c2) + 0) hx hb ha.1 hP hD hS 2 0 rfl rfl (by omega) (by omega) d_M_pare_220 (fun H locs hP hD hS => ?_)
          have hP : va_P g.1 cls [(h, .inr (3, fs)), (ad, eI g 288 (fd)), (amd, eI g 1008 (upd (md2) ((6 * c2) + 0) (mxI (fd (o + 0)) (bx (0))))), (ab, eI g 6 (bx))] H := hP
          have hD : va_D A [(h, .inr (3, fs)), (ad, eI g 288 (fd)), (amd, eI g 1008 (upd (md2) ((6 * c2) + 0) (mxI (fd (o + 0)) (bx (0))))), (ab, eI g 6 (bx))] := hD
          refine lv_aload_n hx hb d_M_pare_221 rfl (lv_at hl 6 rfl) ?_
          refine va_get (D := g.1) (ci := 3) (v := .ref amd) (C := R_M) (T := F_M) (N := 19) hx hb htB in_M hown ha.1 hP 0 rfl rfl 7 (by decide) (htB _ kw_449) (fun _ h9 => h9) hf7 d_M_pare_222 ?_
          refine lv_bipush (v := (nI (6))) hx hb d_M_pare_225 (by decide) ?_
          refine lv_iload_n hx hb d_M_pare_227 rfl (lv_at hl 9 rfl) ?_
          refine jv_imul hx hb d_M_pare_228 ?_
          refine lv_iconst (v := (nI (3))) hx hb d_M_pare_229 (by decide) ?_
          refine jv_iadd hx hb d_M_pare_230 ?_
          refine lv_iload hx hb d_M_pare_231 (lv_at hl 2 rfl) ?_
          refine jv_iadd hx hb d_M_pare_233 ?_
          refine lv_iload hx hb d_M_pare_234 (lv_at hl 2 rfl) ?_
          refine lv_iload hx hb d_M_pare_236 (lv_at hl 5 rfl) ?_
          refine jv_icmp_ne (tgt := 256) hx hb (by omega) (by omega) d_M_pare_238 (by decide) (fun _ => ?_) (fun h => absurd h (by decide))
          refine lv_iload hx hb d_M_pare_256 (lv_at hl 0 rfl) ?_
          refine ja_ast (k := ((6 * c2) + 3) + 0) hx hb ha.1 hP hD hS 2 0 rfl rfl (by omega) (by omega) d_M_pare_258 (fun H locs hP hD hS => ?_)
          have hP : va_P g.1 cls [(h, .inr (3, fs)), (ad, eI g 288 (fd)), (amd, eI g 1008 (upd (upd (md2) ((6 * c2) + 0) (mxI (fd (o + 0)) (bx (0)))) (((6 * c2) + 3) + 0) (mnI (fd ((o + 3) + 0)) (bx (3))))), (ab, eI g 6 (bx))] H := hP
          have hD : va_D A [(h, .inr (3, fs)), (ad, eI g 288 (fd)), (amd, eI g 1008 (upd (upd (md2) ((6 * c2) + 0) (mxI (fd (o + 0)) (bx (0)))) (((6 * c2) + 3) + 0) (mnI (fd ((o + 3) + 0)) (bx (3))))), (ab, eI g 6 (bx))] := hD
          refine lv_iinc (v := nI (1)) (lv' := [(7, .int (nI (1))), (9, .int (mnI (fd ((o + 3) + 0)) (bx (3)))), (8, .int (mxI (fd (o + 0)) (bx (0)))), (6, .int (nI (1))), (5, .int (nI (0))), (4, .int (nI (1))), (0, .ref h), (1, .int (nI (o))), (2, .int (nI (c0))), (3, .int (nI (c2)))]) hx hb d_M_pare_259 hl (k := 2) rfl (nI_add _ 1) (by decide) rfl (fun ls hl => ?_)
          refine lv_goto (tgt := 90) hx hb d_M_pare_262 (by decide) ?_
          refine lv_iload hx hb d_M_pare_90 (lv_at hl 0 rfl) ?_
          refine lv_iconst (v := (nI (3))) hx hb d_M_pare_92 (by decide) ?_
          refine jv_icmp_ge (tgt := 265) hx hb (by omega) (by omega) d_M_pare_93 (by decide) (fun h => absurd h (by decide)) (fun _ => ?_)
          refine lv_iload hx hb d_M_pare_96 (lv_at hl 0 rfl) ?_
          refine lv_iload hx hb d_M_pare_98 (lv_at hl 5 rfl) ?_
          refine jv_icmp_ge (tgt := 125) hx hb (by omega) (by omega) d_M_pare_100 (by decide) (fun _ => ?_) (fun h => absurd h (by decide))
          refine lv_aload_n hx hb d_M_pare_125 rfl (lv_at hl 6 rfl) ?_
          refine va_get (D := g.1) (ci := 3) (v := .ref ad) (C := R_M) (T := F_M) (N := 19) hx hb htB in_M hown ha.1 hP 0 rfl rfl 5 (by decide) (htB _ kw_447) (fun _ h9 => h9) hf5 d_M_pare_126 ?_
          refine lv_iload_n hx hb d_M_pare_129 rfl (lv_at hl 7 rfl) ?_
          refine lv_iload hx hb d_M_pare_130 (lv_at hl 0 rfl) ?_
          refine jv_iadd hx hb d_M_pare_132 ?_
          refine ja_ald (k := o + 1) hx hb ha.1 hP 1 0 rfl rfl (by omega) (by omega) d_M_pare_133 ?_
          refine lv_istore (lv' := [(8, .int (fd (o + 1))), (7, .int (nI (1))), (9, .int (mnI (fd ((o + 3) + 0)) (bx (3)))), (6, .int (nI (1))), (5, .int (nI (0))), (4, .int (nI (1))), (0, .ref h), (1, .int (nI (o))), (2, .int (nI (c0))), (3, .int (nI (c2)))]) hx hb d_M_pare_134 hl (by decide) rfl (fun ls hl => ?_)
          refine lv_iload hx hb d_M_pare_136 (lv_at hl 1 rfl) ?_
          refine lv_iload hx hb d_M_pare_138 (lv_at hl 5 rfl) ?_
          refine jv_icmp_ge (tgt := 169) hx hb (by omega) (by omega) d_M_pare_140 (by decide) (fun _ => ?_) (fun h => absurd h (by decide))
          refine lv_aload_n hx hb d_M_pare_169 rfl (lv_at hl 6 rfl) ?_
          refine va_get (D := g.1) (ci := 3) (v := .ref ad) (C := R_M) (T := F_M) (N := 19) hx hb htB in_M hown ha.1 hP 0 rfl rfl 5 (by decide) (htB _ kw_447) (fun _ h9 => h9) hf5 d_M_pare_170 ?_
          refine lv_iload_n hx hb d_M_pare_173 rfl (lv_at hl 7 rfl) ?_
          refine lv_iconst (v := (nI (3))) hx hb d_M_pare_174 (by decide) ?_
          refine jv_iadd hx hb d_M_pare_175 ?_
          refine lv_iload hx hb d_M_pare_176 (lv_at hl 1 rfl) ?_
          refine jv_iadd hx hb d_M_pare_178 ?_
          refine ja_ald (k := (o + 3) + 1) hx hb ha.1 hP 1 0 rfl rfl (by omega) (by omega) d_M_pare_179 ?_
          refine lv_istore (lv' := [(9, .int (fd ((o + 3) + 1))), (8, .int (fd (o + 1))), (7, .int (nI (1))), (6, .int (nI (1))), (5, .int (nI (0))), (4, .int (nI (1))), (0, .ref h), (1, .int (nI (o))), (2, .int (nI (c0))), (3, .int (nI (c2)))]) hx hb d_M_pare_180 hl (by decide) rfl (fun ls hl => ?_)
          refine lv_aload_n hx hb d_M_pare_182 rfl (lv_at hl 6 rfl) ?_
          refine va_get (D := g.1) (ci := 3) (v := .ref amd) (C := R_M) (T := F_M) (N := 19) hx hb htB in_M hown ha.1 hP 0 rfl rfl 7 (by decide) (htB _ kw_449) (fun _ h9 => h9) hf7 d_M_pare_183 ?_
          refine lv_bipush (v := (nI (6))) hx hb d_M_pare_186 (by decide) ?_
          refine lv_iload_n hx hb d_M_pare_188 rfl (lv_at hl 9 rfl) ?_
          refine jv_imul hx hb d_M_pare_189 ?_
          refine lv_iload hx hb d_M_pare_190 (lv_at hl 2 rfl) ?_
          refine jv_iadd hx hb d_M_pare_192 ?_
          refine lv_iload hx hb d_M_pare_193 (lv_at hl 2 rfl) ?_
          refine lv_iload hx hb d_M_pare_195 (lv_at hl 5 rfl) ?_
          refine jv_icmp_ne (tgt := 218) hx hb (by omega) (by omega) d_M_pare_197 (by decide) (fun h => absurd h (by decide)) (fun _ => ?_)
          refine lv_iload hx hb d_M_pare_200 (lv_at hl 4 rfl) ?_
          refine lv_iconst (v := (nI (1))) hx hb d_M_pare_202 (by decide) ?_
          refine jv_icmp_ne (tgt := 218) hx hb (by omega) (by omega) d_M_pare_203 (by decide) (fun _ => ?_) (fun h => absurd h (by decide))
          refine lv_iload hx hb d_M_pare_218 (lv_at hl 1 rfl) ?_
          refine ja_ast (k := (6 * c2) + 1) hx hb ha.1 hP hD hS 2 0 rfl rfl (by omega) (by omega) d_M_pare_220 (fun H locs hP hD hS => ?_)
          have hP : va_P g.1 cls [(h, .inr (3, fs)), (ad, eI g 288 (fd)), (amd, eI g 1008 (upd (upd (upd (md2) ((6 * c2) + 0) (mxI (fd (o + 0)) (bx (0)))) (((6 * c2) + 3) + 0) (mnI (fd ((o + 3) + 0)) (bx (3)))) ((6 * c2) + 1) (fd (o + 1)))), (ab, eI g 6 (bx))] H := hP
          have hD : va_D A [(h, .inr (3, fs)), (ad, eI g 288 (fd)), (amd, eI g 1008 (upd (upd (upd (md2) ((6 * c2) + 0) (mxI (fd (o + 0)) (bx (0)))) (((6 * c2) + 3) + 0) (mnI (fd ((o + 3) + 0)) (bx (3)))) ((6 * c2) + 1) (fd (o + 1)))), (ab, eI g 6 (bx))] := hD
          refine lv_aload_n hx hb d_M_pare_221 rfl (lv_at hl 6 rfl) ?_
          refine va_get (D := g.1) (ci := 3) (v := .ref amd) (C := R_M) (T := F_M) (N := 19) hx hb htB in_M hown ha.1 hP 0 rfl rfl 7 (by decide) (htB _ kw_449) (fun _ h9 => h9) hf7 d_M_pare_222 ?_
          refine lv_bipush (v := (nI (6))) hx hb d_M_pare_225 (by decide) ?_
          refine lv_iload_n hx hb d_M_pare_227 rfl (lv_at hl 9 rfl) ?_
          refine jv_imul hx hb d_M_pare_228 ?_
          refine lv_iconst (v := (nI (3))) hx hb d_M_pare_229 (by decide) ?_
          refine jv_iadd hx hb d_M_pare_230 ?_
          refine lv_iload hx hb d_M_pare_231 (lv_at hl 2 rfl) ?_
          refine jv_iadd hx hb d_M_pare_233 ?_
          refine lv_iload hx hb d_M_pare_234 (lv_at hl 2 rfl) ?_
          refine lv_iload hx hb d_M_pare_236 (lv_at hl 5 rfl) ?_
          refine jv_icmp_ne (tgt := 256) hx hb (by omega) (by omega) d_M_pare_238 (by decide) (fun h => absurd h (by decide)) (fun _ => ?_)
          refine lv_iload hx hb d_M_pare_241 (lv_at hl 4 rfl) ?_
          refine lv_if_ne (tgt := 256) hx hb d_M_pare_243 (by decide) (fun h => absurd h (by decide)) (fun _ => ?_)
          refine lv_aload_n hx hb d_M_pare_246 rfl (lv_at hl 6 rfl) ?_
          refine va_get (D := g.1) (ci := 3) (v := .ref ab) (C := R_M) (T := F_M) (N := 19) hx hb htB in_M hown ha.1 hP 0 rfl rfl 8 (by decide) (htB _ kw_450) (fun _ h9 => h9) hf8 d_M_pare_247 ?_
          refine lv_iload hx hb d_M_pare_250 (lv_at hl 5 rfl) ?_
          refine ja_ald (k := 1) hx hb ha.1 hP 3 0 rfl rfl (by omega) (by omega) d_M_pare_252 ?_
          refine lv_goto (tgt := 258) hx hb d_M_pare_253 (by decide) ?_
          refine ja_ast (k := ((6 * c2) + 3) + 1) hx hb ha.1 hP hD hS 2 0 rfl rfl (by omega) (by omega) d_M_pare_258 (fun H locs hP hD hS => ?_)
          have hP : va_P g.1 cls [(h, .inr (3, fs)), (ad, eI g 288 (fd)), (amd, eI g 1008 (upd (upd (upd (upd (md2) ((6 * c2) + 0) (mxI (fd (o + 0)) (bx (0)))) (((6 * c2) + 3) + 0) (mnI (fd ((o + 3) + 0)) (bx (3)))) ((6 * c2) + 1) (fd (o + 1))) (((6 * c2) + 3) + 1) (bx (1)))), (ab, eI g 6 (bx))] H := hP
          have hD : va_D A [(h, .inr (3, fs)), (ad, eI g 288 (fd)), (amd, eI g 1008 (upd (upd (upd (upd (md2) ((6 * c2) + 0) (mxI (fd (o + 0)) (bx (0)))) (((6 * c2) + 3) + 0) (mnI (fd ((o + 3) + 0)) (bx (3)))) ((6 * c2) + 1) (fd (o + 1))) (((6 * c2) + 3) + 1) (bx (1)))), (ab, eI g 6 (bx))] := hD
          refine lv_iinc (v := nI (2)) (lv' := [(7, .int (nI (2))), (9, .int (fd ((o + 3) + 1))), (8, .int (fd (o + 1))), (6, .int (nI (1))), (5, .int (nI (0))), (4, .int (nI (1))), (0, .ref h), (1, .int (nI (o))), (2, .int (nI (c0))), (3, .int (nI (c2)))]) hx hb d_M_pare_259 hl (k := 2) rfl (nI_add _ 1) (by decide) rfl (fun ls hl => ?_)
          refine lv_goto (tgt := 90) hx hb d_M_pare_262 (by decide) ?_
          refine lv_iload hx hb d_M_pare_90 (lv_at hl 0 rfl) ?_
          refine lv_iconst (v := (nI (3))) hx hb d_M_pare_92 (by decide) ?_
          refine jv_icmp_ge (tgt := 265) hx hb (by omega) (by omega) d_M_pare_93 (by decide) (fun h => absurd h (by decide)) (fun _ => ?_)
          refine lv_iload hx hb d_M_pare_96 (lv_at hl 0 rfl) ?_
          refine lv_iload hx hb d_M_pare_98 (lv_at hl 5 rfl) ?_
          refine jv_icmp_ge (tgt := 125) hx hb (by omega) (by omega) d_M_pare_100 (by decide) (fun _ => ?_) (fun h => absurd h (by decide))
          refine lv_aload_n hx hb d_M_pare_125 rfl (lv_at hl 6 rfl) ?_
          refine va_get (D := g.1) (ci := 3) (v := .ref ad) (C := R_M) (T := F_M) (N := 19) hx hb htB in_M hown ha.1 hP 0 rfl rfl 5 (by decide) (htB _ kw_447) (fun _ h9 => h9) hf5 d_M_pare_126 ?_
          refine lv_iload_n hx hb d_M_pare_129 rfl (lv_at hl 7 rfl) ?_
          refine lv_iload hx hb d_M_pare_130 (lv_at hl 0 rfl) ?_
          refine jv_iadd hx hb d_M_pare_132 ?_
          refine ja_ald (k := o + 2) hx hb ha.1 hP 1 0 rfl rfl (by omega) (by omega) d_M_pare_133 ?_
          refine lv_istore (lv' := [(8, .int (fd (o + 2))), (7, .int (nI (2))), (9, .int (fd ((o + 3) + 1))), (6, .int (nI (1))), (5, .int (nI (0))), (4, .int (nI (1))), (0, .ref h), (1, .int (nI (o))), (2, .int (nI (c0))), (3, .int (nI (c2)))]) hx hb d_M_pare_134 hl (by decide) rfl (fun ls hl => ?_)
          refine lv_iload hx hb d_M_pare_136 (lv_at hl 1 rfl) ?_
          refine lv_iload hx hb d_M_pare_138 (lv_at hl 5 rfl) ?_
          refine jv_icmp_ge (tgt := 169) hx hb (by omega) (by omega) d_M_pare_140 (by decide) (fun _ => ?_) (fun h => absurd h (by decide))
          refine lv_aload_n hx hb d_M_pare_169 rfl (lv_at hl 6 rfl) ?_
          refine va_get (D := g.1) (ci := 3) (v := .ref ad) (C := R_M) (T := F_M) (N := 19) hx hb htB in_M hown ha.1 hP 0 rfl rfl 5 (by decide) (htB _ kw_447) (fun _ h9 => h9) hf5 d_M_pare_170 ?_
          refine lv_iload_n hx hb d_M_pare_173 rfl (lv_at hl 7 rfl) ?_
          refine lv_iconst (v := (nI (3))) hx hb d_M_pare_174 (by decide) ?_
          refine jv_iadd hx hb d_M_pare_175 ?_
          refine lv_iload hx hb d_M_pare_176 (lv_at hl 1 rfl) ?_
          refine jv_iadd hx hb d_M_pare_178 ?_
          refine ja_ald (k := (o + 3) + 2) hx hb ha.1 hP 1 0 rfl rfl (by omega) (by omega) d_M_pare_179 ?_
          refine lv_istore (lv' := [(9, .int (fd ((o + 3) + 2))), (8, .int (fd (o + 2))), (7, .int (nI (2))), (6, .int (nI (1))), (5, .int (nI (0))), (4, .int (nI (1))), (0, .ref h), (1, .int (nI (o))), (2, .int (nI (c0))), (3, .int (nI (c2)))]) hx hb d_M_pare_180 hl (by decide) rfl (fun ls hl => ?_)
          refine lv_aload_n hx hb d_M_pare_182 rfl (lv_at hl 6 rfl) ?_
          refine va_get (D := g.1) (ci := 3) (v := .ref amd) (C := R_M) (T := F_M) (N := 19) hx hb htB in_M hown ha.1 hP 0 rfl rfl 7 (by decide) (htB _ kw_449) (fun _ h9 => h9) hf7 d_M_pare_183 ?_
          refine lv_bipush (v := (nI (6))) hx hb d_M_pare_186 (by decide) ?_
          refine lv_iload_n hx hb d_M_pare_188 rfl (lv_at hl 9 rfl) ?_
          refine jv_imul hx hb d_M_pare_189 ?_
          refine lv_iload hx hb d_M_pare_190 (lv_at hl 2 rfl) ?_
          refine jv_iadd hx hb d_M_pare_192 ?_
          refine lv_iload hx hb d_M_pare_193 (lv_at hl 2 rfl) ?_
          refine lv_iload hx hb d_M_pare_195 (lv_at hl 5 rfl) ?_
          refine jv_icmp_ne (tgt := 218) hx hb (by omega) (by omega) d_M_pare_197 (by decide) (fun _ => ?_) (fun h => absurd h (by decide))
          refine lv_iload hx hb d_M_pare_218 (lv_at hl 1 rfl) ?_
          refine ja_ast (k := (6 * c2) + 2) hx hb ha.1 hP hD hS 2 0 rfl rfl (by omega) (by omega) d_M_pare_220 (fun H locs hP hD hS => ?_)
          have hP : va_P g.1 cls [(h, .inr (3, fs)), (ad, eI g 288 (fd)), (amd, eI g 1008 (upd (upd (upd (upd (upd (md2) ((6 * c2) + 0) (mxI (fd (o + 0)) (bx (0)))) (((6 * c2) + 3) + 0) (mnI (fd ((o + 3) + 0)) (bx (3)))) ((6 * c2) + 1) (fd (o + 1))) (((6 * c2) + 3) + 1) (bx (1))) ((6 * c2) + 2) (fd (o + 2)))), (ab, eI g 6 (bx))] H := hP
          have hD : va_D A [(h, .inr (3, fs)), (ad, eI g 288 (fd)), (amd, eI g 1008 (upd (upd (upd (upd (upd (md2) ((6 * c2) + 0) (mxI (fd (o + 0)) (bx (0)))) (((6 * c2) + 3) + 0) (mnI (fd ((o + 3) + 0)) (bx (3)))) ((6 * c2) + 1) (fd (o + 1))) (((6 * c2) + 3) + 1) (bx (1))) ((6 * c2) + 2) (fd (o + 2)))), (ab, eI g 6 (bx))] := hD
          refine lv_aload_n hx hb d_M_pare_221 rfl (lv_at hl 6 rfl) ?_
          refine va_get (D := g.1) (ci := 3) (v := .ref amd) (C := R_M) (T := F_M) (N := 19) hx hb htB in_M hown ha.1 hP 0 rfl rfl 7 (by decide) (htB _ kw_449) (fun _ h9 => h9) hf7 d_M_pare_222 ?_
          refine lv_bipush (v := (nI (6))) hx hb d_M_pare_225 (by decide) ?_
          refine lv_iload_n hx hb d_M_pare_227 rfl (lv_at hl 9 rfl) ?_
          refine jv_imul hx hb d_M_pare_228 ?_
          refine lv_iconst (v := (nI (3))) hx hb d_M_pare_229 (by decide) ?_
          refine jv_iadd hx hb d_M_pare_230 ?_
          refine lv_iload hx hb d_M_pare_231 (lv_at hl 2 rfl) ?_
          refine jv_iadd hx hb d_M_pare_233 ?_
          refine lv_iload hx hb d_M_pare_234 (lv_at hl 2 rfl) ?_
          refine lv_iload hx hb d_M_pare_236 (lv_at hl 5 rfl) ?_
          refine jv_icmp_ne (tgt := 256) hx hb (by omega) (by omega) d_M_pare_238 (by decide) (fun _ => ?_) (fun h => absurd h (by decide))
          refine lv_iload hx hb d_M_pare_256 (lv_at hl 0 rfl) ?_
          refine ja_ast (k := ((6 * c2) + 3) + 2) hx hb ha.1 hP hD hS 2 0 rfl rfl (by omega) (by omega) d_M_pare_258 (fun H locs hP hD hS => ?_)
          have hP : va_P g.1 cls [(h, .inr (3, fs)), (ad, eI g 288 (fd)), (amd, eI g 1008 (upd (upd (upd (upd (upd (upd (md2) ((6 * c2) + 0) (mxI (fd (o + 0)) (bx (0)))) (((6 * c2) + 3) + 0) (mnI (fd ((o + 3) + 0)) (bx (3)))) ((6 * c2) + 1) (fd (o + 1))) (((6 * c2) + 3) + 1) (bx (1))) ((6 * c2) + 2) (fd (o + 2))) (((6 * c2) + 3) + 2) (fd ((o + 3) + 2)))), (ab, eI g 6 (bx))] H := hP
          have hD : va_D A [(h, .inr (3, fs)), (ad, eI g 288 (fd)), (amd, eI g 1008 (upd (upd (upd (upd (upd (upd (md2) ((6 * c2) + 0) (mxI (fd (o + 0)) (bx (0)))) (((6 * c2) + 3) + 0) (mnI (fd ((o + 3) + 0)) (bx (3)))) ((6 * c2) + 1) (fd (o + 1))) (((6 * c2) + 3) + 1) (bx (1))) ((6 * c2) + 2) (fd (o + 2))) (((6 * c2) + 3) + 2) (fd ((o + 3) + 2)))), (ab, eI g 6 (bx))] := hD
          refine lv_iinc (v := nI (3)) (lv' := [(7, .int (nI (3))), (9, .int (fd ((o + 3) + 2))), (8, .int (fd (o + 2))), (6, .int (nI (1))), (5, .int (nI (0))), (4, .int (nI (1))), (0, .ref h), (1, .int (nI (o))), (2, .int (nI (c0))), (3, .int (nI (c2)))]) hx hb d_M_pare_259 hl (k := 2) rfl (nI_add _ 1) (by decide) rfl (fun ls hl => ?_)
          refine lv_goto (tgt := 90) hx hb d_M_pare_262 (by decide) ?_
          refine lv_iload hx hb d_M_pare_90 (lv_at hl 0 rfl) ?_
          refine lv_iconst (v := (nI (3))) hx hb d_M_pare_92 (by decide) ?_
          refine jv_icmp_ge (tgt := 265) hx hb (by omega) (by omega) d_M_pare_93 (by decide) (fun _ => ?_) (fun h => absurd h (by decide))
          refine lv_iinc (v := nI (c2 + 1)) (lv' := [(3, .int (nI (c2 + 1))), (7, .int (nI (3))), (9, .int (fd ((o + 3) + 2))), (8, .int (fd (o + 2))), (6, .int (nI (1))), (5, .int (nI (0))), (4, .int (nI (1))), (0, .ref h), (1, .int (nI (o))), (2, .int (nI (c0)))]) hx hb d_M_pare_265 hl (k := 9) rfl (nI_add _ 1) (by decide) rfl (fun ls hl => ?_)
          exact K3 ls locs H ⟨c2 + 1, upd (upd (upd (upd (upd (upd (md2) ((6 * c2) + 0) (mxI (fd (o + 0)) (bx (0)))) (((6 * c2) + 3) + 0) (mnI (fd ((o + 3) + 0)) (bx (3)))) ((6 * c2) + 1) (fd (o + 1))) (((6 * c2) + 3) + 1) (bx (1))) ((6 * c2) + 2) (fd (o + 2))) (((6 * c2) + 3) + 2) (fd ((o + 3) + 2)), (if_pos c_27).symm, by omega, lv_sub (l' := [(0, .ref h), (1, .int (nI (o))), (2, .int (nI (c0))), (3, .int (nI (c2 + 1))), (4, .int (nI (1))), (5, .int (nI (0)))]) hl [7, 8, 9, 0, 6, 5] rfl, hP, hD, hS⟩
    · refine lv_iload hx hb d_M_pare_14 (lv_at hl 0 rfl) ?_
      refine lv_iconst (v := (nI (2))) hx hb d_M_pare_16 (by decide) ?_
      refine jv_icmp_ge (tgt := 274) hx hb (by omega) (by omega) d_M_pare_17 (by decide) (fun h => absurd h (by decide)) (fun _ => ?_)
      refine lv_iload hx hb d_M_pare_20 (lv_at hl 0 rfl) ?_
      refine lv_if_ne (tgt := 52) hx hb d_M_pare_22 (by decide) (fun _ => ?_) (fun h => absurd h (by decide))
      refine lv_aload_n hx hb d_M_pare_52 rfl (lv_at hl 1 rfl) ?_
      refine va_get (D := g.1) (ci := 3) (v := .ref ad) (C := R_M) (T := F_M) (N := 19) hx hb htB in_M hown ha.1 hP 0 rfl rfl 5 (by decide) (htB _ kw_447) (fun _ h9 => h9) hf5 d_M_pare_53 ?_
      refine lv_iload_n hx hb d_M_pare_56 rfl (lv_at hl 2 rfl) ?_
      refine lv_iconst (v := (nI (3))) hx hb d_M_pare_57 (by decide) ?_
      refine jv_iadd hx hb d_M_pare_58 ?_
      refine lv_iload hx hb d_M_pare_59 (lv_at hl 5 rfl) ?_
      refine jv_iadd hx hb d_M_pare_61 ?_
      refine ja_ald (k := (o + 3) + 0) hx hb ha.1 hP 1 0 rfl rfl (by omega) (by omega) d_M_pare_62 ?_
      refine lv_aload_n hx hb d_M_pare_63 rfl (lv_at hl 1 rfl) ?_
      refine va_get (D := g.1) (ci := 3) (v := .ref ab) (C := R_M) (T := F_M) (N := 19) hx hb htB in_M hown ha.1 hP 0 rfl rfl 8 (by decide) (htB _ kw_450) (fun _ h9 => h9) hf8 d_M_pare_64 ?_
      refine lv_iconst (v := (nI (3))) hx hb d_M_pare_67 (by decide) ?_
      refine lv_iload hx hb d_M_pare_68 (lv_at hl 5 rfl) ?_
      refine jv_iadd hx hb d_M_pare_70 ?_
      refine ja_ald (k := 3) hx hb ha.1 hP 3 0 rfl rfl (by omega) (by omega) d_M_pare_71 ?_
      refine lv_icmp_le (tgt := 79) hx hb d_M_pare_72 (by decide) (fun c_34 => ?_) (fun c_34 => ?_)
      · refine lv_iconst (v := (nI (0))) hx hb d_M_pare_79 (by decide) ?_
        refine lv_istore (lv' := [(6, .int (nI (0))), (5, .int (nI (1))), (0, .ref h), (1, .int (nI (o))), (2, .int (nI (c0))), (3, .int (nI (c1))), (4, .int (nI (0)))]) hx hb d_M_pare_80 hl (by decide) rfl (fun ls hl => ?_)
        refine lv_iload hx hb d_M_pare_82 (lv_at hl 0 rfl) ?_
        refine lv_if_eq (tgt := 268) hx hb d_M_pare_84 (by decide) (fun _ => ?_) (fun h => absurd h (by decide))
        exact K2 ls locs H ⟨c1, md1, (if_neg (fun q => q c_34)).symm, by omega, lv_sub (l' := [(0, .ref h), (1, .int (nI (o))), (2, .int (nI (c0))), (3, .int (nI (c1))), (4, .int (nI (0))), (5, .int (nI (1)))]) hl [2, 3, 4, 5, 6, 1] rfl, hP, hD, hS⟩
      · refine lv_iconst (v := (nI (1))) hx hb d_M_pare_75 (by decide) ?_
        refine lv_goto (tgt := 80) hx hb d_M_pare_76 (by decide) ?_
        refine lv_istore (lv' := [(6, .int (nI (1))), (5, .int (nI (1))), (0, .ref h), (1, .int (nI (o))), (2, .int (nI (c0))), (3, .int (nI (c1))), (4, .int (nI (0)))]) hx hb d_M_pare_80 hl (by decide) rfl (fun ls hl => ?_)
        refine lv_iload hx hb d_M_pare_82 (lv_at hl 0 rfl) ?_
        refine lv_if_eq (tgt := 268) hx hb d_M_pare_84 (by decide) (fun h => absurd h (by decide)) (fun _ => ?_)
        refine lv_iconst (v := (nI (0))) hx hb d_M_pare_87 (by decide) ?_
        refine lv_istore (lv' := [(7, .int (nI (0))), (6, .int (nI (1))), (5, .int (nI (1))), (0, .ref h), (1, .int (nI (o))), (2, .int (nI (c0))), (3, .int (nI (c1))), (4, .int (nI (0)))]) hx hb d_M_pare_88 hl (by decide) rfl (fun ls hl => ?_)
        refine lv_iload hx hb d_M_pare_90 (lv_at hl 0 rfl) ?_
        refine lv_iconst (v := (nI (3))) hx hb d_M_pare_92 (by decide) ?_
        refine jv_icmp_ge (tgt := 265) hx hb (by omega) (by omega) d_M_pare_93 (by decide) (fun h => absurd h (by decide)) (fun _ => ?_)
        refine lv_iload hx hb d_M_pare_96 (lv_at hl 0 rfl) ?_
        refine lv_iload hx hb d_M_pare_98 (lv_at hl 7 rfl) ?_
        refine jv_icmp_ge (tgt := 125) hx hb (by omega) (by omega) d_M_pare_100 (by decide) (fun _ => ?_) (fun h => absurd h (by decide))
        refine lv_aload_n hx hb d_M_pare_125 rfl (lv_at hl 3 rfl) ?_
        refine va_get (D := g.1) (ci := 3) (v := .ref ad) (C := R_M) (T := F_M) (N := 19) hx hb htB in_M hown ha.1 hP 0 rfl rfl 5 (by decide) (htB _ kw_447) (fun _ h9 => h9) hf5 d_M_pare_126 ?_
        refine lv_iload_n hx hb d_M_pare_129 rfl (lv_at hl 4 rfl) ?_
        refine lv_iload hx hb d_M_pare_130 (lv_at hl 0 rfl) ?_
        refine jv_iadd hx hb d_M_pare_132 ?_
        refine ja_ald (k := o + 0) hx hb ha.1 hP 1 0 rfl rfl (by omega) (by omega) d_M_pare_133 ?_
        refine lv_istore (lv' := [(8, .int (fd (o + 0))), (7, .int (nI (0))), (6, .int (nI (1))), (5, .int (nI (1))), (0, .ref h), (1, .int (nI (o))), (2, .int (nI (c0))), (3, .int (nI (c1))), (4, .int (nI (0)))]) hx hb d_M_pare_134 hl (by decide) rfl (fun ls hl => ?_)
        refine lv_iload hx hb d_M_pare_136 (lv_at hl 1 rfl) ?_
        refine lv_iload hx hb d_M_pare_138 (lv_at hl 8 rfl) ?_
        refine jv_icmp_ge (tgt := 169) hx hb (by omega) (by omega) d_M_pare_140 (by decide) (fun _ => ?_) (fun h => absurd h (by decide))
        refine lv_aload_n hx hb d_M_pare_169 rfl (lv_at hl 4 rfl) ?_
        refine va_get (D := g.1) (ci := 3) (v := .ref ad) (C := R_M) (T := F_M) (N := 19) hx hb htB in_M hown ha.1 hP 0 rfl rfl 5 (by decide) (htB _ kw_447) (fun _ h9 => h9) hf5 d_M_pare_170 ?_
        refine lv_iload_n hx hb d_M_pare_173 rfl (lv_at hl 5 rfl) ?_
        refine lv_iconst (v := (nI (3))) hx hb d_M_pare_174 (by decide) ?_
        refine jv_iadd hx hb d_M_pare_175 ?_
        refine lv_iload hx hb d_M_pare_176 (lv_at hl 1 rfl) ?_
        refine jv_iadd hx hb d_M_pare_178 ?_
        refine ja_ald (k := (o + 3) + 0) hx hb ha.1 hP 1 0 rfl rfl (by omega) (by omega) d_M_pare_179 ?_
        refine lv_istore (lv' := [(9, .int (fd ((o + 3) + 0))), (8, .int (fd (o + 0))), (7, .int (nI (0))), (6, .int (nI (1))), (5, .int (nI (1))), (0, .ref h), (1, .int (nI (o))), (2, .int (nI (c0))), (3, .int (nI (c1))), (4, .int (nI (0)))]) hx hb d_M_pare_180 hl (by decide) rfl (fun ls hl => ?_)
        refine lv_aload_n hx hb d_M_pare_182 rfl (lv_at hl 5 rfl) ?_
        refine va_get (D := g.1) (ci := 3) (v := .ref amd) (C := R_M) (T := F_M) (N := 19) hx hb htB in_M hown ha.1 hP 0 rfl rfl 7 (by decide) (htB _ kw_449) (fun _ h9 => h9) hf7 d_M_pare_183 ?_
        refine lv_bipush (v := (nI (6))) hx hb d_M_pare_186 (by decide) ?_
        refine lv_iload_n hx hb d_M_pare_188 rfl (lv_at hl 8 rfl) ?_
        refine jv_imul hx hb d_M_pare_189 ?_
        refine lv_iload hx hb d_M_pare_190 (lv_at hl 2 rfl) ?_
        refine jv_iadd hx hb d_M_pare_192 ?_
        refine lv_iload hx hb d_M_pare_193 (lv_at hl 2 rfl) ?_
        refine lv_iload hx hb d_M_pare_195 (lv_at hl 9 rfl) ?_
        refine jv_icmp_ne (tgt := 218) hx hb (by omega) (by omega) d_M_pare_197 (by decide) (fun h => absurd h (by decide)) (fun _ => ?_)
        refine lv_iload hx hb d_M_pare_200 (lv_at hl 4 rfl) ?_
        refine lv_iconst (v := (nI (1))) hx hb d_M_pare_202 (by decide) ?_
        refine jv_icmp_ne (tgt := 218) hx hb (by omega) (by omega) d_M_pare_203 (by decide) (fun h => absurd h (by decide)) (fun _ => ?_)
        refine lv_aload_n hx hb d_M_pare_206 rfl (lv_at hl 5 rfl) ?_
        refine va_get (D := g.1) (ci := 3) (v := .ref ab) (C := R_M) (T := F_M) (N := 19) hx hb htB in_M hown ha.1 hP 0 rfl rfl 8 (by decide) (htB _ kw_450) (fun _ h9 => h9) hf8 d_M_pare_207 ?_
        refine lv_iconst (v := (nI (3))) hx hb d_M_pare_210 (by decide) ?_
        refine lv_iload hx hb d_M_pare_211 (lv_at hl 9 rfl) ?_
        refine jv_iadd hx hb d_M_pare_213 ?_
        refine ja_ald (k := 3) hx hb ha.1 hP 3 0 rfl rfl (by omega) (by omega) d_M_pare_214 ?_
        refine lv_goto (tgt := 220) hx hb d_M_pare_215 (by decide) ?_
        refine ja_ast (k := (6 * c1) + 0) hx hb ha.1 hP hD hS 2 0 rfl rfl (by omega) (by omega) d_M_pare_220 (fun H locs hP hD hS => ?_)
        have hP : va_P g.1 cls [(h, .inr (3, fs)), (ad, eI g 288 (fd)), (amd, eI g 1008 (upd (md1) ((6 * c1) + 0) (bx (3)))), (ab, eI g 6 (bx))] H := hP
        have hD : va_D A [(h, .inr (3, fs)), (ad, eI g 288 (fd)), (amd, eI g 1008 (upd (md1) ((6 * c1) + 0) (bx (3)))), (ab, eI g 6 (bx))] := hD
        refine lv_aload_n hx hb d_M_pare_221 rfl (lv_at hl 5 rfl) ?_
        refine va_get (D := g.1) (ci := 3) (v := .ref amd) (C := R_M) (T := F_M) (N := 19) hx hb htB in_M hown ha.1 hP 0 rfl rfl 7 (by decide) (htB _ kw_449) (fun _ h9 => h9) hf7 d_M_pare_222 ?_
        refine lv_bipush (v := (nI (6))) hx hb d_M_pare_225 (by decide) ?_
        refine lv_iload_n hx hb d_M_pare_227 rfl (lv_at hl 8 rfl) ?_
        refine jv_imul hx hb d_M_pare_228 ?_
        refine lv_iconst (v := (nI (3))) hx hb d_M_pare_229 (by decide) ?_
        refine jv_iadd hx hb d_M_pare_230 ?_
        refine lv_iload hx hb d_M_pare_231 (lv_at hl 2 rfl) ?_
        refine jv_iadd hx hb d_M_pare_233 ?_
        refine lv_iload hx hb d_M_pare_234 (lv_at hl 2 rfl) ?_
        refine lv_iload hx hb d_M_pare_236 (lv_at hl 9 rfl) ?_
        refine jv_icmp_ne (tgt := 256) hx hb (by omega) (by omega) d_M_pare_238 (by decide) (fun h => absurd h (by decide)) (fun _ => ?_)
        refine lv_iload hx hb d_M_pare_241 (lv_at hl 4 rfl) ?_
        refine lv_if_ne (tgt := 256) hx hb d_M_pare_243 (by decide) (fun _ => ?_) (fun h => absurd h (by decide))
        refine lv_iload hx hb d_M_pare_256 (lv_at hl 0 rfl) ?_
        refine ja_ast (k := ((6 * c1) + 3) + 0) hx hb ha.1 hP hD hS 2 0 rfl rfl (by omega) (by omega) d_M_pare_258 (fun H locs hP hD hS => ?_)
        have hP : va_P g.1 cls [(h, .inr (3, fs)), (ad, eI g 288 (fd)), (amd, eI g 1008 (upd (upd (md1) ((6 * c1) + 0) (bx (3))) (((6 * c1) + 3) + 0) (fd ((o + 3) + 0)))), (ab, eI g 6 (bx))] H := hP
        have hD : va_D A [(h, .inr (3, fs)), (ad, eI g 288 (fd)), (amd, eI g 1008 (upd (upd (md1) ((6 * c1) + 0) (bx (3))) (((6 * c1) + 3) + 0) (fd ((o + 3) + 0)))), (ab, eI g 6 (bx))] := hD
        refine lv_iinc (v := nI (1)) (lv' := [(7, .int (nI (1))), (9, .int (fd ((o + 3) + 0))), (8, .int (fd (o + 0))), (6, .int (nI (1))), (5, .int (nI (1))), (0, .ref h), (1, .int (nI (o))), (2, .int (nI (c0))), (3, .int (nI (c1))), (4, .int (nI (0)))]) hx hb d_M_pare_259 hl (k := 2) rfl (nI_add _ 1) (by decide) rfl (fun ls hl => ?_)
        refine lv_goto (tgt := 90) hx hb d_M_pare_262 (by decide) ?_
        refine lv_iload hx hb d_M_pare_90 (lv_at hl 0 rfl) ?_
        refine lv_iconst (v := (nI (3))) hx hb d_M_pare_92 (by decide) ?_
        refine jv_icmp_ge (tgt := 265) hx hb (by omega) (by omega) d_M_pare_93 (by decide) (fun h => absurd h (by decide)) (fun _ => ?_)
        refine lv_iload hx hb d_M_pare_96 (lv_at hl 0 rfl) ?_
        refine lv_iload hx hb d_M_pare_98 (lv_at hl 9 rfl) ?_
        refine jv_icmp_ge (tgt := 125) hx hb (by omega) (by omega) d_M_pare_100 (by decide) (fun _ => ?_) (fun h => absurd h (by decide))
        refine lv_aload_n hx hb d_M_pare_125 rfl (lv_at hl 5 rfl) ?_
        refine va_get (D := g.1) (ci := 3) (v := .ref ad) (C := R_M) (T := F_M) (N := 19) hx hb htB in_M hown ha.1 hP 0 rfl rfl 5 (by decide) (htB _ kw_447) (fun _ h9 => h9) hf5 d_M_pare_126 ?_
        refine lv_iload_n hx hb d_M_pare_129 rfl (lv_at hl 6 rfl) ?_
        refine lv_iload hx hb d_M_pare_130 (lv_at hl 0 rfl) ?_
        refine jv_iadd hx hb d_M_pare_132 ?_
        refine ja_ald (k := o + 1) hx hb ha.1 hP 1 0 rfl rfl (by omega) (by omega) d_M_pare_133 ?_
        refine lv_istore (lv' := [(8, .int (fd (o + 1))), (7, .int (nI (1))), (9, .int (fd ((o + 3) + 0))), (6, .int (nI (1))), (5, .int (nI (1))), (0, .ref h), (1, .int (nI (o))), (2, .int (nI (c0))), (3, .int (nI (c1))), (4, .int (nI (0)))]) hx hb d_M_pare_134 hl (by decide) rfl (fun ls hl => ?_)
        refine lv_iload hx hb d_M_pare_136 (lv_at hl 1 rfl) ?_
        refine lv_iload hx hb d_M_pare_138 (lv_at hl 9 rfl) ?_
        refine jv_icmp_ge (tgt := 169) hx hb (by omega) (by omega) d_M_pare_140 (by decide) (fun _ => ?_) (fun h => absurd h (by decide))
        refine lv_aload_n hx hb d_M_pare_169 rfl (lv_at hl 5 rfl) ?_
        refine va_get (D := g.1) (ci := 3) (v := .ref ad) (C := R_M) (T := F_M) (N := 19) hx hb htB in_M hown ha.1 hP 0 rfl rfl 5 (by decide) (htB _ kw_447) (fun _ h9 => h9) hf5 d_M_pare_170 ?_
        refine lv_iload_n hx hb d_M_pare_173 rfl (lv_at hl 6 rfl) ?_
        refine lv_iconst (v := (nI (3))) hx hb d_M_pare_174 (by decide) ?_
        refine jv_iadd hx hb d_M_pare_175 ?_
        refine lv_iload hx hb d_M_pare_176 (lv_at hl 1 rfl) ?_
        refine jv_iadd hx hb d_M_pare_178 ?_
        refine ja_ald (k := (o + 3) + 1) hx hb ha.1 hP 1 0 rfl rfl (by omega) (by omega) d_M_pare_179 ?_
        refine lv_istore (lv' := [(9, .int (fd ((o + 3) + 1))), (8, .int (fd (o + 1))), (7, .int (nI (1))), (6, .int (nI (1))), (5, .int (nI (1))), (0, .ref h), (1, .int (nI (o))), (2, .int (nI (c0))), (3, .int (nI (c1))), (4, .int (nI (0)))]) hx hb d_M_pare_180 hl (by decide) rfl (fun ls hl => ?_)
        refine lv_aload_n hx hb d_M_pare_182 rfl (lv_at hl 5 rfl) ?_
        refine va_get (D := g.1) (ci := 3) (v := .ref amd) (C := R_M) (T := F_M) (N := 19) hx hb htB in_M hown ha.1 hP 0 rfl rfl 7 (by decide) (htB _ kw_449) (fun _ h9 => h9) hf7 d_M_pare_183 ?_
        refine lv_bipush (v := (nI (6))) hx hb d_M_pare_186 (by decide) ?_
        refine lv_iload_n hx hb d_M_pare_188 rfl (lv_at hl 8 rfl) ?_
        refine jv_imul hx hb d_M_pare_189 ?_
        refine lv_iload hx hb d_M_pare_190 (lv_at hl 2 rfl) ?_
        refine jv_iadd hx hb d_M_pare_192 ?_
        refine lv_iload hx hb d_M_pare_193 (lv_at hl 2 rfl) ?_
        refine lv_iload hx hb d_M_pare_195 (lv_at hl 9 rfl) ?_
        refine jv_icmp_ne (tgt := 218) hx hb (by omega) (by omega) d_M_pare_197 (by decide) (fun _ => ?_) (fun h => absurd h (by decide))
        refine lv_iload hx hb d_M_pare_218 (lv_at hl 1 rfl) ?_
        refine ja_ast (k := (6 * c1) + 1) hx hb ha.1 hP hD hS 2 0 rfl rfl (by omega) (by omega) d_M_pare_220 (fun H locs hP hD hS => ?_)
        have hP : va_P g.1 cls [(h, .inr (3, fs)), (ad, eI g 288 (fd)), (amd, eI g 1008 (upd (upd (upd (md1) ((6 * c1) + 0) (bx (3))) (((6 * c1) + 3) + 0) (fd ((o + 3) + 0))) ((6 * c1) + 1) (fd (o + 1)))), (ab, eI g 6 (bx))] H := hP
        have hD : va_D A [(h, .inr (3, fs)), (ad, eI g 288 (fd)), (amd, eI g 1008 (upd (upd (upd (md1) ((6 * c1) + 0) (bx (3))) (((6 * c1) + 3) + 0) (fd ((o + 3) + 0))) ((6 * c1) + 1) (fd (o + 1)))), (ab, eI g 6 (bx))] := hD
        refine lv_aload_n hx hb d_M_pare_221 rfl (lv_at hl 5 rfl) ?_
        refine va_get (D := g.1) (ci := 3) (v := .ref amd) (C := R_M) (T := F_M) (N := 19) hx hb htB in_M hown ha.1 hP 0 rfl rfl 7 (by decide) (htB _ kw_449) (fun _ h9 => h9) hf7 d_M_pare_222 ?_
        refine lv_bipush (v := (nI (6))) hx hb d_M_pare_225 (by decide) ?_
        refine lv_iload_n hx hb d_M_pare_227 rfl (lv_at hl 8 rfl) ?_
        refine jv_imul hx hb d_M_pare_228 ?_
        refine lv_iconst (v := (nI (3))) hx hb d_M_pare_229 (by decide) ?_
        refine jv_iadd hx hb d_M_pare_230 ?_
        refine lv_iload hx hb d_M_pare_231 (lv_at hl 2 rfl) ?_
        refine jv_iadd hx hb d_M_pare_233 ?_
        refine lv_iload hx hb d_M_pare_234 (lv_at hl 2 rfl) ?_
        refine lv_iload hx hb d_M_pare_236 (lv_at hl 9 rfl) ?_
        refine jv_icmp_ne (tgt := 256) hx hb (by omega) (by omega) d_M_pare_238 (by decide) (fun _ => ?_) (fun h => absurd h (by decide))
        refine lv_iload hx hb d_M_pare_256 (lv_at hl 0 rfl) ?_
        refine ja_ast (k := ((6 * c1) + 3) + 1) hx hb ha.1 hP hD hS 2 0 rfl rfl (by omega) (by omega) d_M_pare_258 (fun H locs hP hD hS => ?_)
        have hP : va_P g.1 cls [(h, .inr (3, fs)), (ad, eI g 288 (fd)), (amd, eI g 1008 (upd (upd (upd (upd (md1) ((6 * c1) + 0) (bx (3))) (((6 * c1) + 3) + 0) (fd ((o + 3) + 0))) ((6 * c1) + 1) (fd (o + 1))) (((6 * c1) + 3) + 1) (fd ((o + 3) + 1)))), (ab, eI g 6 (bx))] H := hP
        have hD : va_D A [(h, .inr (3, fs)), (ad, eI g 288 (fd)), (amd, eI g 1008 (upd (upd (upd (upd (md1) ((6 * c1) + 0) (bx (3))) (((6 * c1) + 3) + 0) (fd ((o + 3) + 0))) ((6 * c1) + 1) (fd (o + 1))) (((6 * c1) + 3) + 1) (fd ((o + 3) + 1)))), (ab, eI g 6 (bx))] := hD
        refine lv_iinc (v := nI (2)) (lv' := [(7, .int (nI (2))), (9, .int (fd ((o + 3) + 1))), (8, .int (fd (o + 1))), (6, .int (nI (1))), (5, .int (nI (1))), (0, .ref h), (1, .int (nI (o))), (2, .int (nI (c0))), (3, .int (nI (c1))), (4, .int (nI (0)))]) hx hb d_M_pare_259 hl (k := 2) rfl (nI_add _ 1) (by decide) rfl (fun ls hl => ?_)
        refine lv_goto (tgt := 90) hx hb d_M_pare_262 (by decide) ?_
        refine lv_iload hx hb d_M_pare_90 (lv_at hl 0 rfl) ?_
        refine lv_iconst (v := (nI (3))) hx hb d_M_pare_92 (by decide) ?_
        refine jv_icmp_ge (tgt := 265) hx hb (by omega) (by omega) d_M_pare_93 (by decide) (fun h => absurd h (by decide)) (fun _ => ?_)
        refine lv_iload hx hb d_M_pare_96 (lv_at hl 0 rfl) ?_
        refine lv_iload hx hb d_M_pare_98 (lv_at hl 9 rfl) ?_
        refine jv_icmp_ge (tgt := 125) hx hb (by omega) (by omega) d_M_pare_100 (by decide) (fun _ => ?_) (fun h => absurd h (by decide))
        refine lv_aload_n hx hb d_M_pare_125 rfl (lv_at hl 5 rfl) ?_
        refine va_get (D := g.1) (ci := 3) (v := .ref ad) (C := R_M) (T := F_M) (N := 19) hx hb htB in_M hown ha.1 hP 0 rfl rfl 5 (by decide) (htB _ kw_447) (fun _ h9 => h9) hf5 d_M_pare_126 ?_
        refine lv_iload_n hx hb d_M_pare_129 rfl (lv_at hl 6 rfl) ?_
        refine lv_iload hx hb d_M_pare_130 (lv_at hl 0 rfl) ?_
        refine jv_iadd hx hb d_M_pare_132 ?_
        refine ja_ald (k := o + 2) hx hb ha.1 hP 1 0 rfl rfl (by omega) (by omega) d_M_pare_133 ?_
        refine lv_istore (lv' := [(8, .int (fd (o + 2))), (7, .int (nI (2))), (9, .int (fd ((o + 3) + 1))), (6, .int (nI (1))), (5, .int (nI (1))), (0, .ref h), (1, .int (nI (o))), (2, .int (nI (c0))), (3, .int (nI (c1))), (4, .int (nI (0)))]) hx hb d_M_pare_134 hl (by decide) rfl (fun ls hl => ?_)
        refine lv_iload hx hb d_M_pare_136 (lv_at hl 1 rfl) ?_
        refine lv_iload hx hb d_M_pare_138 (lv_at hl 9 rfl) ?_
        refine jv_icmp_ge (tgt := 169) hx hb (by omega) (by omega) d_M_pare_140 (by decide) (fun _ => ?_) (fun h => absurd h (by decide))
        refine lv_aload_n hx hb d_M_pare_169 rfl (lv_at hl 5 rfl) ?_
        refine va_get (D := g.1) (ci := 3) (v := .ref ad) (C := R_M) (T := F_M) (N := 19) hx hb htB in_M hown ha.1 hP 0 rfl rfl 5 (by decide) (htB _ kw_447) (fun _ h9 => h9) hf5 d_M_pare_170 ?_
        refine lv_iload_n hx hb d_M_pare_173 rfl (lv_at hl 6 rfl) ?_
        refine lv_iconst (v := (nI (3))) hx hb d_M_pare_174 (by decide) ?_
        refine jv_iadd hx hb d_M_pare_175 ?_
        refine lv_iload hx hb d_M_pare_176 (lv_at hl 1 rfl) ?_
        refine jv_iadd hx hb d_M_pare_178 ?_
        refine ja_ald (k := (o + 3) + 2) hx hb ha.1 hP 1 0 rfl rfl (by omega) (by omega) d_M_pare_179 ?_
        refine lv_istore (lv' := [(9, .int (fd ((o + 3) + 2))), (8, .int (fd (o + 2))), (7, .int (nI (2))), (6, .int (nI (1))), (5, .int (nI (1))), (0, .ref h), (1, .int (nI (o))), (2, .int (nI (c0))), (3, .int (nI (c1))), (4, .int (nI (0)))]) hx hb d_M_pare_180 hl (by decide) rfl (fun ls hl => ?_)
        refine lv_aload_n hx hb d_M_pare_182 rfl (lv_at hl 5 rfl) ?_
        refine va_get (D := g.1) (ci := 3) (v := .ref amd) (C := R_M) (T := F_M) (N := 19) hx hb htB in_M hown ha.1 hP 0 rfl rfl 7 (by decide) (htB _ kw_449) (fun _ h9 => h9) hf7 d_M_pare_183 ?_
        refine lv_bipush (v := (nI (6))) hx hb d_M_pare_186 (by decide) ?_
        refine lv_iload_n hx hb d_M_pare_188 rfl (lv_at hl 8 rfl) ?_
        refine jv_imul hx hb d_M_pare_189 ?_
        refine lv_iload hx hb d_M_pare_190 (lv_at hl 2 rfl) ?_
        refine jv_iadd hx hb d_M_pare_192 ?_
        refine lv_iload hx hb d_M_pare_193 (lv_at hl 2 rfl) ?_
        refine lv_iload hx hb d_M_pare_195 (lv_at hl 9 rfl) ?_
        refine jv_icmp_ne (tgt := 218) hx hb (by omega) (by omega) d_M_pare_197 (by decide) (fun _ => ?_) (fun h => absurd h (by decide))
        refine lv_iload hx hb d_M_pare_218 (lv_at hl 1 rfl) ?_
        refine ja_ast (k := (6 * c1) + 2) hx hb ha.1 hP hD hS 2 0 rfl rfl (by omega) (by omega) d_M_pare_220 (fun H locs hP hD hS => ?_)
        have hP : va_P g.1 cls [(h, .inr (3, fs)), (ad, eI g 288 (fd)), (amd, eI g 1008 (upd (upd (upd (upd (upd (md1) ((6 * c1) + 0) (bx (3))) (((6 * c1) + 3) + 0) (fd ((o + 3) + 0))) ((6 * c1) + 1) (fd (o + 1))) (((6 * c1) + 3) + 1) (fd ((o + 3) + 1))) ((6 * c1) + 2) (fd (o + 2)))), (ab, eI g 6 (bx))] H := hP
        have hD : va_D A [(h, .inr (3, fs)), (ad, eI g 288 (fd)), (amd, eI g 1008 (upd (upd (upd (upd (upd (md1) ((6 * c1) + 0) (bx (3))) (((6 * c1) + 3) + 0) (fd ((o + 3) + 0))) ((6 * c1) + 1) (fd (o + 1))) (((6 * c1) + 3) + 1) (fd ((o + 3) + 1))) ((6 * c1) + 2) (fd (o + 2)))), (ab, eI g 6 (bx))] := hD
        refine lv_aload_n hx hb d_M_pare_221 rfl (lv_at hl 5 rfl) ?_
        refine va_get (D := g.1) (ci := 3) (v := .ref amd) (C := R_M) (T := F_M) (N := 19) hx hb htB in_M hown ha.1 hP 0 rfl rfl 7 (by decide) (htB _ kw_449) (fun _ h9 => h9) hf7 d_M_pare_222 ?_
        refine lv_bipush (v := (nI (6))) hx hb d_M_pare_225 (by decide) ?_
        refine lv_iload_n hx hb d_M_pare_227 rfl (lv_at hl 8 rfl) ?_
        refine jv_imul hx hb d_M_pare_228 ?_
        refine lv_iconst (v := (nI (3))) hx hb d_M_pare_229 (by decide) ?_
        refine jv_iadd hx hb d_M_pare_230 ?_
        refine lv_iload hx hb d_M_pare_231 (lv_at hl 2 rfl) ?_
        refine jv_iadd hx hb d_M_pare_233 ?_
        refine lv_iload hx hb d_M_pare_234 (lv_at hl 2 rfl) ?_
        refine lv_iload hx hb d_M_pare_236 (lv_at hl 9 rfl) ?_
        refine jv_icmp_ne (tgt := 256) hx hb (by omega) (by omega) d_M_pare_238 (by decide) (fun _ => ?_) (fun h => absurd h (by decide))
        refine lv_iload hx hb d_M_pare_256 (lv_at hl 0 rfl) ?_
        refine ja_ast (k := ((6 * c1) + 3) + 2) hx hb ha.1 hP hD hS 2 0 rfl rfl (by omega) (by omega) d_M_pare_258 (fun H locs hP hD hS => ?_)
        have hP : va_P g.1 cls [(h, .inr (3, fs)), (ad, eI g 288 (fd)), (amd, eI g 1008 (upd (upd (upd (upd (upd (upd (md1) ((6 * c1) + 0) (bx (3))) (((6 * c1) + 3) + 0) (fd ((o + 3) + 0))) ((6 * c1) + 1) (fd (o + 1))) (((6 * c1) + 3) + 1) (fd ((o + 3) + 1))) ((6 * c1) + 2) (fd (o + 2))) (((6 * c1) + 3) + 2) (fd ((o + 3) + 2)))), (ab, eI g 6 (bx))] H := hP
        have hD : va_D A [(h, .inr (3, fs)), (ad, eI g 288 (fd)), (amd, eI g 1008 (upd (upd (upd (upd (upd (upd (md1) ((6 * c1) + 0) (bx (3))) (((6 * c1) + 3) + 0) (fd ((o + 3) + 0))) ((6 * c1) + 1) (fd (o + 1))) (((6 * c1) + 3) + 1) (fd ((o + 3) + 1))) ((6 * c1) + 2) (fd (o + 2))) (((6 * c1) + 3) + 2) (fd ((o + 3) + 2)))), (ab, eI g 6 (bx))] := hD
        refine lv_iinc (v := nI (3)) (lv' := [(7, .int (nI (3))), (9, .int (fd ((o + 3) + 2))), (8, .int (fd (o + 2))), (6, .int (nI (1))), (5, .int (nI (1))), (0, .ref h), (1, .int (nI (o))), (2, .int (nI (c0))), (3, .int (nI (c1))), (4, .int (nI (0)))]) hx hb d_M_pare_259 hl (k := 2) rfl (nI_add _ 1) (by decide) rfl (fun ls hl => ?_)
        refine lv_goto (tgt := 90) hx hb d_M_pare_262 (by decide) ?_
        refine lv_iload hx hb d_M_pare_90 (lv_at hl 0 rfl) ?_
        refine lv_iconst (v := (nI (3))) hx hb d_M_pare_92 (by decide) ?_
        refine jv_icmp_ge (tgt := 265) hx hb (by omega) (by omega) d_M_pare_93 (by decide) (fun _ => ?_) (fun h => absurd h (by decide))
        refine lv_iinc (v := nI (c1 + 1)) (lv' := [(3, .int (nI (c1 + 1))), (7, .int (nI (3))), (9, .int (fd ((o + 3) + 2))), (8, .int (fd (o + 2))), (6, .int (nI (1))), (5, .int (nI (1))), (0, .ref h), (1, .int (nI (o))), (2, .int (nI (c0))), (4, .int (nI (0)))]) hx hb d_M_pare_265 hl (k := 8) rfl (nI_add _ 1) (by decide) rfl (fun ls hl => ?_)
        exact K2 ls locs H ⟨c1 + 1, upd (upd (upd (upd (upd (upd (md1) ((6 * c1) + 0) (bx (3))) (((6 * c1) + 3) + 0) (fd ((o + 3) + 0))) ((6 * c1) + 1) (fd (o + 1))) (((6 * c1) + 3) + 1) (fd ((o + 3) + 1))) ((6 * c1) + 2) (fd (o + 2))) (((6 * c1) + 3) + 2) (fd ((o + 3) + 2)), (if_pos c_34).symm, by omega, lv_sub (l' := [(0, .ref h), (1, .int (nI (o))), (2, .int (nI (c0))), (3, .int (nI (c1 + 1))), (4, .int (nI (0))), (5, .int (nI (1)))]) hl [6, 7, 8, 0, 9, 5] rfl, hP, hD, hS⟩
  · refine lv_iload hx hb d_M_pare_14 (lv_at hl 0 rfl) ?_
    refine lv_iconst (v := (nI (2))) hx hb d_M_pare_16 (by decide) ?_
    refine jv_icmp_ge (tgt := 274) hx hb (by omega) (by omega) d_M_pare_17 (by decide) (fun h => absurd h (by decide)) (fun _ => ?_)
    refine lv_iload hx hb d_M_pare_20 (lv_at hl 0 rfl) ?_
    refine lv_if_ne (tgt := 52) hx hb d_M_pare_22 (by decide) (fun h => absurd h (by decide)) (fun _ => ?_)
    refine lv_aload_n hx hb d_M_pare_25 rfl (lv_at hl 3 rfl) ?_
    refine va_get (D := g.1) (ci := 3) (v := .ref ad) (C := R_M) (T := F_M) (N := 19) hx hb htB in_M hown ha.1 hP 0 rfl rfl 5 (by decide) (htB _ kw_447) (fun _ h9 => h9) hf5 d_M_pare_26 ?_
    refine lv_iload_n hx hb d_M_pare_29 rfl (lv_at hl 4 rfl) ?_
    refine lv_iload hx hb d_M_pare_30 (lv_at hl 1 rfl) ?_
    refine jv_iadd hx hb d_M_pare_32 ?_
    refine ja_ald (k := o + 0) hx hb ha.1 hP 1 0 rfl rfl (by omega) (by omega) d_M_pare_33 ?_
    refine lv_aload_n hx hb d_M_pare_34 rfl (lv_at hl 3 rfl) ?_
    refine va_get (D := g.1) (ci := 3) (v := .ref ab) (C := R_M) (T := F_M) (N := 19) hx hb htB in_M hown ha.1 hP 0 rfl rfl 8 (by decide) (htB _ kw_450) (fun _ h9 => h9) hf8 d_M_pare_35 ?_
    refine lv_iload hx hb d_M_pare_38 (lv_at hl 1 rfl) ?_
    refine ja_ald (k := 0) hx hb ha.1 hP 3 0 rfl rfl (by omega) (by omega) d_M_pare_40 ?_
    refine lv_icmp_ge (tgt := 48) hx hb d_M_pare_41 (by decide) (fun c_39 => ?_) (fun c_39 => ?_)
    · refine lv_iconst (v := (nI (0))) hx hb d_M_pare_48 (by decide) ?_
      refine lv_goto (tgt := 80) hx hb d_M_pare_49 (by decide) ?_
      refine lv_istore (lv' := [(6, .int (nI (0))), (5, .int (nI (0))), (4, .int (nI (0))), (3, .int (nI (c0))), (0, .ref h), (1, .int (nI (o))), (2, .int (nI (c0)))]) hx hb d_M_pare_80 hl (by decide) rfl (fun ls hl => ?_)
      refine lv_iload hx hb d_M_pare_82 (lv_at hl 0 rfl) ?_
      refine lv_if_eq (tgt := 268) hx hb d_M_pare_84 (by decide) (fun _ => ?_) (fun h => absurd h (by decide))
      exact K1 ls locs H ⟨c0, md, (if_neg (fun q => q c_39)).symm, by omega, lv_sub (l' := [(0, .ref h), (1, .int (nI (o))), (2, .int (nI (c0))), (3, .int (nI (c0))), (4, .int (nI (0))), (5, .int (nI (0)))]) hl [4, 5, 6, 3, 2, 1] rfl, hP, hD, hS⟩
    · refine lv_iconst (v := (nI (1))) hx hb d_M_pare_44 (by decide) ?_
      refine lv_goto (tgt := 80) hx hb d_M_pare_45 (by decide) ?_
      refine lv_istore (lv' := [(6, .int (nI (1))), (5, .int (nI (0))), (4, .int (nI (0))), (3, .int (nI (c0))), (0, .ref h), (1, .int (nI (o))), (2, .int (nI (c0)))]) hx hb d_M_pare_80 hl (by decide) rfl (fun ls hl => ?_)
      refine lv_iload hx hb d_M_pare_82 (lv_at hl 0 rfl) ?_
      refine lv_if_eq (tgt := 268) hx hb d_M_pare_84 (by decide) (fun h => absurd h (by decide)) (fun _ => ?_)
      refine lv_iconst (v := (nI (0))) hx hb d_M_pare_87 (by decide) ?_
      refine lv_istore (lv' := [(7, .int (nI (0))), (6, .int (nI (1))), (5, .int (nI (0))), (4, .int (nI (0))), (3, .int (nI (c0))), (0, .ref h), (1, .int (nI (o))), (2, .int (nI (c0)))]) hx hb d_M_pare_88 hl (by decide) rfl (fun ls hl => ?_)
      refine lv_iload hx hb d_M_pare_90 (lv_at hl 0 rfl) ?_
      refine lv_iconst (v := (nI (3))) hx hb d_M_pare_92 (by decide) ?_
      refine jv_icmp_ge (tgt := 265) hx hb (by omega) (by omega) d_M_pare_93 (by decide) (fun h => absurd h (by decide)) (fun _ => ?_)
      refine lv_iload hx hb d_M_pare_96 (lv_at hl 0 rfl) ?_
      refine lv_iload hx hb d_M_pare_98 (lv_at hl 3 rfl) ?_
      refine jv_icmp_ge (tgt := 125) hx hb (by omega) (by omega) d_M_pare_100 (by decide) (fun _ => ?_) (fun h => absurd h (by decide))
      refine lv_aload_n hx hb d_M_pare_125 rfl (lv_at hl 5 rfl) ?_
      refine va_get (D := g.1) (ci := 3) (v := .ref ad) (C := R_M) (T := F_M) (N := 19) hx hb htB in_M hown ha.1 hP 0 rfl rfl 5 (by decide) (htB _ kw_447) (fun _ h9 => h9) hf5 d_M_pare_126 ?_
      refine lv_iload_n hx hb d_M_pare_129 rfl (lv_at hl 6 rfl) ?_
      refine lv_iload hx hb d_M_pare_130 (lv_at hl 0 rfl) ?_
      refine jv_iadd hx hb d_M_pare_132 ?_
      refine ja_ald (k := o + 0) hx hb ha.1 hP 1 0 rfl rfl (by omega) (by omega) d_M_pare_133 ?_
      refine lv_istore (lv' := [(8, .int (fd (o + 0))), (7, .int (nI (0))), (6, .int (nI (1))), (5, .int (nI (0))), (4, .int (nI (0))), (3, .int (nI (c0))), (0, .ref h), (1, .int (nI (o))), (2, .int (nI (c0)))]) hx hb d_M_pare_134 hl (by decide) rfl (fun ls hl => ?_)
      refine lv_iload hx hb d_M_pare_136 (lv_at hl 1 rfl) ?_
      refine lv_iload hx hb d_M_pare_138 (lv_at hl 4 rfl) ?_
      refine jv_icmp_ge (tgt := 169) hx hb (by omega) (by omega) d_M_pare_140 (by decide) (fun _ => ?_) (fun h => absurd h (by decide))
      refine lv_aload_n hx hb d_M_pare_169 rfl (lv_at hl 6 rfl) ?_
      refine va_get (D := g.1) (ci := 3) (v := .ref ad) (C := R_M) (T := F_M) (N := 19) hx hb htB in_M hown ha.1 hP 0 rfl rfl 5 (by decide) (htB _ kw_447) (fun _ h9 => h9) hf5 d_M_pare_170 ?_
      refine lv_iload_n hx hb d_M_pare_173 rfl (lv_at hl 7 rfl) ?_
      refine lv_iconst (v := (nI (3))) hx hb d_M_pare_174 (by decide) ?_
      refine jv_iadd hx hb d_M_pare_175 ?_
      refine lv_iload hx hb d_M_pare_176 (lv_at hl 1 rfl) ?_
      refine jv_iadd hx hb d_M_pare_178 ?_
      refine ja_ald (k := (o + 3) + 0) hx hb ha.1 hP 1 0 rfl rfl (by omega) (by omega) d_M_pare_179 ?_
      refine lv_istore (lv' := [(9, .int (fd ((o + 3) + 0))), (8, .int (fd (o + 0))), (7, .int (nI (0))), (6, .int (nI (1))), (5, .int (nI (0))), (4, .int (nI (0))), (3, .int (nI (c0))), (0, .ref h), (1, .int (nI (o))), (2, .int (nI (c0)))]) hx hb d_M_pare_180 hl (by decide) rfl (fun ls hl => ?_)
      refine lv_aload_n hx hb d_M_pare_182 rfl (lv_at hl 7 rfl) ?_
      refine va_get (D := g.1) (ci := 3) (v := .ref amd) (C := R_M) (T := F_M) (N := 19) hx hb htB in_M hown ha.1 hP 0 rfl rfl 7 (by decide) (htB _ kw_449) (fun _ h9 => h9) hf7 d_M_pare_183 ?_
      refine lv_bipush (v := (nI (6))) hx hb d_M_pare_186 (by decide) ?_
      refine lv_iload_n hx hb d_M_pare_188 rfl (lv_at hl 6 rfl) ?_
      refine jv_imul hx hb d_M_pare_189 ?_
      refine lv_iload hx hb d_M_pare_190 (lv_at hl 2 rfl) ?_
      refine jv_iadd hx hb d_M_pare_192 ?_
      refine lv_iload hx hb d_M_pare_193 (lv_at hl 2 rfl) ?_
      refine lv_iload hx hb d_M_pare_195 (lv_at hl 5 rfl) ?_
      refine jv_icmp_ne (tgt := 218) hx hb (by omega) (by omega) d_M_pare_197 (by decide) (fun h => absurd h (by decide)) (fun _ => ?_)
      refine lv_iload hx hb d_M_pare_200 (lv_at hl 4 rfl) ?_
      refine lv_iconst (v := (nI (1))) hx hb d_M_pare_202 (by decide) ?_
      refine jv_icmp_ne (tgt := 218) hx hb (by omega) (by omega) d_M_pare_203 (by decide) (fun _ => ?_) (fun h => absurd h (by decide))
      refine lv_iload hx hb d_M_pare_218 (lv_at hl 1 rfl) ?_
      refine ja_ast (k := (6 * c0) + 0) hx hb ha.1 hP hD hS 2 0 rfl rfl (by omega) (by omega) d_M_pare_220 (fun H locs hP hD hS => ?_)
      have hP : va_P g.1 cls [(h, .inr (3, fs)), (ad, eI g 288 (fd)), (amd, eI g 1008 (upd (md) ((6 * c0) + 0) (fd (o + 0)))), (ab, eI g 6 (bx))] H := hP
      have hD : va_D A [(h, .inr (3, fs)), (ad, eI g 288 (fd)), (amd, eI g 1008 (upd (md) ((6 * c0) + 0) (fd (o + 0)))), (ab, eI g 6 (bx))] := hD
      refine lv_aload_n hx hb d_M_pare_221 rfl (lv_at hl 7 rfl) ?_
      refine va_get (D := g.1) (ci := 3) (v := .ref amd) (C := R_M) (T := F_M) (N := 19) hx hb htB in_M hown ha.1 hP 0 rfl rfl 7 (by decide) (htB _ kw_449) (fun _ h9 => h9) hf7 d_M_pare_222 ?_
      refine lv_bipush (v := (nI (6))) hx hb d_M_pare_225 (by decide) ?_
      refine lv_iload_n hx hb d_M_pare_227 rfl (lv_at hl 6 rfl) ?_
      refine jv_imul hx hb d_M_pare_228 ?_
      refine lv_iconst (v := (nI (3))) hx hb d_M_pare_229 (by decide) ?_
      refine jv_iadd hx hb d_M_pare_230 ?_
      refine lv_iload hx hb d_M_pare_231 (lv_at hl 2 rfl) ?_
      refine jv_iadd hx hb d_M_pare_233 ?_
      refine lv_iload hx hb d_M_pare_234 (lv_at hl 2 rfl) ?_
      refine lv_iload hx hb d_M_pare_236 (lv_at hl 5 rfl) ?_
      refine jv_icmp_ne (tgt := 256) hx hb (by omega) (by omega) d_M_pare_238 (by decide) (fun h => absurd h (by decide)) (fun _ => ?_)
      refine lv_iload hx hb d_M_pare_241 (lv_at hl 4 rfl) ?_
      refine lv_if_ne (tgt := 256) hx hb d_M_pare_243 (by decide) (fun h => absurd h (by decide)) (fun _ => ?_)
      refine lv_aload_n hx hb d_M_pare_246 rfl (lv_at hl 7 rfl) ?_
      refine va_get (D := g.1) (ci := 3) (v := .ref ab) (C := R_M) (T := F_M) (N := 19) hx hb htB in_M hown ha.1 hP 0 rfl rfl 8 (by decide) (htB _ kw_450) (fun _ h9 => h9) hf8 d_M_pare_247 ?_
      refine lv_iload hx hb d_M_pare_250 (lv_at hl 5 rfl) ?_
      refine ja_ald (k := 0) hx hb ha.1 hP 3 0 rfl rfl (by omega) (by omega) d_M_pare_252 ?_
      refine lv_goto (tgt := 258) hx hb d_M_pare_253 (by decide) ?_
      refine ja_ast (k := ((6 * c0) + 3) + 0) hx hb ha.1 hP hD hS 2 0 rfl rfl (by omega) (by omega) d_M_pare_258 (fun H locs hP hD hS => ?_)
      have hP : va_P g.1 cls [(h, .inr (3, fs)), (ad, eI g 288 (fd)), (amd, eI g 1008 (upd (upd (md) ((6 * c0) + 0) (fd (o + 0))) (((6 * c0) + 3) + 0) (bx (0)))), (ab, eI g 6 (bx))] H := hP
      have hD : va_D A [(h, .inr (3, fs)), (ad, eI g 288 (fd)), (amd, eI g 1008 (upd (upd (md) ((6 * c0) + 0) (fd (o + 0))) (((6 * c0) + 3) + 0) (bx (0)))), (ab, eI g 6 (bx))] := hD
      refine lv_iinc (v := nI (1)) (lv' := [(7, .int (nI (1))), (9, .int (fd ((o + 3) + 0))), (8, .int (fd (o + 0))), (6, .int (nI (1))), (5, .int (nI (0))), (4, .int (nI (0))), (3, .int (nI (c0))), (0, .ref h), (1, .int (nI (o))), (2, .int (nI (c0)))]) hx hb d_M_pare_259 hl (k := 2) rfl (nI_add _ 1) (by decide) rfl (fun ls hl => ?_)
      refine lv_goto (tgt := 90) hx hb d_M_pare_262 (by decide) ?_
      refine lv_iload hx hb d_M_pare_90 (lv_at hl 0 rfl) ?_
      refine lv_iconst (v := (nI (3))) hx hb d_M_pare_92 (by decide) ?_
      refine jv_icmp_ge (tgt := 265) hx hb (by omega) (by omega) d_M_pare_93 (by decide) (fun h => absurd h (by decide)) (fun _ => ?_)
      refine lv_iload hx hb d_M_pare_96 (lv_at hl 0 rfl) ?_
      refine lv_iload hx hb d_M_pare_98 (lv_at hl 5 rfl) ?_
      refine jv_icmp_ge (tgt := 125) hx hb (by omega) (by omega) d_M_pare_100 (by decide) (fun _ => ?_) (fun h => absurd h (by decide))
      refine lv_aload_n hx hb d_M_pare_125 rfl (lv_at hl 7 rfl) ?_
      refine va_get (D := g.1) (ci := 3) (v := .ref ad) (C := R_M) (T := F_M) (N := 19) hx hb htB in_M hown ha.1 hP 0 rfl rfl 5 (by decide) (htB _ kw_447) (fun _ h9 => h9) hf5 d_M_pare_126 ?_
      refine lv_iload_n hx hb d_M_pare_129 rfl (lv_at hl 8 rfl) ?_
      refine lv_iload hx hb d_M_pare_130 (lv_at hl 0 rfl) ?_
      refine jv_iadd hx hb d_M_pare_132 ?_
      refine ja_ald (k := o + 1) hx hb ha.1 hP 1 0 rfl rfl (by omega) (by omega) d_M_pare_133 ?_
      refine lv_istore (lv' := [(8, .int (fd (o + 1))), (7, .int (nI (1))), (9, .int (fd ((o + 3) + 0))), (6, .int (nI (1))), (5, .int (nI (0))), (4, .int (nI (0))), (3, .int (nI (c0))), (0, .ref h), (1, .int (nI (o))), (2, .int (nI (c0)))]) hx hb d_M_pare_134 hl (by decide) rfl (fun ls hl => ?_)
      refine lv_iload hx hb d_M_pare_136 (lv_at hl 1 rfl) ?_
      refine lv_iload hx hb d_M_pare_138 (lv_at hl 5 rfl) ?_
      refine jv_icmp_ge (tgt := 169) hx hb (by omega) (by omega) d_M_pare_140 (by decide) (fun _ => ?_) (fun h => absurd h (by decide))
      refine lv_aload_n hx hb d_M_pare_169 rfl (lv_at hl 7 rfl) ?_
      refine va_get (D := g.1) (ci := 3) (v := .ref ad) (C := R_M) (T := F_M) (N := 19) hx hb htB in_M hown ha.1 hP 0 rfl rfl 5 (by decide) (htB _ kw_447) (fun _ h9 => h9) hf5 d_M_pare_170 ?_
      refine lv_iload_n hx hb d_M_pare_173 rfl (lv_at hl 8 rfl) ?_
      refine lv_iconst (v := (nI (3))) hx hb d_M_pare_174 (by decide) ?_
      refine jv_iadd hx hb d_M_pare_175 ?_
      refine lv_iload hx hb d_M_pare_176 (lv_at hl 1 rfl) ?_
      refine jv_iadd hx hb d_M_pare_178 ?_
      refine ja_ald (k := (o + 3) + 1) hx hb ha.1 hP 1 0 rfl rfl (by omega) (by omega) d_M_pare_179 ?_
      refine lv_istore (lv' := [(9, .int (fd ((o + 3) + 1))), (8, .int (fd (o + 1))), (7, .int (nI (1))), (6, .int (nI (1))), (5, .int (nI (0))), (4, .int (nI (0))), (3, .int (nI (c0))), (0, .ref h), (1, .int (nI (o))), (2, .int (nI (c0)))]) hx hb d_M_pare_180 hl (by decide) rfl (fun ls hl => ?_)
      refine lv_aload_n hx hb d_M_pare_182 rfl (lv_at hl 7 rfl) ?_
      refine va_get (D := g.1) (ci := 3) (v := .ref amd) (C := R_M) (T := F_M) (N := 19) hx hb htB in_M hown ha.1 hP 0 rfl rfl 7 (by decide) (htB _ kw_449) (fun _ h9 => h9) hf7 d_M_pare_183 ?_
      refine lv_bipush (v := (nI (6))) hx hb d_M_pare_186 (by decide) ?_
      refine lv_iload_n hx hb d_M_pare_188 rfl (lv_at hl 6 rfl) ?_
      refine jv_imul hx hb d_M_pare_189 ?_
      refine lv_iload hx hb d_M_pare_190 (lv_at hl 2 rfl) ?_
      refine jv_iadd hx hb d_M_pare_192 ?_
      refine lv_iload hx hb d_M_pare_193 (lv_at hl 2 rfl) ?_
      refine lv_iload hx hb d_M_pare_195 (lv_at hl 5 rfl) ?_
      refine jv_icmp_ne (tgt := 218) hx hb (by omega) (by omega) d_M_pare_197 (by decide) (fun _ => ?_) (fun h => absurd h (by decide))
      refine lv_iload hx hb d_M_pare_218 (lv_at hl 1 rfl) ?_
      refine ja_ast (k := (6 * c0) + 1) hx hb ha.1 hP hD hS 2 0 rfl rfl (by omega) (by omega) d_M_pare_220 (fun H locs hP hD hS => ?_)
      have hP : va_P g.1 cls [(h, .inr (3, fs)), (ad, eI g 288 (fd)), (amd, eI g 1008 (upd (upd (upd (md) ((6 * c0) + 0) (fd (o + 0))) (((6 * c0) + 3) + 0) (bx (0))) ((6 * c0) + 1) (fd (o + 1)))), (ab, eI g 6 (bx))] H := hP
      have hD : va_D A [(h, .inr (3, fs)), (ad, eI g 288 (fd)), (amd, eI g 1008 (upd (upd (upd (md) ((6 * c0) + 0) (fd (o + 0))) (((6 * c0) + 3) + 0) (bx (0))) ((6 * c0) + 1) (fd (o + 1)))), (ab, eI g 6 (bx))] := hD
      refine lv_aload_n hx hb d_M_pare_221 rfl (lv_at hl 7 rfl) ?_
      refine va_get (D := g.1) (ci := 3) (v := .ref amd) (C := R_M) (T := F_M) (N := 19) hx hb htB in_M hown ha.1 hP 0 rfl rfl 7 (by decide) (htB _ kw_449) (fun _ h9 => h9) hf7 d_M_pare_222 ?_
      refine lv_bipush (v := (nI (6))) hx hb d_M_pare_225 (by decide) ?_
      refine lv_iload_n hx hb d_M_pare_227 rfl (lv_at hl 6 rfl) ?_
      refine jv_imul hx hb d_M_pare_228 ?_
      refine lv_iconst (v := (nI (3))) hx hb d_M_pare_229 (by decide) ?_
      refine jv_iadd hx hb d_M_pare_230 ?_
      refine lv_iload hx hb d_M_pare_231 (lv_at hl 2 rfl) ?_
      refine jv_iadd hx hb d_M_pare_233 ?_
      refine lv_iload hx hb d_M_pare_234 (lv_at hl 2 rfl) ?_
      refine lv_iload hx hb d_M_pare_236 (lv_at hl 5 rfl) ?_
      refine jv_icmp_ne (tgt := 256) hx hb (by omega) (by omega) d_M_pare_238 (by decide) (fun _ => ?_) (fun h => absurd h (by decide))
      refine lv_iload hx hb d_M_pare_256 (lv_at hl 0 rfl) ?_
      refine ja_ast (k := ((6 * c0) + 3) + 1) hx hb ha.1 hP hD hS 2 0 rfl rfl (by omega) (by omega) d_M_pare_258 (fun H locs hP hD hS => ?_)
      have hP : va_P g.1 cls [(h, .inr (3, fs)), (ad, eI g 288 (fd)), (amd, eI g 1008 (upd (upd (upd (upd (md) ((6 * c0) + 0) (fd (o + 0))) (((6 * c0) + 3) + 0) (bx (0))) ((6 * c0) + 1) (fd (o + 1))) (((6 * c0) + 3) + 1) (fd ((o + 3) + 1)))), (ab, eI g 6 (bx))] H := hP
      have hD : va_D A [(h, .inr (3, fs)), (ad, eI g 288 (fd)), (amd, eI g 1008 (upd (upd (upd (upd (md) ((6 * c0) + 0) (fd (o + 0))) (((6 * c0) + 3) + 0) (bx (0))) ((6 * c0) + 1) (fd (o + 1))) (((6 * c0) + 3) + 1) (fd ((o + 3) + 1)))), (ab, eI g 6 (bx))] := hD
      refine lv_iinc (v := nI (2)) (lv' := [(7, .int (nI (2))), (9, .int (fd ((o + 3) + 1))), (8, .int (fd (o + 1))), (6, .int (nI (1))), (5, .int (nI (0))), (4, .int (nI (0))), (3, .int (nI (c0))), (0, .ref h), (1, .int (nI (o))), (2, .int (nI (c0)))]) hx hb d_M_pare_259 hl (k := 2) rfl (nI_add _ 1) (by decide) rfl (fun ls hl => ?_)
      refine lv_goto (tgt := 90) hx hb d_M_pare_262 (by decide) ?_
      refine lv_iload hx hb d_M_pare_90 (lv_at hl 0 rfl) ?_
      refine lv_iconst (v := (nI (3))) hx hb d_M_pare_92 (by decide) ?_
      refine jv_icmp_ge (tgt := 265) hx hb (by omega) (by omega) d_M_pare_93 (by decide) (fun h => absurd h (by decide)) (fun _ => ?_)
      refine lv_iload hx hb d_M_pare_96 (lv_at hl 0 rfl) ?_
      refine lv_iload hx hb d_M_pare_98 (lv_at hl 5 rfl) ?_
      refine jv_icmp_ge (tgt := 125) hx hb (by omega) (by omega) d_M_pare_100 (by decide) (fun _ => ?_) (fun h => absurd h (by decide))
      refine lv_aload_n hx hb d_M_pare_125 rfl (lv_at hl 7 rfl) ?_
      refine va_get (D := g.1) (ci := 3) (v := .ref ad) (C := R_M) (T := F_M) (N := 19) hx hb htB in_M hown ha.1 hP 0 rfl rfl 5 (by decide) (htB _ kw_447) (fun _ h9 => h9) hf5 d_M_pare_126 ?_
      refine lv_iload_n hx hb d_M_pare_129 rfl (lv_at hl 8 rfl) ?_
      refine lv_iload hx hb d_M_pare_130 (lv_at hl 0 rfl) ?_
      refine jv_iadd hx hb d_M_pare_132 ?_
      refine ja_ald (k := o + 2) hx hb ha.1 hP 1 0 rfl rfl (by omega) (by omega) d_M_pare_133 ?_
      refine lv_istore (lv' := [(8, .int (fd (o + 2))), (7, .int (nI (2))), (9, .int (fd ((o + 3) + 1))), (6, .int (nI (1))), (5, .int (nI (0))), (4, .int (nI (0))), (3, .int (nI (c0))), (0, .ref h), (1, .int (nI (o))), (2, .int (nI (c0)))]) hx hb d_M_pare_134 hl (by decide) rfl (fun ls hl => ?_)
      refine lv_iload hx hb d_M_pare_136 (lv_at hl 1 rfl) ?_
      refine lv_iload hx hb d_M_pare_138 (lv_at hl 5 rfl) ?_
      refine jv_icmp_ge (tgt := 169) hx hb (by omega) (by omega) d_M_pare_140 (by decide) (fun _ => ?_) (fun h => absurd h (by decide))
      refine lv_aload_n hx hb d_M_pare_169 rfl (lv_at hl 7 rfl) ?_
      refine va_get (D := g.1) (ci := 3) (v := .ref ad) (C := R_M) (T := F_M) (N := 19) hx hb htB in_M hown ha.1 hP 0 rfl rfl 5 (by decide) (htB _ kw_447) (fun _ h9 => h9) hf5 d_M_pare_170 ?_
      refine lv_iload_n hx hb d_M_pare_173 rfl (lv_at hl 8 rfl) ?_
      refine lv_iconst (v := (nI (3))) hx hb d_M_pare_174 (by decide) ?_
      refine jv_iadd hx hb d_M_pare_175 ?_
      refine lv_iload hx hb d_M_pare_176 (lv_at hl 1 rfl) ?_
      refine jv_iadd hx hb d_M_pare_178 ?_
      refine ja_ald (k := (o + 3) + 2) hx hb ha.1 hP 1 0 rfl rfl (by omega) (by omega) d_M_pare_179 ?_
      refine lv_istore (lv' := [(9, .int (fd ((o + 3) + 2))), (8, .int (fd (o + 2))), (7, .int (nI (2))), (6, .int (nI (1))), (5, .int (nI (0))), (4, .int (nI (0))), (3, .int (nI (c0))), (0, .ref h), (1, .int (nI (o))), (2, .int (nI (c0)))]) hx hb d_M_pare_180 hl (by decide) rfl (fun ls hl => ?_)
      refine lv_aload_n hx hb d_M_pare_182 rfl (lv_at hl 7 rfl) ?_
      refine va_get (D := g.1) (ci := 3) (v := .ref amd) (C := R_M) (T := F_M) (N := 19) hx hb htB in_M hown ha.1 hP 0 rfl rfl 7 (by decide) (htB _ kw_449) (fun _ h9 => h9) hf7 d_M_pare_183 ?_
      refine lv_bipush (v := (nI (6))) hx hb d_M_pare_186 (by decide) ?_
      refine lv_iload_n hx hb d_M_pare_188 rfl (lv_at hl 6 rfl) ?_
      refine jv_imul hx hb d_M_pare_189 ?_
      refine lv_iload hx hb d_M_pare_190 (lv_at hl 2 rfl) ?_
      refine jv_iadd hx hb d_M_pare_192 ?_
      refine lv_iload hx hb d_M_pare_193 (lv_at hl 2 rfl) ?_
      refine lv_iload hx hb d_M_pare_195 (lv_at hl 5 rfl) ?_
      refine jv_icmp_ne (tgt := 218) hx hb (by omega) (by omega) d_M_pare_197 (by decide) (fun _ => ?_) (fun h => absurd h (by decide))
      refine lv_iload hx hb d_M_pare_218 (lv_at hl 1 rfl) ?_
      refine ja_ast (k := (6 * c0) + 2) hx hb ha.1 hP hD hS 2 0 rfl rfl (by omega) (by omega) d_M_pare_220 (fun H locs hP hD hS => ?_)
      have hP : va_P g.1 cls [(h, .inr (3, fs)), (ad, eI g 288 (fd)), (amd, eI g 1008 (upd (upd (upd (upd (upd (md) ((6 * c0) + 0) (fd (o + 0))) (((6 * c0) + 3) + 0) (bx (0))) ((6 * c0) + 1) (fd (o + 1))) (((6 * c0) + 3) + 1) (fd ((o + 3) + 1))) ((6 * c0) + 2) (fd (o + 2)))), (ab, eI g 6 (bx))] H := hP
      have hD : va_D A [(h, .inr (3, fs)), (ad, eI g 288 (fd)), (amd, eI g 1008 (upd (upd (upd (upd (upd (md) ((6 * c0) + 0) (fd (o + 0))) (((6 * c0) + 3) + 0) (bx (0))) ((6 * c0) + 1) (fd (o + 1))) (((6 * c0) + 3) + 1) (fd ((o + 3) + 1))) ((6 * c0) + 2) (fd (o + 2)))), (ab, eI g 6 (bx))] := hD
      refine lv_aload_n hx hb d_M_pare_221 rfl (lv_at hl 7 rfl) ?_
      refine va_get (D := g.1) (ci := 3) (v := .ref amd) (C := R_M) (T := F_M) (N := 19) hx hb htB in_M hown ha.1 hP 0 rfl rfl 7 (by decide) (htB _ kw_449) (fun _ h9 => h9) hf7 d_M_pare_222 ?_
      refine lv_bipush (v := (nI (6))) hx hb d_M_pare_225 (by decide) ?_
      refine lv_iload_n hx hb d_M_pare_227 rfl (lv_at hl 6 rfl) ?_
      refine jv_imul hx hb d_M_pare_228 ?_
      refine lv_iconst (v := (nI (3))) hx hb d_M_pare_229 (by decide) ?_
      refine jv_iadd hx hb d_M_pare_230 ?_
      refine lv_iload hx hb d_M_pare_231 (lv_at hl 2 rfl) ?_
      refine jv_iadd hx hb d_M_pare_233 ?_
      refine lv_iload hx hb d_M_pare_234 (lv_at hl 2 rfl) ?_
      refine lv_iload hx hb d_M_pare_236 (lv_at hl 5 rfl) ?_
      refine jv_icmp_ne (tgt := 256) hx hb (by omega) (by omega) d_M_pare_238 (by decide) (fun _ => ?_) (fun h => absurd h (by decide))
      refine lv_iload hx hb d_M_pare_256 (lv_at hl 0 rfl) ?_
      refine ja_ast (k := ((6 * c0) + 3) + 2) hx hb ha.1 hP hD hS 2 0 rfl rfl (by omega) (by omega) d_M_pare_258 (fun H locs hP hD hS => ?_)
      have hP : va_P g.1 cls [(h, .inr (3, fs)), (ad, eI g 288 (fd)), (amd, eI g 1008 (upd (upd (upd (upd (upd (upd (md) ((6 * c0) + 0) (fd (o + 0))) (((6 * c0) + 3) + 0) (bx (0))) ((6 * c0) + 1) (fd (o + 1))) (((6 * c0) + 3) + 1) (fd ((o + 3) + 1))) ((6 * c0) + 2) (fd (o + 2))) (((6 * c0) + 3) + 2) (fd ((o + 3) + 2)))), (ab, eI g 6 (bx))] H := hP
      have hD : va_D A [(h, .inr (3, fs)), (ad, eI g 288 (fd)), (amd, eI g 1008 (upd (upd (upd (upd (upd (upd (md) ((6 * c0) + 0) (fd (o + 0))) (((6 * c0) + 3) + 0) (bx (0))) ((6 * c0) + 1) (fd (o + 1))) (((6 * c0) + 3) + 1) (fd ((o + 3) + 1))) ((6 * c0) + 2) (fd (o + 2))) (((6 * c0) + 3) + 2) (fd ((o + 3) + 2)))), (ab, eI g 6 (bx))] := hD
      refine lv_iinc (v := nI (3)) (lv' := [(7, .int (nI (3))), (9, .int (fd ((o + 3) + 2))), (8, .int (fd (o + 2))), (6, .int (nI (1))), (5, .int (nI (0))), (4, .int (nI (0))), (3, .int (nI (c0))), (0, .ref h), (1, .int (nI (o))), (2, .int (nI (c0)))]) hx hb d_M_pare_259 hl (k := 2) rfl (nI_add _ 1) (by decide) rfl (fun ls hl => ?_)
      refine lv_goto (tgt := 90) hx hb d_M_pare_262 (by decide) ?_
      refine lv_iload hx hb d_M_pare_90 (lv_at hl 0 rfl) ?_
      refine lv_iconst (v := (nI (3))) hx hb d_M_pare_92 (by decide) ?_
      refine jv_icmp_ge (tgt := 265) hx hb (by omega) (by omega) d_M_pare_93 (by decide) (fun _ => ?_) (fun h => absurd h (by decide))
      refine lv_iinc (v := nI (c0 + 1)) (lv' := [(3, .int (nI (c0 + 1))), (7, .int (nI (3))), (9, .int (fd ((o + 3) + 2))), (8, .int (fd (o + 2))), (6, .int (nI (1))), (5, .int (nI (0))), (4, .int (nI (0))), (0, .ref h), (1, .int (nI (o))), (2, .int (nI (c0)))]) hx hb d_M_pare_265 hl (k := 6) rfl (nI_add _ 1) (by decide) rfl (fun ls hl => ?_)
      exact K1 ls locs H ⟨c0 + 1, upd (upd (upd (upd (upd (upd (md) ((6 * c0) + 0) (fd (o + 0))) (((6 * c0) + 3) + 0) (bx (0))) ((6 * c0) + 1) (fd (o + 1))) (((6 * c0) + 3) + 1) (fd ((o + 3) + 1))) ((6 * c0) + 2) (fd (o + 2))) (((6 * c0) + 3) + 2) (fd ((o + 3) + 2)), (if_pos c_39).symm, by omega, lv_sub (l' := [(0, .ref h), (1, .int (nI (o))), (2, .int (nI (c0))), (3, .int (nI (c0 + 1))), (4, .int (nI (0))), (5, .int (nI (0)))]) hl [7, 8, 9, 0, 6, 5] rfl, hP, hD, hS⟩
