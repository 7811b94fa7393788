/-! Worlds in another order, and small worlds out of large ones: for cells that come in any number. -/
theorem va_P_mem {D : va_G} {cl : List vw_C} {ws ws' : va_W} {H : Heap} (h : va_P D cl ws H) (hm : ∀ q ∈ ws', q ∈ ws) : va_P D cl ws' H := fun k q hk => by
  obtain ⟨i, hi⟩ := List.getElem?_of_mem (hm q (List.mem_of_getElem? hk))
  exact h i q hi
theorem va_P_at {D : va_G} {cl : List vw_C} {ws : va_W} {H : Heap} (h : va_P D cl ws H) {q : Nat × va_E} (hq : q ∈ ws) : va_at D cl q H := by
  obtain ⟨i, hi⟩ := List.getElem?_of_mem hq
  exact h i q hi
theorem va_D_iff {A : Nat → Prop} {ws : va_W} : va_D A ws ↔ (ws.map Prod.fst).Nodup ∧ ∀ q ∈ ws, A q.1 := by
  constructor
  · intro h
    refine ⟨?_, fun q hq => by obtain ⟨i, hi⟩ := List.getElem?_of_mem hq; exact h.2 i q hi⟩
    unfold List.Nodup
    rw [List.pairwise_iff_getElem]
    intro i j hi hj hij e
    have hj' : j < ws.length := by rw [List.length_map] at hj; exact hj
    have hi' : i < ws.length := by omega
    rw [List.getElem_map, List.getElem_map] at e
    have := h.1 i j ws[i] ws[j] (List.getElem?_eq_getElem hi') (List.getElem?_eq_getElem hj') e
    omega
  · rintro ⟨h1, h2⟩
    refine ⟨fun i j p q hp hq e => ?_, fun k q hk => h2 q (List.mem_of_getElem? hk)⟩
    unfold List.Nodup at h1
    rw [List.pairwise_iff_getElem] at h1
    obtain ⟨hi, ei⟩ := List.getElem?_eq_some_iff.mp hp
    obtain ⟨hj, ej⟩ := List.getElem?_eq_some_iff.mp hq
    rcases Nat.lt_trichotomy i j with h | h | h
    · exact absurd (by rw [List.getElem_map, List.getElem_map, ei, ej]; exact e) (h1 i j (by rw [List.length_map]; exact hi) (by rw [List.length_map]; exact hj) h)
    · exact h
    · exact absurd (by rw [List.getElem_map, List.getElem_map, ei, ej]; exact e.symm) (h1 j i (by rw [List.length_map]; exact hj) (by rw [List.length_map]; exact hi) h)
theorem va_D_perm {A : Nat → Prop} {ws ws' : va_W} (h : va_D A ws) (hp : ws'.Perm ws) : va_D A ws' := by
  rw [va_D_iff] at h ⊢
  exact ⟨(hp.map Prod.fst).nodup_iff.mpr h.1, fun q hq => h.2 q (hp.mem_iff.mp hq)⟩
theorem va_P_perm {D : va_G} {cl : List vw_C} {ws ws' : va_W} {H : Heap} (h : va_P D cl ws H) (hp : ws'.Perm ws) : va_P D cl ws' H := va_P_mem h fun _ hq => hp.mem_iff.mp hq
theorem va_app {D : va_G} {cl : List vw_C} {ws ws' : va_W} {H : Heap} (h : va_P D cl ws H) (h' : va_P D cl ws' H) : va_P D cl (ws ++ ws') H := fun k q hk => (List.mem_append.mp (List.mem_of_getElem? hk)).elim (va_P_at h) (va_P_at h')
/-- the cells of parts: solid and boxes; what a part is: address, address of its row, contents, list -/
abbrev pT : Type := Nat × Nat × (Nat → Int32) × List Bx
def pCells (g : gT) (p : pT) : va_W := [(p.1, .inr (0, [.ref p.2.1, .int (nI p.2.2.2.length)])), (p.2.1, eI g 144 p.2.2.1)]
def pW (g : gT) (P : List pT) : va_W := P.flatMap (pCells g)
theorem pW_split (g : gT) (P1 P2 : List pT) (p : pT) : (pW g (P1 ++ p :: P2)).Perm (pCells g p ++ pW g (P1 ++ P2)) := by
  unfold pW
  rw [List.flatMap_append, List.flatMap_cons, List.flatMap_append]
  exact (List.perm_append_comm_assoc _ _ _)
theorem pW_mem {g : gT} {P : List pT} {p : pT} (h : p ∈ P) : ∀ q ∈ pCells g p, q ∈ pW g P := fun q hq => List.mem_flatMap.mpr ⟨p, h, hq⟩
