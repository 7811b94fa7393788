/-- words on the tables that travel by laws of their own -/
def nB : List Cond := [Cond.methodLinkNest "JointSolids" (28 : Nat) ({ cls := "JointSolids$Solid", name := "<init>", desc := "()V" } : Jvm.MethodName) "JointSolids", Cond.fieldLinkNest "JointSolids" (170 : Nat) "JointSolids$Solid" "boxes" "[I" "JointSolids", Cond.fieldLinkNest "JointSolids" (160 : Nat) "JointSolids$Solid" "count" "I" "JointSolids", Cond.castable "java/lang/IndexOutOfBoundsException" "java/lang/IndexOutOfBoundsException", Cond.declares ({ cls := "java/lang/RuntimeException", name := "<init>", desc := "()V" } : Jvm.MethodName), Cond.declares ({ cls := "java/lang/RuntimeException", name := "<init>", desc := "(Ljava/lang/String;)V" } : Jvm.MethodName), Cond.declares ({ cls := "java/lang/Exception", name := "<init>", desc := "()V" } : Jvm.MethodName), Cond.declares ({ cls := "java/lang/Exception", name := "<init>", desc := "(Ljava/lang/String;)V" } : Jvm.MethodName), Cond.declares ({ cls := "java/lang/Throwable", name := "<init>", desc := "()V" } : Jvm.MethodName), Cond.declares ({ cls := "java/lang/Throwable", name := "<init>", desc := "(Ljava/lang/String;)V" } : Jvm.MethodName), Cond.castable "java/lang/IllegalArgumentException" "java/lang/IllegalArgumentException", Cond.castable "java/lang/IllegalStateException" "java/lang/IllegalStateException", Cond.methodLinkNest "JointSolids" (79 : Nat) ({ cls := "JointSolids$Solid", name := "add", desc := "([II)V" } : Jvm.MethodName) "JointSolids", Cond.methodLinkNest "JointSolids" (87 : Nat) ({ cls := "JointSolids$Solid", name := "total", desc := "()J" } : Jvm.MethodName) "JointSolids", Cond.methodLinkNest "JointSolids$Solid" (31 : Nat) ({ cls := "JointSolids", name := "volumeShared", desc := "([II[II)J" } : Jvm.MethodName) "JointSolids", Cond.methodLinkNest "JointSolids" (229 : Nat) ({ cls := "JointSolids$Solid", name := "empty", desc := "()V" } : Jvm.MethodName) "JointSolids", Cond.methodLinkNest "JointSolids" (139 : Nat) ({ cls := "JointSolids$Solid", name := "copy", desc := "(LJointSolids$Solid;)V" } : Jvm.MethodName) "JointSolids", Cond.methodLinkNest "JointSolids" (151 : Nat) ({ cls := "JointSolids$Joint", name := "<init>", desc := "(IIII)V" } : Jvm.MethodName) "JointSolids", Cond.fieldLinkNest "JointSolids" (195 : Nat) "JointSolids$Joint" "kind" "I" "JointSolids", Cond.fieldLinkNest "JointSolids" (189 : Nat) "JointSolids$Joint" "a" "I" "JointSolids", Cond.fieldLinkNest "JointSolids" (192 : Nat) "JointSolids$Joint" "b" "I" "JointSolids", Cond.fieldLinkNest "JointSolids" (200 : Nat) "JointSolids$Joint" "axis" "I" "JointSolids", Cond.fieldLinkNest "JointSolids" (153 : Nat) "JointSolids$Joint" "lostA" "J" "JointSolids", Cond.fieldLinkNest "JointSolids" (157 : Nat) "JointSolids$Joint" "lostB" "J" "JointSolids", Cond.methodLinkNest "JointSolids" (180 : Nat) ({ cls := "JointSolids$Solid", name := "holds", desc := "(III)Z" } : Jvm.MethodName) "JointSolids"]
theorem nb_0 : Jvm.Cond.methodLinkNest "JointSolids" (28 : Nat) ({ cls := "JointSolids$Solid", name := "<init>", desc := "()V" } : Jvm.MethodName) "JointSolids" ∈ nB := List.mem_of_getElem? (i := 0) rfl
theorem nb_1 : Jvm.Cond.fieldLinkNest "JointSolids" (170 : Nat) "JointSolids$Solid" "boxes" "[I" "JointSolids" ∈ nB := List.mem_of_getElem? (i := 1) rfl
theorem nb_2 : Jvm.Cond.fieldLinkNest "JointSolids" (160 : Nat) "JointSolids$Solid" "count" "I" "JointSolids" ∈ nB := List.mem_of_getElem? (i := 2) rfl
theorem nb_3 : Jvm.Cond.castable "java/lang/IndexOutOfBoundsException" "java/lang/IndexOutOfBoundsException" ∈ nB := List.mem_of_getElem? (i := 3) rfl
theorem nb_4 : Jvm.Cond.declares ({ cls := "java/lang/RuntimeException", name := "<init>", desc := "()V" } : Jvm.MethodName) ∈ nB := List.mem_of_getElem? (i := 4) rfl
theorem nb_5 : Jvm.Cond.declares ({ cls := "java/lang/RuntimeException", name := "<init>", desc := "(Ljava/lang/String;)V" } : Jvm.MethodName) ∈ nB := List.mem_of_getElem? (i := 5) rfl
theorem nb_6 : Jvm.Cond.declares ({ cls := "java/lang/Exception", name := "<init>", desc := "()V" } : Jvm.MethodName) ∈ nB := List.mem_of_getElem? (i := 6) rfl
theorem nb_7 : Jvm.Cond.declares ({ cls := "java/lang/Exception", name := "<init>", desc := "(Ljava/lang/String;)V" } : Jvm.MethodName) ∈ nB := List.mem_of_getElem? (i := 7) rfl
theorem nb_8 : Jvm.Cond.declares ({ cls := "java/lang/Throwable", name := "<init>", desc := "()V" } : Jvm.MethodName) ∈ nB := List.mem_of_getElem? (i := 8) rfl
theorem nb_9 : Jvm.Cond.declares ({ cls := "java/lang/Throwable", name := "<init>", desc := "(Ljava/lang/String;)V" } : Jvm.MethodName) ∈ nB := List.mem_of_getElem? (i := 9) rfl
theorem nb_10 : Jvm.Cond.castable "java/lang/IllegalArgumentException" "java/lang/IllegalArgumentException" ∈ nB := List.mem_of_getElem? (i := 10) rfl
theorem nb_11 : Jvm.Cond.castable "java/lang/IllegalStateException" "java/lang/IllegalStateException" ∈ nB := List.mem_of_getElem? (i := 11) rfl
theorem nb_12 : Jvm.Cond.methodLinkNest "JointSolids" (79 : Nat) ({ cls := "JointSolids$Solid", name := "add", desc := "([II)V" } : Jvm.MethodName) "JointSolids" ∈ nB := List.mem_of_getElem? (i := 12) rfl
theorem nb_13 : Jvm.Cond.methodLinkNest "JointSolids" (87 : Nat) ({ cls := "JointSolids$Solid", name := "total", desc := "()J" } : Jvm.MethodName) "JointSolids" ∈ nB := List.mem_of_getElem? (i := 13) rfl
theorem nb_14 : Jvm.Cond.methodLinkNest "JointSolids$Solid" (31 : Nat) ({ cls := "JointSolids", name := "volumeShared", desc := "([II[II)J" } : Jvm.MethodName) "JointSolids" ∈ nB := List.mem_of_getElem? (i := 14) rfl
theorem nb_15 : Jvm.Cond.methodLinkNest "JointSolids" (229 : Nat) ({ cls := "JointSolids$Solid", name := "empty", desc := "()V" } : Jvm.MethodName) "JointSolids" ∈ nB := List.mem_of_getElem? (i := 15) rfl
theorem nb_16 : Jvm.Cond.methodLinkNest "JointSolids" (139 : Nat) ({ cls := "JointSolids$Solid", name := "copy", desc := "(LJointSolids$Solid;)V" } : Jvm.MethodName) "JointSolids" ∈ nB := List.mem_of_getElem? (i := 16) rfl
theorem nb_17 : Jvm.Cond.methodLinkNest "JointSolids" (151 : Nat) ({ cls := "JointSolids$Joint", name := "<init>", desc := "(IIII)V" } : Jvm.MethodName) "JointSolids" ∈ nB := List.mem_of_getElem? (i := 17) rfl
theorem nb_18 : Jvm.Cond.fieldLinkNest "JointSolids" (195 : Nat) "JointSolids$Joint" "kind" "I" "JointSolids" ∈ nB := List.mem_of_getElem? (i := 18) rfl
theorem nb_19 : Jvm.Cond.fieldLinkNest "JointSolids" (189 : Nat) "JointSolids$Joint" "a" "I" "JointSolids" ∈ nB := List.mem_of_getElem? (i := 19) rfl
theorem nb_20 : Jvm.Cond.fieldLinkNest "JointSolids" (192 : Nat) "JointSolids$Joint" "b" "I" "JointSolids" ∈ nB := List.mem_of_getElem? (i := 20) rfl
theorem nb_21 : Jvm.Cond.fieldLinkNest "JointSolids" (200 : Nat) "JointSolids$Joint" "axis" "I" "JointSolids" ∈ nB := List.mem_of_getElem? (i := 21) rfl
theorem nb_22 : Jvm.Cond.fieldLinkNest "JointSolids" (153 : Nat) "JointSolids$Joint" "lostA" "J" "JointSolids" ∈ nB := List.mem_of_getElem? (i := 22) rfl
theorem nb_23 : Jvm.Cond.fieldLinkNest "JointSolids" (157 : Nat) "JointSolids$Joint" "lostB" "J" "JointSolids" ∈ nB := List.mem_of_getElem? (i := 23) rfl
theorem nb_24 : Jvm.Cond.methodLinkNest "JointSolids" (180 : Nat) ({ cls := "JointSolids$Solid", name := "holds", desc := "(III)Z" } : Jvm.MethodName) "JointSolids" ∈ nB := List.mem_of_getElem? (i := 24) rfl
theorem nB_tbl : ∀ w ∈ nB, w ∈ lw_tbl := List.forall_mem_cons.mpr ⟨kb_26, List.forall_mem_cons.mpr ⟨kb_31, List.forall_mem_cons.mpr ⟨kb_33, List.forall_mem_cons.mpr ⟨kb_93, List.forall_mem_cons.mpr ⟨kb_94, List.forall_mem_cons.mpr ⟨kb_95, List.forall_mem_cons.mpr ⟨kb_96, List.forall_mem_cons.mpr ⟨kb_97, List.forall_mem_cons.mpr ⟨kb_98, List.forall_mem_cons.mpr ⟨kb_99, List.forall_mem_cons.mpr ⟨kb_188, List.forall_mem_cons.mpr ⟨kb_208, List.forall_mem_cons.mpr ⟨kb_229, List.forall_mem_cons.mpr ⟨kb_242, List.forall_mem_cons.mpr ⟨kb_246, List.forall_mem_cons.mpr ⟨kb_251, List.forall_mem_cons.mpr ⟨kb_263, List.forall_mem_cons.mpr ⟨kb_326, List.forall_mem_cons.mpr ⟨kb_331, List.forall_mem_cons.mpr ⟨kb_333, List.forall_mem_cons.mpr ⟨kb_335, List.forall_mem_cons.mpr ⟨kb_337, List.forall_mem_cons.mpr ⟨kb_338, List.forall_mem_cons.mpr ⟨kb_339, List.forall_mem_cons.mpr ⟨kb_403, List.forall_mem_nil _⟩⟩⟩⟩⟩⟩⟩⟩⟩⟩⟩⟩⟩⟩⟩⟩⟩⟩⟩⟩⟩⟩⟩⟩⟩
theorem nB_on : ∀ w ∈ nB, w.onTables = true := List.forall_mem_cons.mpr ⟨rfl, List.forall_mem_cons.mpr ⟨rfl, List.forall_mem_cons.mpr ⟨rfl, List.forall_mem_cons.mpr ⟨rfl, List.forall_mem_cons.mpr ⟨rfl, List.forall_mem_cons.mpr ⟨rfl, List.forall_mem_cons.mpr ⟨rfl, List.forall_mem_cons.mpr ⟨rfl, List.forall_mem_cons.mpr ⟨rfl, List.forall_mem_cons.mpr ⟨rfl, List.forall_mem_cons.mpr ⟨rfl, List.forall_mem_cons.mpr ⟨rfl, List.forall_mem_cons.mpr ⟨rfl, List.forall_mem_cons.mpr ⟨rfl, List.forall_mem_cons.mpr ⟨rfl, List.forall_mem_cons.mpr ⟨rfl, List.forall_mem_cons.mpr ⟨rfl, List.forall_mem_cons.mpr ⟨rfl, List.forall_mem_cons.mpr ⟨rfl, List.forall_mem_cons.mpr ⟨rfl, List.forall_mem_cons.mpr ⟨rfl, List.forall_mem_cons.mpr ⟨rfl, List.forall_mem_cons.mpr ⟨rfl, List.forall_mem_cons.mpr ⟨rfl, List.forall_mem_cons.mpr ⟨rfl, List.forall_mem_nil _⟩⟩⟩⟩⟩⟩⟩⟩⟩⟩⟩⟩⟩⟩⟩⟩⟩⟩⟩⟩⟩⟩⟩⟩⟩
def aN (U : State) : Prop := ∀ w ∈ nB, va_Nw w U
theorem aN.same {u U : State} (h : u.vm = U.vm) (ha : aN u) : aN U := fun w hw => va_Nw.same (nB_on w hw) h (ha w hw)
theorem aN.warm {s U : State} (hW : s.WarmedH U.vm) (ha : aN s) : aN U := List.forall_mem_cons.mpr ⟨va_Nw.warmM hW (ha _ nb_0), List.forall_mem_cons.mpr ⟨va_Nw.warmF hW (ha _ nb_1), List.forall_mem_cons.mpr ⟨va_Nw.warmF hW (ha _ nb_2), List.forall_mem_cons.mpr ⟨va_Nw.warmC hW (ha _ nb_3), List.forall_mem_cons.mpr ⟨va_Nw.warmD hW (ha _ nb_4), List.forall_mem_cons.mpr ⟨va_Nw.warmD hW (ha _ nb_5), List.forall_mem_cons.mpr ⟨va_Nw.warmD hW (ha _ nb_6), List.forall_mem_cons.mpr ⟨va_Nw.warmD hW (ha _ nb_7), List.forall_mem_cons.mpr ⟨va_Nw.warmD hW (ha _ nb_8), List.forall_mem_cons.mpr ⟨va_Nw.warmD hW (ha _ nb_9), List.forall_mem_cons.mpr ⟨va_Nw.warmC hW (ha _ nb_10), List.forall_mem_cons.mpr ⟨va_Nw.warmC hW (ha _ nb_11), List.forall_mem_cons.mpr ⟨va_Nw.warmM hW (ha _ nb_12), List.forall_mem_cons.mpr ⟨va_Nw.warmM hW (ha _ nb_13), List.forall_mem_cons.mpr ⟨va_Nw.warmM hW (ha _ nb_14), List.forall_mem_cons.mpr ⟨va_Nw.warmM hW (ha _ nb_15), List.forall_mem_cons.mpr ⟨va_Nw.warmM hW (ha _ nb_16), List.forall_mem_cons.mpr ⟨va_Nw.warmM hW (ha _ nb_17), List.forall_mem_cons.mpr ⟨va_Nw.warmF hW (ha _ nb_18), List.forall_mem_cons.mpr ⟨va_Nw.warmF hW (ha _ nb_19), List.forall_mem_cons.mpr ⟨va_Nw.warmF hW (ha _ nb_20), List.forall_mem_cons.mpr ⟨va_Nw.warmF hW (ha _ nb_21), List.forall_mem_cons.mpr ⟨va_Nw.warmF hW (ha _ nb_22), List.forall_mem_cons.mpr ⟨va_Nw.warmF hW (ha _ nb_23), List.forall_mem_cons.mpr ⟨va_Nw.warmM hW (ha _ nb_24), List.forall_mem_nil _⟩⟩⟩⟩⟩⟩⟩⟩⟩⟩⟩⟩⟩⟩⟩⟩⟩⟩⟩⟩⟩⟩⟩⟩⟩
def sB : List (Nat × String) := [(205, "there is no such part"), (225, "a place is too far away"), (227, "a size is too small or too large"), (64, "there is no room for a part more"), (95, "there is no room for so many pieces"), (99, "a clearance is 0 .. 100"), (209, "there is no such kind"), (211, "there is no such axis"), (215, "both parts are one"), (213, "a width is 1 .. 1000"), (122, "there is no room for a joint more"), (128, "the parts have no box in common"), (134, "there is no room for so many slices"), (165, "there is no such piece"), (168, "there is no such number of a piece"), (183, "a row is 0 .. 10000"), (207, "there is no such joint"), (203, "a joint has nothing such to tell")]
def aS (U : State) : Prop := (∀ q ∈ sB, ∃ a : Nat, vk_R "JointSolids" q.1 q.2 a U) ∧ va_AO "JointSolids$Solid" U ∧ va_AO "JointSolids$Joint" U
theorem aS.same {u U : State} (h : u.vm = U.vm) (ha : aS u) : aS U := ⟨fun q hq => (ha.1 q hq).imp fun a h2 => vk_R.same h.symm h2, va_AO.moved (h ▸ Vm.Alike.refl u.vm) ha.2.1, va_AO.moved (h ▸ Vm.Alike.refl u.vm) ha.2.2⟩
theorem aS.warm {s U : State} (hW : s.WarmedH U.vm) (ha : aS s) : aS U := ⟨fun q hq => (ha.1 q hq).imp fun a h2 => vk_R.warm hW h2, va_AO.moved hW.alike ha.2.1, va_AO.moved hW.alike ha.2.2⟩
theorem sB_205 : (205, "there is no such part") ∈ sB := List.mem_of_getElem? (i := 0) rfl
theorem sB_225 : (225, "a place is too far away") ∈ sB := List.mem_of_getElem? (i := 1) rfl
theorem sB_227 : (227, "a size is too small or too large") ∈ sB := List.mem_of_getElem? (i := 2) rfl
theorem sB_64 : (64, "there is no room for a part more") ∈ sB := List.mem_of_getElem? (i := 3) rfl
theorem sB_95 : (95, "there is no room for so many pieces") ∈ sB := List.mem_of_getElem? (i := 4) rfl
theorem sB_99 : (99, "a clearance is 0 .. 100") ∈ sB := List.mem_of_getElem? (i := 5) rfl
theorem sB_209 : (209, "there is no such kind") ∈ sB := List.mem_of_getElem? (i := 6) rfl
theorem sB_211 : (211, "there is no such axis") ∈ sB := List.mem_of_getElem? (i := 7) rfl
theorem sB_215 : (215, "both parts are one") ∈ sB := List.mem_of_getElem? (i := 8) rfl
theorem sB_213 : (213, "a width is 1 .. 1000") ∈ sB := List.mem_of_getElem? (i := 9) rfl
theorem sB_122 : (122, "there is no room for a joint more") ∈ sB := List.mem_of_getElem? (i := 10) rfl
theorem sB_128 : (128, "the parts have no box in common") ∈ sB := List.mem_of_getElem? (i := 11) rfl
theorem sB_134 : (134, "there is no room for so many slices") ∈ sB := List.mem_of_getElem? (i := 12) rfl
theorem sB_165 : (165, "there is no such piece") ∈ sB := List.mem_of_getElem? (i := 13) rfl
theorem sB_168 : (168, "there is no such number of a piece") ∈ sB := List.mem_of_getElem? (i := 14) rfl
theorem sB_183 : (183, "a row is 0 .. 10000") ∈ sB := List.mem_of_getElem? (i := 15) rfl
theorem sB_207 : (207, "there is no such joint") ∈ sB := List.mem_of_getElem? (i := 16) rfl
theorem sB_203 : (203, "a joint has nothing such to tell") ∈ sB := List.mem_of_getElem? (i := 17) rfl
abbrev gT : Type := va_G × ClassId × ClassId × ClassId × ClassId
def gY (g : gT) : List (ClassId × FieldType) := [(g.2.1, .int), (g.2.2.1, .long), (g.2.2.2.1, .object R_S), (g.2.2.2.2, .object R_K)]
abbrev eI (g : gT) (n : Nat) (f : Nat → Int32) : va_E := .inl (g.2.1, n, .inl f)
abbrev eL (g : gT) (n : Nat) (f : Nat → Int64) : va_E := .inl (g.2.2.1, n, .inr (.inl f))
abbrev ePS (g : gT) (n : Nat) (f : Nat → Option Nat) : va_E := .inl (g.2.2.2.1, n, .inr (.inr (.inr (.inr f))))
abbrev ePK (g : gT) (n : Nat) (f : Nat → Option Nat) : va_E := .inl (g.2.2.2.2, n, .inr (.inr (.inr (.inr f))))
/-- what every method may count on: the classes and array classes, the words that travel, the texts, the two statics of Throwable (below z) -/
def aM (g : gT) (z : Nat) (U : State) : Prop := va_K g.1 cls (gY g) U ∧ aN U ∧ aS U ∧ vx_Zq Bundle.tN "UNASSIGNED_STACK" Bundle.steD (fun q => z ≤ q) U U.heap ∧ vx_Zq Bundle.tN "SUPPRESSED_SENTINEL" Bundle.listD (fun q => z ≤ q) U U.heap ∧ z ≤ U.heap.size
theorem aM.same {g : gT} {z : Nat} {u U : State} (hv : u.vm = U.vm) (hh : u.heap = U.heap) (h : aM g z u) : aM g z U := by
  obtain ⟨h1, h2, h3, h4, h5, h6⟩ := h
  have al : u.vm.Alike U.vm := hv ▸ Vm.Alike.refl u.vm
  exact ⟨va_K.moved al h1, h2.same hv, h3.same hv, hh ▸ vx_Zq.moved al h4, hh ▸ vx_Zq.moved al h5, hh ▸ h6⟩
theorem aM.warm {g : gT} {z : Nat} {s U : State} {A : Nat → Prop} {H : Heap} {locs : List Loc} (hS : va_S A s.heap H locs) (hz : ∀ q, A q → z ≤ q) (hU : U.heap = H) (hW : s.WarmedH U.vm) (h : aM g z s) : aM g z U := by
  obtain ⟨h1, h2, h3, h4, h5, h6⟩ := h
  have hk : ∀ a : Nat, a < s.heap.size → ¬ z ≤ a → U.heap[a]? = s.heap[a]? := fun a ha hn => by rw [hU]; exact hS.2.1 a ha (fun q => hn (hz a q))
  exact ⟨va_K.moved hW.alike h1, h2.warm hW, h3.warm hW, vx_Zq.moved hW.alike (h4.kept hk), vx_Zq.moved hW.alike (h5.kept hk), by rw [hU]; exact Nat.le_trans h6 hS.1⟩
/-- nothing is written, nothing is made -/
def nA : Nat → Prop := fun _ => False
theorem nA_z {z : Nat} : ∀ q, nA q → z ≤ q := fun _ h => h.elim
/-- new cells alone -/
def zA (n : Nat) : Nat → Prop := fun q => n ≤ q

abbrev NM : List String := ["java/lang/RuntimeException", "java/lang/Exception"]
abbrev E_ISE : String := "java/lang/IllegalStateException"
set_option maxRecDepth 20000 in
theorem at_ISE_1 : ∀ w ∈ (vx_atS R_J 66 E_ISE NM).filter goodWord, w ∈ lw_tbl := by decide +kernel
set_option maxRecDepth 20000 in
theorem at_ISE_2 : ∀ w ∈ (vx_atS R_J 66 E_ISE NM).filter (fun w => !goodWord w), w ∈ nB := by decide +kernel
set_option maxRecDepth 20000 in
theorem at_ISE_3 : ∀ w ∈ Cond.classLink R_J 62 E_ISE :: Cond.initialized E_ISE :: vx_atS R_J 66 E_ISE NM, vx_ot w = true := by decide +kernel
theorem at_ISE {args : Array Value} {s : State} (hts : ∀ w ∈ tB, w.before args s = true) (hN : aN s) : ∀ w ∈ vx_atS R_J 66 E_ISE NM, w.before args s = true := vx_hat (fun w h => hts w (List.mem_filter.mpr ⟨at_ISE_1 w h, (List.mem_filter.mp h).2⟩)) at_ISE_2 (fun w h => va_Nw.use (nB_on w h) (hN w h))
abbrev E_IAE : String := "java/lang/IllegalArgumentException"
set_option maxRecDepth 20000 in
theorem at_IAE_1 : ∀ w ∈ (vx_atS R_J 101 E_IAE NM).filter goodWord, w ∈ lw_tbl := by decide +kernel
set_option maxRecDepth 20000 in
theorem at_IAE_2 : ∀ w ∈ (vx_atS R_J 101 E_IAE NM).filter (fun w => !goodWord w), w ∈ nB := by decide +kernel
set_option maxRecDepth 20000 in
theorem at_IAE_3 : ∀ w ∈ Cond.classLink R_J 97 E_IAE :: Cond.initialized E_IAE :: vx_atS R_J 101 E_IAE NM, vx_ot w = true := by decide +kernel
theorem at_IAE {args : Array Value} {s : State} (hts : ∀ w ∈ tB, w.before args s = true) (hN : aN s) : ∀ w ∈ vx_atS R_J 101 E_IAE NM, w.before args s = true := vx_hat (fun w h => hts w (List.mem_filter.mpr ⟨at_IAE_1 w h, (List.mem_filter.mp h).2⟩)) at_IAE_2 (fun w h => va_Nw.use (nB_on w h) (hN w h))
abbrev E_IOB : String := "java/lang/IndexOutOfBoundsException"
set_option maxRecDepth 20000 in
theorem at_IOB_1 : ∀ w ∈ (vx_atS R_J 167 E_IOB NM).filter goodWord, w ∈ lw_tbl := by decide +kernel
set_option maxRecDepth 20000 in
theorem at_IOB_2 : ∀ w ∈ (vx_atS R_J 167 E_IOB NM).filter (fun w => !goodWord w), w ∈ nB := by decide +kernel
set_option maxRecDepth 20000 in
theorem at_IOB_3 : ∀ w ∈ Cond.classLink R_J 163 E_IOB :: Cond.initialized E_IOB :: vx_atS R_J 167 E_IOB NM, vx_ot w = true := by decide +kernel
theorem at_IOB {args : Array Value} {s : State} (hts : ∀ w ∈ tB, w.before args s = true) (hN : aN s) : ∀ w ∈ vx_atS R_J 167 E_IOB NM, w.before args s = true := vx_hat (fun w h => hts w (List.mem_filter.mpr ⟨at_IOB_1 w h, (List.mem_filter.mp h).2⟩)) at_IOB_2 (fun w h => va_Nw.use (nB_on w h) (hN w h))
section JR
variable {p : Program} {l : Launch} {e : Env} {R : Room} {s : State} {m : MethodId} {args : Array Value} {below : List Frame} {meth : Method} {c : Code} {H : Heap} {locs : List Loc} {cells slots : Nat} {Q : State → Prop}
variable {pc : Nat} {ls : Array Slot} {rest : List Value} {cc : ByteArray}
theorem thr_ISE {Qc : Array Value → State → Outcome → State → Prop} {XC : String → State → State → Prop} {free : Addr → Prop} {g : gT} {z is mc ms : Nat} {text : String} {A : Nat → Prop} (hexec : p.tables.exec = Jvm.exec) (hb : c.code = cc) (hl : l.stackTraces = false) (hown : s.vm.findClass R_J = some m.cls) (hts : ∀ w ∈ tB, w.before args s = true) (ha : aM g z s) (hz : ∀ q, A q → z ≤ q) (hstr : (is, text) ∈ sB) (hS : va_S A s.heap H locs) (hsize : ls.size = c.maxLocals) (htab : ∀ x ∈ c.exceptionTable.toList, False)
    (d0 : decode cc pc = .ok (.new 62, 3)) (d3 : decode cc (pc + 3) = .ok (.dup, 1)) (d4 : decode cc (pc + 4) = .ok (.ldc is, 2)) (d6 : decode cc (pc + 6) = .ok (.invokespecial 66, 3)) (d9 : decode cc (pc + 9) = .ok (.athrow, 1))
    (hRf : 6 ≤ R.frames) (hRl : (rest.map fun v => v.category).sum + 82 ≤ R.locals) (hRc : cells + 1 ≤ R.cells) (hRs : slots + 6 ≤ R.slots) (hlocks : meth.locks = false)
    (hx : ∀ t : State, s.vm.Alike t.vm → H.size ≤ t.heap.size → (∀ q : Nat, q < H.size → t.heap[q]? = H[q]?) → XC E_ISE s t) (hf : ∀ z ∈ locs, free z.base) (hc : cells + 1 ≤ mc) (hs : slots + 6 ≤ ms) :
    W p l e R s m args below meth c H locs cells slots (vx_MQ below Qc XC args s mc ms free) (F0 m pc ls rest) := by
  obtain ⟨sa, hsa⟩ := ha.2.2.1.1 _ hstr
  exact vx_throwS hexec hb hl hown (names := NM) (by decide +kernel) (by decide +kernel) (hts _ kw_206) (hts _ kw_9) hsa (at_ISE hts ha.2.1) at_ISE_3 (ha.2.2.2.1.narrow hz) (ha.2.2.2.2.1.narrow hz) hS hsize d0 d3 d4 d6 d9 (fun x h => (htab x h).elim) hRf hRl hRc hRs hlocks hx hf hc hs
theorem thr_IAE {Qc : Array Value → State → Outcome → State → Prop} {XC : String → State → State → Prop} {free : Addr → Prop} {g : gT} {z is mc ms : Nat} {text : String} {A : Nat → Prop} (hexec : p.tables.exec = Jvm.exec) (hb : c.code = cc) (hl : l.stackTraces = false) (hown : s.vm.findClass R_J = some m.cls) (hts : ∀ w ∈ tB, w.before args s = true) (ha : aM g z s) (hz : ∀ q, A q → z ≤ q) (hstr : (is, text) ∈ sB) (hS : va_S A s.heap H locs) (hsize : ls.size = c.maxLocals) (htab : ∀ x ∈ c.exceptionTable.toList, False)
    (d0 : decode cc pc = .ok (.new 97, 3)) (d3 : decode cc (pc + 3) = .ok (.dup, 1)) (d4 : decode cc (pc + 4) = .ok (.ldc is, 2)) (d6 : decode cc (pc + 6) = .ok (.invokespecial 101, 3)) (d9 : decode cc (pc + 9) = .ok (.athrow, 1))
    (hRf : 6 ≤ R.frames) (hRl : (rest.map fun v => v.category).sum + 82 ≤ R.locals) (hRc : cells + 1 ≤ R.cells) (hRs : slots + 6 ≤ R.slots) (hlocks : meth.locks = false)
    (hx : ∀ t : State, s.vm.Alike t.vm → H.size ≤ t.heap.size → (∀ q : Nat, q < H.size → t.heap[q]? = H[q]?) → XC E_IAE s t) (hf : ∀ z ∈ locs, free z.base) (hc : cells + 1 ≤ mc) (hs : slots + 6 ≤ ms) :
    W p l e R s m args below meth c H locs cells slots (vx_MQ below Qc XC args s mc ms free) (F0 m pc ls rest) := by
  obtain ⟨sa, hsa⟩ := ha.2.2.1.1 _ hstr
  exact vx_throwS hexec hb hl hown (names := NM) (by decide +kernel) (by decide +kernel) (hts _ kw_186) (hts _ kw_8) hsa (at_IAE hts ha.2.1) at_IAE_3 (ha.2.2.2.1.narrow hz) (ha.2.2.2.2.1.narrow hz) hS hsize d0 d3 d4 d6 d9 (fun x h => (htab x h).elim) hRf hRl hRc hRs hlocks hx hf hc hs
theorem thr_IOB {Qc : Array Value → State → Outcome → State → Prop} {XC : String → State → State → Prop} {free : Addr → Prop} {g : gT} {z is mc ms : Nat} {text : String} {A : Nat → Prop} (hexec : p.tables.exec = Jvm.exec) (hb : c.code = cc) (hl : l.stackTraces = false) (hown : s.vm.findClass R_J = some m.cls) (hts : ∀ w ∈ tB, w.before args s = true) (ha : aM g z s) (hz : ∀ q, A q → z ≤ q) (hstr : (is, text) ∈ sB) (hS : va_S A s.heap H locs) (hsize : ls.size = c.maxLocals) (htab : ∀ x ∈ c.exceptionTable.toList, False)
    (d0 : decode cc pc = .ok (.new 163, 3)) (d3 : decode cc (pc + 3) = .ok (.dup, 1)) (d4 : decode cc (pc + 4) = .ok (.ldc is, 2)) (d6 : decode cc (pc + 6) = .ok (.invokespecial 167, 3)) (d9 : decode cc (pc + 9) = .ok (.athrow, 1))
    (hRf : 6 ≤ R.frames) (hRl : (rest.map fun v => v.category).sum + 82 ≤ R.locals) (hRc : cells + 1 ≤ R.cells) (hRs : slots + 6 ≤ R.slots) (hlocks : meth.locks = false)
    (hx : ∀ t : State, s.vm.Alike t.vm → H.size ≤ t.heap.size → (∀ q : Nat, q < H.size → t.heap[q]? = H[q]?) → XC E_IOB s t) (hf : ∀ z ∈ locs, free z.base) (hc : cells + 1 ≤ mc) (hs : slots + 6 ≤ ms) :
    W p l e R s m args below meth c H locs cells slots (vx_MQ below Qc XC args s mc ms free) (F0 m pc ls rest) := by
  obtain ⟨sa, hsa⟩ := ha.2.2.1.1 _ hstr
  exact vx_throwS hexec hb hl hown (names := NM) (by decide +kernel) (by decide +kernel) (hts _ kw_91) (hts _ kw_11) hsa (at_IOB hts ha.2.1) at_IOB_3 (ha.2.2.2.1.narrow hz) (ha.2.2.2.2.1.narrow hz) hS hsize d0 d3 d4 d6 d9 (fun x h => (htab x h).elim) hRf hRl hRc hRs hlocks hx hf hc hs
theorem ja_ald {D : va_G} {cl : List vw_C} {ws : va_W} {tys : List (ClassId × FieldType)} {a : Nat} (hexec : p.tables.exec = Jvm.exec) (hb : c.code = cc) (hK : va_K D cl tys s) (hP : va_P D cl ws H) (q0 t0 : Nat) {cA : ClassId} {n : Nat} {f : Nat → Int32} (ha : ws[q0]? = some (a, .inl (cA, n, .inl f))) (ht : tys[t0]? = some (cA, .int)) {k : Nat} (hk : k < n) (hn : n < 2 ^ 31) (hdg : decode cc pc = .ok (.iaload, 1))
    (kk : W p l e R s m args below meth c H locs cells slots Q (F0 m (pc + 1) ls (.int (f k) :: rest))) : W p l e R s m args below meth c H locs cells slots Q (F0 m pc ls (.int (nI k) :: .ref a :: rest)) := by
  refine va_iald hexec hb hK hP q0 t0 ha ht (vp_in_nI hk hn) hdg ?_
  rw [nI_clamp (by omega)]; exact kk
theorem ja_lald {D : va_G} {cl : List vw_C} {ws : va_W} {tys : List (ClassId × FieldType)} {a : Nat} (hexec : p.tables.exec = Jvm.exec) (hb : c.code = cc) (hK : va_K D cl tys s) (hP : va_P D cl ws H) (q0 t0 : Nat) {cA : ClassId} {n : Nat} {f : Nat → Int64} (ha : ws[q0]? = some (a, .inl (cA, n, .inr (.inl f)))) (ht : tys[t0]? = some (cA, .long)) {k : Nat} (hk : k < n) (hn : n < 2 ^ 31) (hdg : decode cc pc = .ok (.laload, 1))
    (kk : W p l e R s m args below meth c H locs cells slots Q (F0 m (pc + 1) ls (.long (f k) :: rest))) : W p l e R s m args below meth c H locs cells slots Q (F0 m pc ls (.int (nI k) :: .ref a :: rest)) := by
  refine va_lald hexec hb hK hP q0 t0 ha ht (vp_in_nI hk hn) hdg ?_
  rw [nI_clamp (by omega)]; exact kk
theorem jv_iadd (hexec : p.tables.exec = Jvm.exec) (hb : c.code = cc) {a b : Nat} (hdg : decode cc pc = .ok (.iadd, 1)) (k : W p l e R s m args below meth c H locs cells slots Q (F0 m (pc + 1) ls (.int (nI (a + b)) :: rest))) : W p l e R s m args below meth c H locs cells slots Q (F0 m pc ls (.int (nI b) :: .int (nI a) :: rest)) :=
  lv_iadd hexec hb hdg (by rw [nI_add]; exact k)
theorem jv_imul (hexec : p.tables.exec = Jvm.exec) (hb : c.code = cc) {a b : Nat} (hdg : decode cc pc = .ok (.imul, 1)) (k : W p l e R s m args below meth c H locs cells slots Q (F0 m (pc + 1) ls (.int (nI (a * b)) :: rest))) : W p l e R s m args below meth c H locs cells slots Q (F0 m pc ls (.int (nI b) :: .int (nI a) :: rest)) :=
  lv_imul hexec hb hdg (by rw [pk_mul]; exact k)
theorem jv_isub (hexec : p.tables.exec = Jvm.exec) (hb : c.code = cc) {a b : Nat} (h : b ≤ a) (hdg : decode cc pc = .ok (.isub, 1)) (k : W p l e R s m args below meth c H locs cells slots Q (F0 m (pc + 1) ls (.int (nI (a - b)) :: rest))) : W p l e R s m args below meth c H locs cells slots Q (F0 m pc ls (.int (nI b) :: .int (nI a) :: rest)) :=
  lv_isub hexec hb hdg (by rw [pk_sub h]; exact k)
theorem jv_icmp_ge (hexec : p.tables.exec = Jvm.exec) (hb : c.code = cc) {a b : Nat} {off : Int} {tgt : Nat} (ha : a < 2 ^ 31) (hb2 : b < 2 ^ 31) (hdg : decode cc pc = .ok (.if_icmp .ge off, 3)) (ht : (pc : Int) + off = (tgt : Int))
    (kt : b ≤ a → W p l e R s m args below meth c H locs cells slots Q (F0 m tgt ls rest)) (kf : a < b → W p l e R s m args below meth c H locs cells slots Q (F0 m (pc + 3) ls rest)) : W p l e R s m args below meth c H locs cells slots Q (F0 m pc ls (.int (nI b) :: .int (nI a) :: rest)) :=
  lv_icmp_ge hexec hb hdg ht (fun h => kt ((nI_leI (by omega) (by omega)).mp h)) (fun h => kf (Nat.not_le.mp fun q => h ((nI_leI (by omega) (by omega)).mpr q)))
theorem jv_icmp_le (hexec : p.tables.exec = Jvm.exec) (hb : c.code = cc) {a b : Nat} {off : Int} {tgt : Nat} (ha : a < 2 ^ 31) (hb2 : b < 2 ^ 31) (hdg : decode cc pc = .ok (.if_icmp .le off, 3)) (ht : (pc : Int) + off = (tgt : Int))
    (kt : a ≤ b → W p l e R s m args below meth c H locs cells slots Q (F0 m tgt ls rest)) (kf : b < a → W p l e R s m args below meth c H locs cells slots Q (F0 m (pc + 3) ls rest)) : W p l e R s m args below meth c H locs cells slots Q (F0 m pc ls (.int (nI b) :: .int (nI a) :: rest)) :=
  lv_icmp_le hexec hb hdg ht (fun h => kt ((nI_leI (by omega) (by omega)).mp h)) (fun h => kf (Nat.not_le.mp fun q => h ((nI_leI (by omega) (by omega)).mpr q)))
theorem jv_icmp_lt (hexec : p.tables.exec = Jvm.exec) (hb : c.code = cc) {a b : Nat} {off : Int} {tgt : Nat} (ha : a < 2 ^ 31) (hb2 : b < 2 ^ 31) (hdg : decode cc pc = .ok (.if_icmp .lt off, 3)) (ht : (pc : Int) + off = (tgt : Int))
    (kt : a < b → W p l e R s m args below meth c H locs cells slots Q (F0 m tgt ls rest)) (kf : b ≤ a → W p l e R s m args below meth c H locs cells slots Q (F0 m (pc + 3) ls rest)) : W p l e R s m args below meth c H locs cells slots Q (F0 m pc ls (.int (nI b) :: .int (nI a) :: rest)) :=
  lv_icmp_lt hexec hb hdg ht (fun h => kt ((nI_ltI (by omega) (by omega)).mp h)) (fun h => kf (Nat.not_lt.mp fun q => h ((nI_ltI (by omega) (by omega)).mpr q)))
theorem jv_icmp_gt (hexec : p.tables.exec = Jvm.exec) (hb : c.code = cc) {a b : Nat} {off : Int} {tgt : Nat} (ha : a < 2 ^ 31) (hb2 : b < 2 ^ 31) (hdg : decode cc pc = .ok (.if_icmp .gt off, 3)) (ht : (pc : Int) + off = (tgt : Int))
    (kt : b < a → W p l e R s m args below meth c H locs cells slots Q (F0 m tgt ls rest)) (kf : a ≤ b → W p l e R s m args below meth c H locs cells slots Q (F0 m (pc + 3) ls rest)) : W p l e R s m args below meth c H locs cells slots Q (F0 m pc ls (.int (nI b) :: .int (nI a) :: rest)) :=
  lv_icmp_gt hexec hb hdg ht (fun h => kt ((nI_ltI (by omega) (by omega)).mp h)) (fun h => kf (Nat.not_lt.mp fun q => h ((nI_ltI (by omega) (by omega)).mpr q)))
theorem jv_icmp_eq (hexec : p.tables.exec = Jvm.exec) (hb : c.code = cc) {a b : Nat} {off : Int} {tgt : Nat} (ha : a < 2 ^ 31) (hb2 : b < 2 ^ 31) (hdg : decode cc pc = .ok (.if_icmp .eq off, 3)) (ht : (pc : Int) + off = (tgt : Int))
    (kt : a = b → W p l e R s m args below meth c H locs cells slots Q (F0 m tgt ls rest)) (kf : a ≠ b → W p l e R s m args below meth c H locs cells slots Q (F0 m (pc + 3) ls rest)) : W p l e R s m args below meth c H locs cells slots Q (F0 m pc ls (.int (nI b) :: .int (nI a) :: rest)) :=
  lv_icmp_eq hexec hb hdg ht (fun h => kt ((nI_eq (by omega) (by omega)).mp h)) (fun h => kf (fun q => h ((nI_eq (by omega) (by omega)).mpr q)))
theorem jv_icmp_ne (hexec : p.tables.exec = Jvm.exec) (hb : c.code = cc) {a b : Nat} {off : Int} {tgt : Nat} (ha : a < 2 ^ 31) (hb2 : b < 2 ^ 31) (hdg : decode cc pc = .ok (.if_icmp .ne off, 3)) (ht : (pc : Int) + off = (tgt : Int))
    (kt : a ≠ b → W p l e R s m args below meth c H locs cells slots Q (F0 m tgt ls rest)) (kf : a = b → W p l e R s m args below meth c H locs cells slots Q (F0 m (pc + 3) ls rest)) : W p l e R s m args below meth c H locs cells slots Q (F0 m pc ls (.int (nI b) :: .int (nI a) :: rest)) :=
  lv_icmp_ne hexec hb hdg ht (fun h => kt (fun q => h ((nI_eq (by omega) (by omega)).mpr q))) (fun h => kf ((nI_eq (by omega) (by omega)).mp h))
theorem ja_aldq {D : va_G} {cl : List vw_C} {ws : va_W} {tys : List (ClassId × FieldType)} {a : Nat} (hexec : p.tables.exec = Jvm.exec) (hb : c.code = cc) (hK : va_K D cl tys s) (hP : va_P D cl ws H) (q0 t0 : Nat) {cA : ClassId} {C : String} {n : Nat} {f : Nat → Option Nat} (ha : ws[q0]? = some (a, .inl (cA, n, .inr (.inr (.inr (.inr f)))))) (ht : tys[t0]? = some (cA, .object C)) {k : Nat} (hk : k < n) (hn : n < 2 ^ 31) (hdg : decode cc pc = .ok (.aaload, 1))
    (kk : W p l e R s m args below meth c H locs cells slots Q (F0 m (pc + 1) ls (va_rf (f k) :: rest))) : W p l e R s m args below meth c H locs cells slots Q (F0 m pc ls (.int (nI k) :: .ref a :: rest)) := by
  refine va_aldq hexec hb hK hP q0 t0 ha ht (vp_in_nI hk hn) hdg ?_
  rw [nI_clamp (by omega)]; exact kk
theorem ja_copy {D : va_G} {cl : List vw_C} {ws : va_W} {tys : List (ClassId × FieldType)} {a : Nat} {A : Nat → Prop} {H0 : Heap} (hexec : p.tables.exec = Jvm.exec) (hb : c.code = cc) (hml : c.maxLocals = ls.size) {own : String} {index : Nat} (hown : s.vm.findClass own = some m.cls) (hlink : (Cond.methodLink own index arraycopyName).before args s = true) (hnat : (Cond.native arraycopyName).before args s = true) (hstat : (Cond.static arraycopyName).before args s = true) (hini : (Cond.initialized "java/lang/System").before args s = true)
    (hK : va_K D cl tys s) (hP : va_P D cl ws H) (hD : va_D A ws) (hS : va_S A H0 H locs) (q0 q1 t0 t1 : Nat) {a0 : Nat} {c0 c1 : ClassId} {n0 n1 : Nat} {f g : Nat → Int32} (ha0 : ws[q0]? = some (a0, .inl (c0, n0, .inl f))) (ha1 : ws[q1]? = some (a, .inl (c1, n1, .inl g))) (ht0 : tys[t0]? = some (c0, .int)) (ht1 : tys[t1]? = some (c1, .int))
    {sp dp n : Nat} (h4 : sp + n ≤ n0) (h5 : dp + n ≤ n1) (h6 : n0 < 2 ^ 31) (h7 : n1 < 2 ^ 31)
    (hframes : 1 ≤ R.frames) (hlocals : (rest.map fun v => v.category).sum + (nativeFrameWords "java/lang/System" "arraycopy" 5 + 11) ≤ R.locals) (hdg : decode cc pc = .ok (.invokestatic index, 3))
    (kk : ∀ (H1 : Heap) (locs1 : List Loc), va_P D cl (ws.set q1 (a, .inl (c1, n1, .inl (va_cpy f g sp dp n)))) H1 → va_D A (ws.set q1 (a, .inl (c1, n1, .inl (va_cpy f g sp dp n)))) → va_S A H0 H1 locs1 → W p l e R s m args below meth c H1 locs1 cells slots Q (F0 m (pc + 3) ls rest)) : W p l e R s m args below meth c H locs cells slots Q (F0 m pc ls (.int (nI n) :: .int (nI dp) :: .ref a :: .int (nI sp) :: .ref a0 :: rest)) := by
  have e1 : (nI sp).toNatClampNeg = sp := nI_clamp (by omega)
  have e2 : (nI dp).toNatClampNeg = dp := nI_clamp (by omega)
  have e3 : (nI n).toNatClampNeg = n := nI_clamp (by omega)
  refine va_copyi hexec hb hml hown hlink hnat hstat hini hK hP hD hS q0 q1 t0 t1 ha0 ha1 ht0 ht1 rfl (nI_pos (by omega)) (nI_pos (by omega)) (nI_pos (by omega)) (by rw [e1, e3]; exact h4) (by rw [e2, e3]; exact h5) (fun _ _ => rfl) hframes hlocals hdg ?_
  rw [e1, e2, e3]; exact kk
theorem jv_irem (hexec : p.tables.exec = Jvm.exec) (hb : c.code = cc) {a b : Nat} (ha : a < 2 ^ 31) (h0 : 0 < b) (hb2 : b < 2 ^ 31) (hdg : decode cc pc = .ok (.irem, 1)) (k : W p l e R s m args below meth c H locs cells slots Q (F0 m (pc + 1) ls (.int (nI (a % b)) :: rest))) : W p l e R s m args below meth c H locs cells slots Q (F0 m pc ls (.int (nI b) :: .int (nI a) :: rest)) :=
  lv_irem hexec hb hdg (nI_ne0 h0 hb2) (by rw [pk_rem ha h0 hb2]; exact k)
theorem jv_idiv (hexec : p.tables.exec = Jvm.exec) (hb : c.code = cc) {a b : Nat} (ha : a < 2 ^ 31) (h0 : 0 < b) (hb2 : b < 2 ^ 31) (hdg : decode cc pc = .ok (.idiv, 1)) (k : W p l e R s m args below meth c H locs cells slots Q (F0 m (pc + 1) ls (.int (nI (a / b)) :: rest))) : W p l e R s m args below meth c H locs cells slots Q (F0 m pc ls (.int (nI b) :: .int (nI a) :: rest)) :=
  lv_idiv hexec hb hdg (nI_ne0 h0 hb2) (by rw [pk_div ha h0 hb2]; exact k)
theorem W.join {pc2 : Nat} {X : Array Slot → List Loc → Heap → Prop} {g : JFrame} (k1 : ∀ (ls : Array Slot) (locs : List Loc) (H : Heap), X ls locs H → W p l e R s m args below meth c H locs cells slots Q (F0 m pc2 ls [])) (k2 : (∀ (ls : Array Slot) (locs : List Loc) (H : Heap), X ls locs H → W p l e R s m args below meth c H locs cells slots Q (F0 m pc2 ls [])) → W p l e R s m args below meth c H locs cells slots Q g) : W p l e R s m args below meth c H locs cells slots Q g := k2 k1
theorem W.loop {pc : Nat} {ls : Array Slot} (N : Nat) (X : Nat → Array Slot → List Loc → Heap → Prop) (i0 : Nat) (h0 : X i0 ls locs H) (step : ∀ n : Nat, (∀ (i : Nat) (ls : Array Slot) (locs : List Loc) (H : Heap), N + 1 ≤ i + n → X i ls locs H → W p l e R s m args below meth c H locs cells slots Q (F0 m pc ls [])) → ∀ (i : Nat) (ls : Array Slot) (locs : List Loc) (H : Heap), N + 1 ≤ i + (n + 1) → i ≤ N → X i ls locs H → W p l e R s m args below meth c H locs cells slots Q (F0 m pc ls [])) (hN : ∀ (i : Nat) (ls : Array Slot) (locs : List Loc) (H : Heap), X i ls locs H → i ≤ N) : W p l e R s m args below meth c H locs cells slots Q (F0 m pc ls []) := by
  have key : ∀ (n i : Nat) (ls : Array Slot) (locs : List Loc) (H : Heap), N + 1 ≤ i + n → X i ls locs H → W p l e R s m args below meth c H locs cells slots Q (F0 m pc ls []) := by
    intro n
    induction n with
    | zero => intro i ls locs H h1 h2; exact absurd (hN i ls locs H h2) (by omega)
    | succ n ih => intro i ls locs H h1 h2; exact step n ih i ls locs H h1 (hN i ls locs H h2) h2
  exact key (N + 1) i0 ls locs H (by omega) h0
theorem W.ofL {g : JFrame} {A : Nat → Prop} {H0 : Heap} (hS : va_S A H0 H locs) (k : ∀ locs : List Loc, va_S A H0 H locs → W p l e R s m args below meth c H locs cells slots Q g) : W p l e R s m args below meth c H locs cells slots Q g := k locs hS
theorem W.ofH {g : JFrame} {A : Nat → Prop} {H0 : Heap} {D : va_G} {cl : List vw_C} {ws : va_W} (hP : va_P D cl ws H) (hS : va_S A H0 H locs) (k : ∀ (H : Heap) (locs : List Loc), va_P D cl ws H → va_S A H0 H locs → W p l e R s m args below meth c H locs cells slots Q g) : W p l e R s m args below meth c H locs cells slots Q g := k H locs hP hS
theorem ja_ast {D : va_G} {cl : List vw_C} {ws : va_W} {tys : List (ClassId × FieldType)} {a : Nat} {A : Nat → Prop} {H0 : Heap} (hexec : p.tables.exec = Jvm.exec) (hb : c.code = cc) (hK : va_K D cl tys s) (hP : va_P D cl ws H) (hD : va_D A ws) (hS : va_S A H0 H locs) (q0 t0 : Nat) {cA : ClassId} {n : Nat} {f : Nat → Int32} (ha : ws[q0]? = some (a, .inl (cA, n, .inl f))) (ht : tys[t0]? = some (cA, .int)) {k : Nat} {x : Int32} (hk : k < n) (hn : n < 2 ^ 31) (hdg : decode cc pc = .ok (.iastore, 1))
    (kk : ∀ (H1 : Heap) (locs1 : List Loc), va_P D cl (ws.set q0 (a, .inl (cA, n, .inl (upd f k x)))) H1 → va_D A (ws.set q0 (a, .inl (cA, n, .inl (upd f k x)))) → va_S A H0 H1 locs1 → W p l e R s m args below meth c H1 locs1 cells slots Q (F0 m (pc + 1) ls rest)) : W p l e R s m args below meth c H locs cells slots Q (F0 m pc ls (.int x :: .int (nI k) :: .ref a :: rest)) := by
  have e : (nI k).toNatClampNeg = k := nI_clamp (by omega)
  refine va_iast hexec hb hK hP hD hS q0 t0 ha ht (vp_in_nI hk hn) hdg ?_
  rw [e]; exact kk
theorem ja_last {D : va_G} {cl : List vw_C} {ws : va_W} {tys : List (ClassId × FieldType)} {a : Nat} {A : Nat → Prop} {H0 : Heap} (hexec : p.tables.exec = Jvm.exec) (hb : c.code = cc) (hK : va_K D cl tys s) (hP : va_P D cl ws H) (hD : va_D A ws) (hS : va_S A H0 H locs) (q0 t0 : Nat) {cA : ClassId} {n : Nat} {f : Nat → Int64} (ha : ws[q0]? = some (a, .inl (cA, n, .inr (.inl f)))) (ht : tys[t0]? = some (cA, .long)) {k : Nat} {x : Int64} (hk : k < n) (hn : n < 2 ^ 31) (hdg : decode cc pc = .ok (.lastore, 1))
    (kk : ∀ (H1 : Heap) (locs1 : List Loc), va_P D cl (ws.set q0 (a, .inl (cA, n, .inr (.inl (vp_updL f k x))))) H1 → va_D A (ws.set q0 (a, .inl (cA, n, .inr (.inl (vp_updL f k x))))) → va_S A H0 H1 locs1 → W p l e R s m args below meth c H1 locs1 cells slots Q (F0 m (pc + 1) ls rest)) : W p l e R s m args below meth c H locs cells slots Q (F0 m pc ls (.long x :: .int (nI k) :: .ref a :: rest)) := by
  have e : (nI k).toNatClampNeg = k := nI_clamp (by omega)
  refine va_last hexec hb hK hP hD hS q0 t0 ha ht (vp_in_nI hk hn) hdg ?_
  rw [e]; exact kk
end JR
abbrev mxI (x y : Int32) : Int32 := if x < y then y else x
abbrev mnI (x y : Int32) : Int32 := if y < x then y else x
theorem mn_le {a b : Nat} (h : a ≤ b) (hb : b < 2 ^ 31) : mnI (nI a) (nI b) = nI a := if_neg (nI_nlt h hb)
theorem mn_ge {a b : Nat} (h : b ≤ a) (ha : a < 2 ^ 31) : mnI (nI a) (nI b) = nI b := by
  by_cases q : b < a
  · exact if_pos (nI_lt q ha)
  · rw [show a = b by omega]; exact if_neg (nI_nlt (Nat.le_refl _) (by omega))
def pB (g : gT) (z : Nat) (H0 : Heap) (F : Prop) : State → Prop := fun U => U.heap = H0 ∧ aM g z U ∧ F
theorem pB.blind {av : List Value} {g : gT} {z : Nat} {H0 : Heap} {F : Prop} : FrameBlind (va_Pc av (pB g z H0 F)) := fun a U fr mk h => ⟨h.1, h.2.1, aM.same (u := U) (U := U.calling fr mk a) rfl rfl h.2.2.1, h.2.2.2⟩
theorem pre_S {av : List Value} {g : gT} {z : Nat} {s : State} {A : Nat → Prop} {H : Heap} {locs : List Loc} {F : Prop} (hS : va_S A s.heap H locs) (hz : ∀ q, A q → z ≤ q) (ha : aM g z s) (hF : F) : PreS s H (va_Pc av (pB g z H F)) av := ⟨pB.blind, fun U hU hW => ⟨rfl, hU, aM.warm hS hz hU hW ha, hF⟩⟩
theorem pre_V {av : List Value} {b : Addr} {C : String} {g : gT} {z : Nat} {s : State} {A : Nat → Prop} {H : Heap} {locs : List Loc} {F : Prop} (hS : va_S A s.heap H locs) (hz : ∀ q, A q → z ≤ q) (ha : aM g z s) (hr : ∃ cell : Cell, H[b]? = some cell ∧ cell.vm.isStatics = false ∧ s.vm.findClass C = some cell.cls) (hF : F) : PreV s H C b (va_Pc (.ref b :: av) (pB g z H F)) av := ⟨pB.blind, hr, fun U hU hW => ⟨rfl, hU, aM.warm hS hz hU hW ha, hF⟩⟩
/-- the heap is as it was, and the answer is .. -/
abbrev qI (v : Int32) (H0 : Heap) := va_Qi (fun r (_ : Unit) => r = v) (fun _ t => t.heap = H0) nA
abbrev qL (v : Int64) (H0 : Heap) := va_Ql (fun r (_ : Unit) => r = v) (fun _ t => t.heap = H0) nA
abbrev qV (H0 : Heap) (F : Prop) := va_Qv (fun (_ : Unit) => F) (fun _ t => t.heap = H0) nA
/-- old cells are as they were -/
def kpt (H0 : Heap) (t : State) : Prop := H0.size ≤ t.heap.size ∧ ∀ q : Nat, q < H0.size → t.heap[q]? = H0[q]?
/-- it throws one of which xc speaks; old cells are as they were -/
abbrev xX (xc : String → Prop) (H0 : Heap) := vx_X (fun (_ : Unit) => True) (fun E _ t => xc E ∧ kpt H0 t) (zA H0.size)
theorem va_D.re {A : Nat → Prop} {ws ws' : va_W} (h : va_D A ws) (L : List Nat) (e1 : ws.map Prod.fst = L) (e2 : ws'.map Prod.fst = L) : va_D A ws' := by
  have e : ws'.map Prod.fst = ws.map Prod.fst := e2.trans e1.symm
  have key : ∀ (k : Nat) (q : Nat × va_E), ws'[k]? = some q → ∃ q2 : Nat × va_E, ws[k]? = some q2 ∧ q2.1 = q.1 := fun k q hk => by
    have h1 : (ws'.map Prod.fst)[k]? = some q.1 := by rw [List.getElem?_map, hk]; rfl
    rw [e, List.getElem?_map] at h1
    cases h2 : ws[k]? with
    | none => rw [h2] at h1; cases h1
    | some q2 => rw [h2] at h1; exact ⟨q2, rfl, Option.some.inj h1⟩
  refine ⟨fun i j p q hp hq hpq => ?_, fun k q hk => ?_⟩
  · obtain ⟨p2, h1, h2⟩ := key i p hp
    obtain ⟨q2, h3, h4⟩ := key j q hq
    exact h.1 i j p2 q2 h1 h3 (by rw [h2, h4, hpq])
  · obtain ⟨q2, h1, h2⟩ := key k q hk
    exact h2 ▸ h.2 k q2 h1
theorem aA_z {z sz : Nat} {ws : va_W} (hD : va_D (zA z) ws) (h : z ≤ sz) : ∀ q, va_A ws sz q → z ≤ q := fun q hq => hq.elim (fun ⟨k, e, hk⟩ => hD.2 k (q, e) hk) (fun h2 => Nat.le_trans h h2)
theorem kpt.mv {H0 : Heap} {t t2 : State} (e : t.heap = t2.heap) (h : kpt H0 t) : kpt H0 t2 := ⟨e ▸ h.1, fun q hq => e ▸ h.2 q hq⟩
abbrev qR (P : Nat → Prop) (H0 : Heap) := va_Qr (fun (_ : Unit) => True) (fun _ a t => P a ∧ t.heap = H0) nA
section VR
variable {p : Program} {l : Launch} {e : Env} {R : Room} {s : State} {m : MethodId} {args : Array Value} {below : List Frame} {meth : Method} {c : Code} {H : Heap} {locs : List Loc} {cells slots : Nat} {Q : State → Prop}
variable {pc : Nat} {ls : Array Slot} {rest st0 : List Value} {a : Array Value} {A0 A1 : Nat → Prop} {H0 : Heap} {mc ms : Nat} {free : Addr → Prop}
theorem vx_callr {S SX : Type} {post : S → Prop} {px : SX → Prop} {B : S → Nat → State → Prop} {BX : String → SX → State → Prop} {AX : Nat → Prop} (hr : vx_Run p l e R s m args below meth c H locs cells slots mc ms (F0 m pc ls st0) rest (va_Qr post B A1 a) (vx_X px BX AX) free) (hS : va_S A0 H0 H locs) (hA : ∀ q, q < H.size → A1 q → A0 q) (hf : ∀ q, free q → A0 q) (hAX : ∀ q, q < H.size → AX q → A0 q)
    (kx : ∀ (E : String) (ce : Cell) (q9 : Addr) (u : SX) (t : State) (H1 : Heap) (locs1 : List Loc), t.heap = H1 → s.vm.Alike t.vm → px u → BX E u t → H.size ≤ H1.size → (∀ q : Nat, q < H.size → ¬ AX q → H1[q]? = H[q]?) → va_S A0 H0 H1 locs1 → H1[q9]? = some ce → ce.vm = .none → s.vm.findClass E = some ce.cls → vx_W p l e R s m args below meth c H1 locs1 (cells + mc) (slots + ms) Q (F0 m pc ls rest) q9)
    (kk : ∀ (r : Nat) (u : S) (t : State) (H1 : Heap) (locs1 : List Loc), t.heap = H1 → s.vm.Alike t.vm → post u → B u r t → H.size ≤ H1.size → (∀ q : Nat, q < H.size → ¬ A1 q → H1[q]? = H[q]?) → va_S A0 H0 H1 locs1 → W p l e R s m args below meth c H1 locs1 (cells + mc) (slots + ms) Q (F0 m (pc + 3) ls (.ref r :: rest))) : W p l e R s m args below meth c H locs cells slots Q (F0 m pc ls st0) := by
  intro T hT X
  rcases hr T hT X with ⟨v, st₀, t, T', L, h0, X', hL, e1, e2, ⟨⟨u, r, hv, hp, hb⟩, hF⟩, st⟩ | ⟨q, st₀, t, T', L, E, ce, h0, X', hL, e1, e2, ⟨u, hp, hb, hF⟩, hce, hcv, hcl, st⟩
  · cases hv
    obtain ⟨k1, k2, k3⟩ := vx_keep h0 e1 hS hA hf hL hF
    obtain ⟨t2, a1, b1⟩ := kk r u t T'.heap (locs ++ L) e1.symm (by rw [← e2]; exact X'.warmed.alike) hp hb k1 k2 k3 T' rfl X'
    exact ⟨t2, st t2 a1, b1⟩
  · obtain ⟨k1, k2, k3⟩ := vx_keep h0 e1 hS hAX hf hL hF
    obtain ⟨t2, a1, b1⟩ := kx E ce q u t T'.heap (locs ++ L) e1.symm (by rw [← e2]; exact X'.warmed.alike) hp hb k1 k2 k3 (by rw [e1]; exact hce) hcv hcl T' rfl X'
    exact ⟨t2, st.trans a1, b1⟩
end VR
theorem va_S.nA_F {s t : State} {H : Heap} {locs : List Loc} (h : va_S nA s.heap H locs) (ht : t.heap = H) : va_F nA s t := h.F ht
theorem bI_01 (b : Bool) : narrow .boolean (.int (if b then 1 else 0)) = .int (if b then 1 else 0) := by cases b <;> rfl
theorem bI_p (q : Prop) [Decidable q] : narrow .boolean (.int (if q then 1 else 0)) = .int (if q then 1 else 0) := by by_cases h : q <;> simp only [h, if_true, if_false] <;> rfl
