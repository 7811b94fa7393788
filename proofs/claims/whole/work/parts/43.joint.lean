/-! What a joint does, in boxes and lists alone: the same for both sides. -/
/-- the common box of two stocks -/
def cmB (a b : Bx) : Bx := (mxI a.1 b.1, mxI a.2.1 b.2.1, mxI a.2.2.1 b.2.2.1, mnI a.2.2.2.1 b.2.2.2.1, mnI a.2.2.2.2.1 b.2.2.2.2.1, mnI a.2.2.2.2.2 b.2.2.2.2.2)
abbrev hasC (c : Bx) : Prop := ¬ c.2.2.2.1 ≤ c.1 ∧ ¬ c.2.2.2.2.1 ≤ c.2.1 ∧ ¬ c.2.2.2.2.2 ≤ c.2.2.1
theorem nle_toInt {a b : Int32} (h : ¬ a ≤ b) : b.toInt < a.toInt := Int32.lt_iff_toInt_lt.mp (Int32.not_le.mp h)
theorem cmB_ok {a b : Bx} (ha : okB a) (hb : okB b) (h : hasC (cmB a b)) : okB (cmB a b) := by
  obtain ⟨h0, h1, h2⟩ := h
  have h0 := nle_toInt h0
  have h1 := nle_toInt h1
  have h2 := nle_toInt h2
  unfold okB at *
  unfold cmB at *
  dsimp only at *
  rw [mx_toInt, mn_toInt] at h0 h1 h2
  rw [mx_toInt, mn_toInt, mx_toInt, mn_toInt, mx_toInt, mn_toInt]
  omega
theorem cmF_gb (cm : Nat → Int32) (x0 X0 x1 X1 x2 X2 : Int32) : gb (cmF cm x0 X0 x1 X1 x2 X2) 0 = (x0, x1, x2, X0, X1, X2) := rfl
def loB (c : Bx) (k : Nat) : Int32 := if k = 0 then c.1 else if k = 1 then c.2.1 else c.2.2.1
def hiB (c : Bx) (k : Nat) : Int32 := if k = 0 then c.2.2.2.1 else if k = 1 then c.2.2.2.2.1 else c.2.2.2.2.2
def szB (c : Bx) (k : Nat) : Nat := ((hiB c k).toInt - (loB c k).toInt).toNat
theorem cm_lo (cm : Nat → Int32) {k : Nat} (hk : k < 3) : cm k = loB (gb cm 0) k := by
  rcases (show k = 0 ∨ k = 1 ∨ k = 2 by omega) with rfl | rfl | rfl <;> rfl
theorem cm_hi (cm : Nat → Int32) {k : Nat} (hk : k < 3) : cm (k + 3) = hiB (gb cm 0) k := by
  rcases (show k = 0 ∨ k = 1 ∨ k = 2 by omega) with rfl | rfl | rfl <;> rfl
theorem okB_at {c : Bx} (h : okB c) (k : Nat) : -4000 ≤ (loB c k).toInt ∧ (loB c k).toInt < (hiB c k).toInt ∧ (hiB c k).toInt ≤ 4000 := by
  unfold loB hiB
  by_cases h0 : k = 0
  · rw [if_pos h0, if_pos h0]; exact h.1
  · rw [if_neg h0, if_neg h0]
    by_cases h1 : k = 1
    · rw [if_pos h1, if_pos h1]; exact h.2.1
    · rw [if_neg h1, if_neg h1]; exact h.2.2
theorem szB_b {c : Bx} (h : okB c) (k : Nat) : 1 ≤ szB c k ∧ szB c k ≤ 8000 := by
  have := okB_at h k
  unfold szB; omega
theorem szB_sub {c : Bx} (h : okB c) (k : Nat) : hiB c k - loB c k = nI (szB c k) := by
  have h1 := okB_at h k
  have h2 := szB_b h k
  apply Int32.toInt.inj
  rw [sub_toInt (by omega) (by omega), nI_Int (by omega)]
  unfold szB; omega
theorem cmOk_of {cm : Nat → Int32} {c : Bx} {k : Nat} (e : gb cm 0 = c) (h : okB c) (hk : k < 3) : cmOk cm k (szB c k) := by
  refine ⟨by rw [e]; exact h, hk, ?_, (szB_b h k).1, (szB_b h k).2⟩
  rw [cm_lo cm hk, cm_hi cm hk, e]; exact szB_sub h k
def lbB (c : Bx) (k : Nat) (mo : Int32) (m0 m1 : Nat) : Bx := slb c k (mxI (loB c k) (loB c k + nI m0 - mo)) (mnI (hiB c k) (loB c k + nI m1 + mo))
theorem lb_B {cm : Nat → Int32} {c : Bx} {k : Nat} (e : gb cm 0 = c) (hk : k < 3) (mo : Int32) (m0 m1 : Nat) : lb cm k mo m0 m1 = lbB c k mo m0 m1 := by
  unfold lb lbB; rw [cm_lo cm hk, cm_hi cm hk, e]
def splB (c : Bx) (k : Nat) (cl : Int32) (s0 : Bool) (ms : Nat → Nat) (n : Nat) : List (Bool × Bx) := (List.range n).map (fun i => (tb s0 i, lbB c k (if tb s0 i = true then cl else nI 0) (ms i) (ms (i + 1))))
theorem spl_B {cm : Nat → Int32} {c : Bx} {k : Nat} (e : gb cm 0 = c) (hk : k < 3) (cl : Int32) (s0 : Bool) (ms : Nat → Nat) (n : Nat) : spl cm k cl s0 ms n = splB c k cl s0 ms n := by
  unfold spl splB
  refine List.map_congr_left fun i _ => ?_
  unfold spF; rw [lb_B e hk]
/-- the cuts of a joint, for both parts by turns -/
def jSq (c : Bx) (k : Nat) (cl : Int32) (kd w : Nat) (q : List Bx × List Bx) : Option (List Bx × List Bx) := seq2 (splB c k cl (kd != 0 && kd != 3) (mkN kd (szB c k) w) (spN kd (szB c k) w)) q
theorem jSq_of {cm : Nat → Int32} {c : Bx} {k : Nat} (e : gb cm 0 = c) (hk : k < 3) (cl : Int32) (kd w : Nat) (q : List Bx × List Bx) : seq2 (spl cm k cl (kd != 0 && kd != 3) (mkN kd (szB c k) w) (spN kd (szB c k) w)) q = jSq c k cl kd w q := by
  unfold jSq; rw [spl_B e hk]
/-- a joint's code (0 no throw), its answer, the parts' new lists -/
def jG (nj kd k w : Nat) (c : Bx) (cl : Int32) (q : List Bx × List Bx) : Nat × Int32 × Option (List Bx × List Bx) :=
  if ¬ nj < 12 ∨ ¬ hasC c ∨ (kd = 2 ∧ ¬ (szB c k + w - 1) / w ≤ 8) then (3, nI 0, none)
  else if szB c k < lsN kd w then (0, (-1) - (nI (lsN kd w) - nI (szB c k)), none)
  else match jSq c k cl kd w q with
    | none => (3, nI 0, none)
    | some q2 => (0, nI nj, some q2)
def nat32 (v : Int32) : Nat := v.toInt.toNat
theorem nat_nI {n : Nat} (h : n < 2 ^ 31) : nat32 (nI n) = n := by unfold nat32; rw [nI_Int h]; omega
abbrev jB1 (np : Nat) (kv av bv xv : Int32) : Prop := outI kv (nI 0) (nI 4) ∨ noP av np ∨ noP bv np ∨ outI xv (nI 0) (nI 2)
abbrev jB2 (av bv wv : Int32) : Prop := av = bv ∨ outI wv (nI 1) (nI 1000)
def jF (np nj : Nat) (SK : Nat → Bx) (PL : Nat → List Bx) (cl kv av bv xv wv : Int32) : Nat × Int32 × Option (List Bx × List Bx) :=
  if jB1 np kv av bv xv then (1, nI 0, none) else if jB2 av bv wv then (2, nI 0, none)
  else jG nj (nat32 kv) (nat32 xv) (nat32 wv) (cmB (SK (nat32 av)) (SK (nat32 bv))) cl (PL (nat32 av), PL (nat32 bv))
theorem jF_1 {np nj : Nat} {SK : Nat → Bx} {PL : Nat → List Bx} {cl kv av bv xv wv : Int32} (h : jB1 np kv av bv xv) : jF np nj SK PL cl kv av bv xv wv = (1, nI 0, none) := if_pos h
theorem jF_2 {np nj : Nat} {SK : Nat → Bx} {PL : Nat → List Bx} {cl kv av bv xv wv : Int32} (h : ¬ jB1 np kv av bv xv) (h2 : jB2 av bv wv) : jF np nj SK PL cl kv av bv xv wv = (2, nI 0, none) := (if_neg h).trans (if_pos h2)
theorem jF_3 {np nj : Nat} {SK : Nat → Bx} {PL : Nat → List Bx} {cl : Int32} {kd ja jb k w : Nat} (h : ¬ jB1 np (nI kd) (nI ja) (nI jb) (nI k)) (h2 : ¬ jB2 (nI ja) (nI jb) (nI w)) (h3 : kd < 5 ∧ ja < 8 ∧ jb < 8 ∧ k < 3 ∧ w ≤ 1000) :
    jF np nj SK PL cl (nI kd) (nI ja) (nI jb) (nI k) (nI w) = jG nj kd k w (cmB (SK ja) (SK jb)) cl (PL ja, PL jb) := by
  unfold jF
  rw [if_neg h, if_neg h2, nat_nI (by omega), nat_nI (by omega), nat_nI (by omega), nat_nI (by omega), nat_nI (by omega)]
theorem jG_a {nj kd k w : Nat} {c : Bx} {cl : Int32} {q : List Bx × List Bx} (h : ¬ nj < 12 ∨ ¬ hasC c ∨ (kd = 2 ∧ ¬ (szB c k + w - 1) / w ≤ 8)) : jG nj kd k w c cl q = (3, nI 0, none) := if_pos h
theorem jG_b {nj kd k w : Nat} {c : Bx} {cl : Int32} {q : List Bx × List Bx} (h1 : nj < 12) (h2 : hasC c) (h3 : kd = 2 → (szB c k + w - 1) / w ≤ 8) (h : szB c k < lsN kd w) : jG nj kd k w c cl q = (0, (-1) - (nI (lsN kd w) - nI (szB c k)), none) :=
  (if_neg (fun x => x.elim (fun y => y h1) (fun y => y.elim (fun z => z h2) (fun z => z.2 (h3 z.1))))).trans (if_pos h)
theorem jG_c {nj kd k w : Nat} {c : Bx} {cl : Int32} {q : List Bx × List Bx} (h1 : nj < 12) (h2 : hasC c) (h3 : kd = 2 → (szB c k + w - 1) / w ≤ 8) (h : ¬ szB c k < lsN kd w) (e : jSq c k cl kd w q = none) : jG nj kd k w c cl q = (3, nI 0, none) := by
  unfold jG
  rw [if_neg (fun x => x.elim (fun y => y h1) (fun y => y.elim (fun z => z h2) (fun z => z.2 (h3 z.1)))), if_neg h, e]
theorem jG_d {nj kd k w : Nat} {c : Bx} {cl : Int32} {q q2 : List Bx × List Bx} (h1 : nj < 12) (h2 : hasC c) (h3 : kd = 2 → (szB c k + w - 1) / w ≤ 8) (h : ¬ szB c k < lsN kd w) (e : jSq c k cl kd w q = some q2) : jG nj kd k w c cl q = (0, nI nj, some q2) := by
  unfold jG
  rw [if_neg (fun x => x.elim (fun y => y h1) (fun y => y.elim (fun z => z h2) (fun z => z.2 (h3 z.1)))), if_neg h, e]
theorem lsN_b {kd w : Nat} (hw : w ≤ 1000) : lsN kd w ≤ 2003 := by unfold lsN; split <;> (try split) <;> (try split) <;> omega
/-- the size that is lacking, as the code compares it -/
theorem lack_iff {n S : Nat} (hn : n ≤ 3000) (hS : S ≤ 8000) : nI n - nI S ≤ 0 ↔ ¬ S < n := by
  rw [Int32.le_iff_toInt_le, sub_toInt (by rw [nI_Int (by omega), nI_Int (by omega)]; omega) (by rw [nI_Int (by omega), nI_Int (by omega)]; omega), nI_Int (by omega), nI_Int (by omega)]
  show (n : Int) - (S : Int) ≤ 0 ↔ _
  omega
/-- storing a list back, from either draft -/
theorem pL_storeS {np : Nat} {f mn fd' : Nat → Int32} {PL : Nat → List Bx} (h : pL np f mn PL) {sd j n : Nat} {L : List Bx} (hn : n = L.length) (hn24 : n ≤ 24) (hL : bl fd' (144 * sd) n = L) : pL np (va_cpy fd' f (144 * sd) (144 * j) (6 * n)) (upd mn j (nI n)) (fun i => if i = j then L else PL i) := by
  intro i hi
  dsimp only
  by_cases e : i = j
  · subst e
    rw [pk_us, if_pos rfl, ← hn]
    exact ⟨rfl, hn24, by rw [bl_cpy]; exact hL⟩
  · rw [pk_un e, if_neg e]
    obtain ⟨h1, h2, h3⟩ := h i hi
    refine ⟨h1, h2, ?_⟩
    rw [bl_cpy_out (by omega)]; exact h3
/-- both drafts loaded -/
theorem dR_load {np : Nat} {f mn fd dm : Nat → Int32} {PL : Nat → List Bx} (h : pL np f mn PL) {ja jb : Nat} (ha : ja < np) (hb : jb < np) : dR (va_cpy f (va_cpy f fd (144 * ja) (144 * 0) (6 * (PL ja).length)) (144 * jb) (144 * 1) (6 * (PL jb).length)) (upd (upd dm 0 (nI (PL ja).length)) 1 (nI (PL jb).length)) (PL ja) (PL jb) := by
  obtain ⟨h1, h2, h3⟩ := h ja ha
  obtain ⟨h4, h5, h6⟩ := h jb hb
  refine ⟨by rw [pk_un (by decide), pk_us], by rw [pk_us], h2, h5, ?_, ?_⟩
  · rw [bl_cpy_out (by omega)]
    exact (show bl _ (144 * 0) _ = _ from bl_cpy).trans h3
  · exact (show bl _ (144 * 1) _ = _ from bl_cpy).trans h6
theorem pL_vol {np : Nat} {f mn : Nat → Int32} {PL : Nat → List Bx} (h : pL np f mn PL) {j : Nat} (hj : j < np) : voM f j (PL j).length = sL vM (PL j) := by rw [voM_L, (h j hj).2.2]
theorem pL2 {np : Nat} {f mn : Nat → Int32} {PL2 : Nat → List Bx} {L : List Bx} {j : Nat} (h : pL np f mn PL2) (hj : j < np) (e : PL2 j = L) : mn j = nI L.length ∧ L.length ≤ 24 ∧ voM f j L.length = sL vM L := by
  subst e; exact ⟨(h j hj).1, (h j hj).2.1, pL_vol h hj⟩
/-- what the reference's joint leaves -/
def mjQ (np nj : Nat) (SK : Nat → Bx) (PL : Nat → List Bx) (cl kv av bv xv wv : Int32) (fs : List Value) (f mn kA fA sA xA : Nat → Int32) (lA zA : Nat → Int64) (rr : Int32) (fs' : List Value) (f' mn' kA' fA' sA' xA' : Nat → Int32) (lA' zA' : Nat → Int64) : Prop :=
  ∃ (c : Nat) (new : Option (List Bx × List Bx)), jF np nj SK PL cl kv av bv xv wv = (c, rr, new) ∧
    ((new = none ∧ fs' = fs.set 0 (.int (nI c)) ∧ f' = f ∧ mn' = mn ∧ kA' = kA ∧ fA' = fA ∧ sA' = sA ∧ xA' = xA ∧ lA' = lA ∧ zA' = zA) ∨
     (∃ (LA LB : List Bx) (ja jb : Nat), new = some (LA, LB) ∧ fs' = (fs.set 0 (.int (nI 0))).set 11 (.int (nI (nj + 1))) ∧ av = nI ja ∧ bv = nI jb ∧ ja < np ∧ jb < np ∧ ja ≠ jb ∧ pL np f' mn' (fun i => if i = jb then LB else if i = ja then LA else PL i) ∧
       kA' = upd kA nj kv ∧ fA' = upd fA nj av ∧ sA' = upd sA nj bv ∧ xA' = upd xA nj xv ∧ lA' = vp_updL lA nj (sL vM (PL ja) - sL vM LA) ∧ zA' = vp_updL zA nj (sL vM (PL jb) - sL vM LB)))
