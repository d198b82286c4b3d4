/-! ===== kilns and orders ===== -/
theorem TRw.k {g : mG} {T k : Nat} {w : Rw} (h : TRw g T w) (hk : k < 6) : (gK g (T + 4 + 3 * k) = 1 ∧ gR g (T + 4 + 3 * k) 7 = T + 5 + 3 * k) ∧ (gK g (T + 5 + 3 * k) = 5 ∧ gI g (T + 5 + 3 * k) 2 = nI (rt (wP w k))) ∧ ∀ f, f < 7 → gI g (T + 4 + 3 * k) f = nI (wK w k f) := by
  obtain ⟨⟨_, _, _, _, e, _⟩, _, _, h3, _⟩ := h
  obtain ⟨q1, q2, q3, q4⟩ := e k hk
  obtain ⟨p1, yn, p2⟩ := h3 k hk
  exact ⟨⟨q2, q3⟩, ⟨q4.1, p2.2.2.2.2.2.2.2⟩, p1⟩
theorem TRw.o {g : mG} {T i : Nat} {w : Rw} (h : TRw g T w) (hi : i < 17) : (gK g (T + 22 + 3 * i) = 3 ∧ gR g (T + 22 + 3 * i) 5 = T + 23 + 3 * i) ∧ (gK g (T + 23 + 3 * i) = 5 ∧ gI g (T + 23 + 3 * i) 2 = nI (rt (wO w i))) ∧ ∀ f, f < 5 → gI g (T + 22 + 3 * i) f = nI (wF w i f) := by
  obtain ⟨⟨_, _, _, _, _, e⟩, _, _, _, h3⟩ := h
  obtain ⟨q1, q2, q3, q4⟩ := e i hi
  obtain ⟨p1, _, yn, p2⟩ := h3 i hi
  exact ⟨⟨q2, q3⟩, ⟨q4.1, p2.2.2.2.2.2.2.2⟩, p1⟩
/-- all numbers of a town are small -/
def TB (w : Rw) : Prop :=
  (∀ j, j < 16 → wS w j < 2 ^ 29) ∧ (∀ k, k < 6 → (∀ f, f < 7 → wK w k f < 2 ^ 28) ∧ rt (wP w k) < 2 ^ 28) ∧ ∀ i, i < 17 → (∀ f, f < 5 → wF w i f < 2 ^ 28) ∧ rt (wO w i) < 2 ^ 28 ∧ wF w i 2 < 6
theorem TRw.b1 {g : mG} {T i : Nat} {w : Rw} (h : TRw g T w) (hi : i < 17) : wF w i 1 ≤ 1 := (h.2.2.2.2 i hi).2.1
theorem nI_subT {x y : Nat} (hx : x < 2 ^ 30) (hy : y < 2 ^ 30) : (nI x - nI y).toInt = (x : Int) - y := by
  rw [Int32.toInt_sub, nI_toInt (by omega), nI_toInt (by omega)]
  exact Int.bmod_eq_of_le (by omega) (by omega)
theorem nI_sub2 {x y z : Nat} : nI x - nI y - nI z = nI x - nI (y + z) := by
  rw [← nI_add]
  simp only [Int32.sub_eq_add_neg, Int32.neg_add, Int32.add_assoc]
theorem nI_max0 {x y : Nat} (hx : x < 2 ^ 30) (hy : y < 2 ^ 30) : (if nI 0 < nI x - nI y then nI x - nI y else nI 0) = nI (x - y) := by
  have e := nI_subT hx hy
  by_cases h : y < x
  · rw [if_pos (by rw [Int32.lt_iff_toInt_lt, e, nI_toInt (by omega)]; omega), pk_sub (by omega)]
  · rw [if_neg (by rw [Int32.lt_iff_toInt_lt, e, nI_toInt (by omega)]; omega), show x - y = 0 by omega]
/-- what a part of a town's work keeps -/
def CG (X : Nat → Prop) (g g' : mG) (T : Nat) (w : Rw) : Prop := Fr X g g' ∧ JR g' ∧ TRw g' T w
theorem CG.setK {X : Nat → Prop} {g g' : mG} {T k : Nat} {w : Rw} (h : CG X g g' T w) (hT : 100 ≤ T) (hk : k < 6) (hX : X (T + 4 + 3 * k)) (f v : Nat) : CG X g (pI g' (T + 4 + 3 * k) f (nI v)) T (sK w k f v) := ⟨h.1.tr (Fr.pI hX), h.2.1.pI, h.2.2.setK hT hk⟩
theorem CG.setF {X : Nat → Prop} {g g' : mG} {T i : Nat} {w : Rw} (h : CG X g g' T w) (hT : 100 ≤ T) (hi : i < 17) (hX : X (T + 22 + 3 * i)) (f v : Nat) (hv : f = 1 → v ≤ 1) : CG X g (pI g' (T + 22 + 3 * i) f (nI v)) T (sF w i f v) := ⟨h.1.tr (Fr.pI hX), h.2.1.pI, h.2.2.setF hT hi hv⟩
theorem CG.setS {X : Nat → Prop} {g g' : mG} {T : Nat} {w : Rw} (h : CG X g g' T w) (hT : 100 ≤ T) (hX : X T) (j v : Nat) (hj : j < 11) : CG X g (pI g' T j (nI v)) T (sS w j v) := ⟨h.1.tr (Fr.pI hX), h.2.1.pI, h.2.2.setS hT hj⟩
theorem CG.setSt {X : Nat → Prop} {g g' : mG} {T : Nat} {w : Rw} (h : CG X g g' T w) (hT : 100 ≤ T) (hX : X (T + 1)) (s v : Nat) (hs : s < 5) : CG X g (pI g' (T + 1) s (nI v)) T (sS w (11 + s) v) := ⟨h.1.tr (Fr.pI hX), h.2.1.pI, h.2.2.setSt hT hs⟩
theorem CG.rf {X : Nat → Prop} {g : mG} {T : Nat} {w : Rw} (hJ : JR g) (h : TRw g T w) : CG X g g T w := ⟨Fr.rf, hJ, h⟩
theorem CG.tr {X Y : Nat → Prop} {g g1 g2 : mG} {T : Nat} {w w1 : Rw} (h : CG X g g1 T w1) (h2 : CG Y g1 g2 T w) (hXY : ∀ b, Y b → X b) : CG X g g2 T w := ⟨h.1.tr (h2.1.up hXY), h2.2⟩
theorem CG.up {X Y : Nat → Prop} {g g2 : mG} {T : Nat} {w : Rw} (h2 : CG Y g g2 T w) (hXY : ∀ b, Y b → X b) : CG X g g2 T w := ⟨h2.1.up hXY, h2.2⟩
theorem XT_in {T b : Nat} (h1 : T ≤ b) (h2 : b < T + 100) : XT T b := Or.inr ⟨h1, h2⟩
theorem isT.ap {T T' : Nat} (hT : isT T) (hT' : isT T') (hne : T ≠ T') : T + 100 ≤ T' ∨ T' + 100 ≤ T := by
  obtain ⟨j, j1, j2⟩ := hT
  obtain ⟨i, i1, i2⟩ := hT'
  omega
theorem TRw.ot {g g' : mG} {T T' : Nat} {w : Rw} (h : TRw g T' w) (hT : isT T) (hT' : isT T') (hne : T ≠ T') (f : Fr (XT T) g g') : TRw g' T' w := h.fr f hT'.big fun b b1 b2 q => by
  have := hT.ap hT' hne
  have := hT'.big
  rcases q with q | ⟨q1, q2⟩ <;> omega
section Kil
variable {g : mG} {T : Nat} {w : Rw} {Q : mQ}
theorem c_due {k : Nat} (h : TRw g T w) (hk : k < 6) (q : Q (some (.int (nI (wK w k 2 + wK w k 4 + wK w k 5)))) g) : w_X0_due [.ref (T + 4 + 3 * k)] g Q := by
  refine wm_at rfl ⟨trivial, trivial⟩ (show WP m_X0_due Q 0 [.ref (T + 4 + 3 * k)] [] g from ?_)
  obtain ⟨⟨a1, a2⟩, ⟨b1, b2⟩, c⟩ := h.k hk
  simp only [e_X0_due_0, e_X0_due_1, e_X0_due_4, e_X0_due_5, e_X0_due_8, e_X0_due_9, e_X0_due_10, e_X0_due_13, e_X0_due_14, tand, true_and, and_true, nl1_int, nl1_ref, nl1_null, nl1_ra, cat1_int, cat1_ref, cat1_null, stbs_nil, stbs_cons, stb_int, stb_long, stb_ref, stb_null, stb_ra, alv_nil, alv_cons, alv1_int, alv1_ref, alv1_null, alv1_ra, List.length_nil, List.length_cons, Nat.reduceAdd, Nat.reduceLeDiff, Nat.zero_le, Option.toList_some, Option.toList_none, List.cons_append, List.nil_append, or_true, true_or, or_false, false_or, Nat.reduceEqDiff, not_true_eq_false, not_false_eq_true, false_and, and_false, false_implies, true_implies, implies_true, ne_eq, and_self, ok1, a1, c 2 (by decide), c 4 (by decide), c 5 (by decide), nI_add]
  exact q
theorem c_lack {k : Nat} (h : TRw g T w) (hk : k < 6) (hB : TB w) (q : Q (some (.int (nI (wK w k 2 + wK w k 4 + wK w k 5 - wK w k 3 - rt (wP w k))))) g) : w_X0_lack [.ref (T + 4 + 3 * k)] g Q := by
  refine wm_at rfl ⟨trivial, trivial⟩ (show WP m_X0_lack Q 0 [.ref (T + 4 + 3 * k)] [] g from ?_)
  obtain ⟨⟨a1, a2⟩, ⟨b1, b2⟩, c⟩ := h.k hk
  simp only [e_X0_lack_0, e_X0_lack_1, e_X0_lack_2, tand, true_and, and_true, nl1_int, nl1_ref, nl1_null, nl1_ra, cat1_int, cat1_ref, cat1_null, stbs_nil, stbs_cons, stb_int, stb_long, stb_ref, stb_null, stb_ra, alv_nil, alv_cons, alv1_int, alv1_ref, alv1_null, alv1_ra, List.length_nil, List.length_cons, Nat.reduceAdd, Nat.reduceLeDiff, Nat.zero_le, Option.toList_some, Option.toList_none, List.cons_append, List.nil_append, or_true, true_or, or_false, false_or, Nat.reduceEqDiff, not_true_eq_false, not_false_eq_true, false_and, and_false, false_implies, true_implies, implies_true, ne_eq, and_self, ok1, a1]
  refine c_due h hk ?_
  have hne : T + 5 + 3 * k ≠ 0 := by omega
  simp only [e_X0_lack_5, e_X0_lack_6, e_X0_lack_9, e_X0_lack_10, e_X0_lack_11, e_X0_lack_14, e_X0_lack_17, e_X0_lack_18, e_X0_lack_21, tand, true_and, and_true, nl1_int, nl1_ref, nl1_null, nl1_ra, cat1_int, cat1_ref, cat1_null, stbs_nil, stbs_cons, stb_int, stb_long, stb_ref, stb_null, stb_ra, alv_nil, alv_cons, alv1_int, alv1_ref, alv1_null, alv1_ra, List.length_nil, List.length_cons, Nat.reduceAdd, Nat.reduceLeDiff, Nat.zero_le, Option.toList_some, Option.toList_none, List.cons_append, List.nil_append, or_true, true_or, or_false, false_or, Nat.reduceEqDiff, not_true_eq_false, not_false_eq_true, false_and, and_false, false_implies, true_implies, implies_true, ne_eq, and_self, ok1, a1, a2, hne, b1, b2, c 3 (by decide)]
  obtain ⟨hB1, hB2⟩ := hB.2.1 k hk
  have c2 := hB1 2 (by decide)
  have c3 := hB1 3 (by decide)
  have c4 := hB1 4 (by decide)
  have c5 := hB1 5 (by decide)
  rw [nI_sub2, nI_max0 (by omega) (by omega), ← Nat.sub_sub]
  exact q
theorem c_startYear {k n : Nat} (h : TRw g T w) (hT : 100 ≤ T) (hk : k < 6) (hJ : JR g) (q : ∀ g', CG (XT T) g g' T (sK (sK (sK (sK (sK w k 5 n) k 1 0) k 2 0) k 3 0) k 4 0) → Q none g') : w_X0_startYear [.ref (T + 4 + 3 * k), .int (nI n)] g Q := by
  refine wm_at rfl ⟨trivial, trivial, trivial⟩ (show WP m_X0_startYear Q 0 [.ref (T + 4 + 3 * k), .int (nI n)] [] g from ?_)
  obtain ⟨⟨a1, a2⟩, ⟨b1, b2⟩, c⟩ := h.k hk
  simp only [e_X0_startYear_0, e_X0_startYear_1, e_X0_startYear_2, e_X0_startYear_5, e_X0_startYear_6, e_X0_startYear_7, e_X0_startYear_10, e_X0_startYear_11, e_X0_startYear_12, e_X0_startYear_15, e_X0_startYear_16, e_X0_startYear_17, e_X0_startYear_20, e_X0_startYear_21, e_X0_startYear_22, e_X0_startYear_25, tand, true_and, and_true, nl1_int, nl1_ref, nl1_null, nl1_ra, cat1_int, cat1_ref, cat1_null, stbs_nil, stbs_cons, stb_int, stb_long, stb_ref, stb_null, stb_ra, alv_nil, alv_cons, alv1_int, alv1_ref, alv1_null, alv1_ra, List.length_nil, List.length_cons, Nat.reduceAdd, Nat.reduceLeDiff, Nat.zero_le, Option.toList_some, Option.toList_none, List.cons_append, List.nil_append, or_true, true_or, or_false, false_or, Nat.reduceEqDiff, not_true_eq_false, not_false_eq_true, false_and, and_false, false_implies, true_implies, implies_true, ne_eq, and_self, ok1, a1, gK_pI]
  have hX : XT T (T + 4 + 3 * k) := XT_in (by omega) (by omega)
  exact q _ ((((((CG.rf hJ h).setK hT hk hX 5 n).setK hT hk hX 1 0).setK hT hk hX 2 0).setK hT hk hX 3 0).setK hT hk hX 4 0)
/-- a kiln copied -/
def cpK (w w' : Rw) (k : Nat) : Rw := sP (sK (sK (sK (sK (sK (sK (sK w k 0 (wK w' k 0)) k 1 (wK w' k 1)) k 2 (wK w' k 2)) k 3 (wK w' k 3)) k 4 (wK w' k 4)) k 5 (wK w' k 5)) k 6 (wK w' k 6)) k (wP w' k)
theorem c_X0_copyFrom {k T' : Nat} {w' : Rw} (hT : isT T) (hT' : isT T') (hne : T ≠ T') (h : TRw g T w) (h' : TRw g T' w') (hk : k < 6) (hS : Scr g) (hJ : JR g)
    (q : ∀ g', CG (XT T) g g' T (cpK w w' k) → Q none g') : w_X0_copyFrom [.ref (T + 4 + 3 * k), .ref (T' + 4 + 3 * k)] g Q := by
  refine wm_at rfl ⟨trivial, trivial, trivial⟩ (show WP m_X0_copyFrom Q 0 [.ref (T + 4 + 3 * k), .ref (T' + 4 + 3 * k)] [] g from ?_)
  obtain ⟨⟨a1, a2⟩, ⟨b1, b2⟩, c⟩ := h.k hk
  obtain ⟨⟨a1', a2'⟩, ⟨b1', b2'⟩, c'⟩ := h'.k hk
  have hx : T' + 4 + 3 * k ≠ T + 4 + 3 * k := by omega
  have z1 : T + 5 + 3 * k ≠ 0 := by omega
  have z2 : T' + 5 + 3 * k ≠ 0 := by omega
  have ho := hT.ap hT' hne
  simp only [e_X0_copyFrom_0, e_X0_copyFrom_1, e_X0_copyFrom_1n, e_X0_copyFrom_2, e_X0_copyFrom_5, e_X0_copyFrom_8, e_X0_copyFrom_9, e_X0_copyFrom_9n, e_X0_copyFrom_10, e_X0_copyFrom_13, e_X0_copyFrom_16, e_X0_copyFrom_17, e_X0_copyFrom_17n, e_X0_copyFrom_18, e_X0_copyFrom_21, e_X0_copyFrom_24, e_X0_copyFrom_25, e_X0_copyFrom_25n, e_X0_copyFrom_26, e_X0_copyFrom_29, e_X0_copyFrom_32, e_X0_copyFrom_33, e_X0_copyFrom_33n, e_X0_copyFrom_34, e_X0_copyFrom_37, e_X0_copyFrom_40, e_X0_copyFrom_41, e_X0_copyFrom_41n, e_X0_copyFrom_42, e_X0_copyFrom_45, e_X0_copyFrom_48, e_X0_copyFrom_49, e_X0_copyFrom_49n, e_X0_copyFrom_50, e_X0_copyFrom_53, e_X0_copyFrom_56, e_X0_copyFrom_57, e_X0_copyFrom_60, e_X0_copyFrom_60n, e_X0_copyFrom_61, e_X0_copyFrom_64, tand, true_and, and_true, nl1_int, nl1_ref, nl1_null, nl1_ra, cat1_int, cat1_ref, cat1_null, stbs_nil, stbs_cons, stb_int, stb_long, stb_ref, stb_null, stb_ra, alv_nil, alv_cons, alv1_int, alv1_ref, alv1_null, alv1_ra, List.length_nil, List.length_cons, Nat.reduceAdd, Nat.reduceLeDiff, Nat.zero_le, Option.toList_some, Option.toList_none, List.cons_append, List.nil_append, or_true, true_or, or_false, false_or, Nat.reduceEqDiff, not_true_eq_false, not_false_eq_true, false_and, and_false, false_implies, true_implies, implies_true, ne_eq, and_self, ok1, a1, a1', a2, a2', gK_pI, gR_pI, gI_pI_ne hx, c' 0 (by decide), c' 1 (by decide), c' 2 (by decide), c' 3 (by decide), c' 4 (by decide), c' 5 (by decide), c' 6 (by decide), b1, z1, z2]
  have hX : XT T (T + 4 + 3 * k) := XT_in (by omega) (by omega)
  have c7 := (((((((CG.rf hJ h).setK hT.big hk hX 0 (wK w' k 0)).setK hT.big hk hX 1 (wK w' k 1)).setK hT.big hk hX 2 (wK w' k 2)).setK hT.big hk hX 3 (wK w' k 3)).setK hT.big hk hX 4 (wK w' k 4)).setK hT.big hk hX 5 (wK w' k 5)).setK hT.big hk hX 6 (wK w' k 6)
  generalize pI _ (T + 4 + 3 * k) 6 (nI (wK w' k 6)) = g7 at *
  obtain ⟨f7, j7, h7⟩ := id c7
  have h7' : TRw g7 T' w' := h'.ot hT hT' hne f7
  obtain ⟨yn', hP'⟩ := (h7'.2.2.2.1 k hk).2
  have hP := (h7.1.2.2.2.2.1 k hk).2.2.2
  obtain ⟨j0, j01, j02⟩ := id hT
  obtain ⟨j1, j11, j12⟩ := id hT'
  refine c_copyFrom (c := k) (j0 := j0) (j1 := j1) (by omega) j01 j11 (by unfold rowL; rw [if_pos hk]; omega) (by unfold rowL; rw [if_pos hk]; omega) ⟨by omega, by omega, by omega⟩ (hS.fr f7) hP hP' j7 fun g' f j q1 => ?_
  simp only [e_X0_copyFrom_67, tand, true_and, and_true, nl1_int, nl1_ref, nl1_null, nl1_ra, cat1_int, cat1_ref, cat1_null, stbs_nil, stbs_cons, stb_int, stb_long, stb_ref, stb_null, stb_ra, alv_nil, alv_cons, alv1_int, alv1_ref, alv1_null, alv1_ra, List.length_nil, List.length_cons, Nat.reduceAdd, Nat.reduceLeDiff, Nat.zero_le, Option.toList_some, Option.toList_none, List.cons_append, List.nil_append, or_true, true_or, or_false, false_or, Nat.reduceEqDiff, not_true_eq_false, not_false_eq_true, false_and, and_false, false_implies, true_implies, implies_true, ne_eq, and_self, ok1]
  refine q g' ⟨f7.tr (f.up fun b hb => ?_), j, h7.setP hT.big hk f ⟨_, q1⟩⟩
  unfold XT
  rcases hb with hb | hb | hb <;> omega
/-- a place copied -/
def cpO (w w' : Rw) (i : Nat) : Rw := sO (sF (sF (sF (sF (sF w i 0 (wF w' i 0)) i 1 (wF w' i 1)) i 2 (wF w' i 2)) i 3 (wF w' i 3)) i 4 (wF w' i 4)) i (wO w' i)
theorem c_start {i n b kk l p : Nat} (hT : 100 ≤ T) (h : TRw g T w) (hi : i < 17) (hb : b ≤ 1) (hJ : JR g)
    (q : ∀ g', CG (XT T) g g' T (sF (sF (sF (sF (sF w i 0 n) i 1 b) i 2 kk) i 3 l) i 4 p) → Q none g') : w_X2_start [.ref (T + 22 + 3 * i), .int (nI n), .int (nI b), .int (nI kk), .int (nI l), .int (nI p)] g Q := by
  refine wm_at rfl ⟨trivial, trivial, trivial, trivial, trivial, trivial, trivial⟩ (show WP m_X2_start Q 0 [.ref (T + 22 + 3 * i), .int (nI n), .int (nI b), .int (nI kk), .int (nI l), .int (nI p)] [] g from ?_)
  obtain ⟨⟨a1, a2⟩, ⟨b1, b2⟩, c⟩ := h.o hi
  have hb01 : (nI b = 0 ∨ nI b = 1) = True := propext ⟨fun _ => trivial, fun _ => by
    rcases Nat.le_one_iff_eq_zero_or_eq_one.mp hb with e | e
    · left; rw [e]; rfl
    · right; rw [e]; rfl⟩
  simp only [e_X2_start_0, e_X2_start_1, e_X2_start_2, e_X2_start_5, e_X2_start_6, e_X2_start_7, e_X2_start_10, e_X2_start_11, e_X2_start_12, e_X2_start_15, e_X2_start_16, e_X2_start_18, e_X2_start_21, e_X2_start_22, e_X2_start_24, e_X2_start_27, tand, true_and, and_true, nl1_int, nl1_ref, nl1_null, nl1_ra, cat1_int, cat1_ref, cat1_null, stbs_nil, stbs_cons, stb_int, stb_long, stb_ref, stb_null, stb_ra, alv_nil, alv_cons, alv1_int, alv1_ref, alv1_null, alv1_ra, List.length_nil, List.length_cons, Nat.reduceAdd, Nat.reduceLeDiff, Nat.zero_le, Option.toList_some, Option.toList_none, List.cons_append, List.nil_append, or_true, true_or, or_false, false_or, Nat.reduceEqDiff, not_true_eq_false, not_false_eq_true, false_and, and_false, false_implies, true_implies, implies_true, ne_eq, and_self, ok1, a1, gK_pI, hb01]
  have hX : XT T (T + 22 + 3 * i) := XT_in (by omega) (by omega)
  exact q _ ((((((CG.rf hJ h).setF hT hi hX 0 n (fun e => by omega)).setF hT hi hX 1 b (fun _ => hb)).setF hT hi hX 2 kk (fun e => by omega)).setF hT hi hX 3 l (fun e => by omega)).setF hT hi hX 4 p (fun e => by omega))
theorem c_X2_copyFrom {i T' : Nat} {w' : Rw} (hT : isT T) (hT' : isT T') (hne : T ≠ T') (h : TRw g T w) (h' : TRw g T' w') (hi : i < 17) (hS : Scr g) (hJ : JR g)
    (q : ∀ g', CG (XT T) g g' T (cpO w w' i) → Q none g') : w_X2_copyFrom [.ref (T + 22 + 3 * i), .ref (T' + 22 + 3 * i)] g Q := by
  refine wm_at rfl ⟨trivial, trivial, trivial⟩ (show WP m_X2_copyFrom Q 0 [.ref (T + 22 + 3 * i), .ref (T' + 22 + 3 * i)] [] g from ?_)
  obtain ⟨⟨a1, a2⟩, ⟨b1, b2⟩, c⟩ := h.o hi
  obtain ⟨⟨a1', a2'⟩, ⟨b1', b2'⟩, c'⟩ := h'.o hi
  have hx : T' + 22 + 3 * i ≠ T + 22 + 3 * i := by omega
  have z1 : T + 23 + 3 * i ≠ 0 := by omega
  have z2 : T' + 23 + 3 * i ≠ 0 := by omega
  have ho := hT.ap hT' hne
  simp only [e_X2_copyFrom_0, e_X2_copyFrom_1, e_X2_copyFrom_1n, e_X2_copyFrom_2, e_X2_copyFrom_5, e_X2_copyFrom_5n, e_X2_copyFrom_6, e_X2_copyFrom_9, e_X2_copyFrom_9n, e_X2_copyFrom_10, e_X2_copyFrom_13, e_X2_copyFrom_13n, e_X2_copyFrom_14, e_X2_copyFrom_17, e_X2_copyFrom_17n, e_X2_copyFrom_18, e_X2_copyFrom_21, tand, true_and, and_true, nl1_int, nl1_ref, nl1_null, nl1_ra, cat1_int, cat1_ref, cat1_null, stbs_nil, stbs_cons, stb_int, stb_long, stb_ref, stb_null, stb_ra, alv_nil, alv_cons, alv1_int, alv1_ref, alv1_null, alv1_ra, List.length_nil, List.length_cons, Nat.reduceAdd, Nat.reduceLeDiff, Nat.zero_le, Option.toList_some, Option.toList_none, List.cons_append, List.nil_append, or_true, true_or, or_false, false_or, Nat.reduceEqDiff, not_true_eq_false, not_false_eq_true, false_and, and_false, false_implies, true_implies, implies_true, ne_eq, and_self, ok1, a1, a1', c' 0 (by decide), c' 1 (by decide), c' 2 (by decide), c' 3 (by decide), c' 4 (by decide)]
  refine c_start hT.big h hi (h'.b1 hi) hJ fun g1 c5 => ?_
  obtain ⟨f7, j7, h7⟩ := id c5
  have h7' : TRw g1 T' w' := h'.ot hT hT' hne f7
  obtain ⟨⟨d1, d2⟩, ⟨e1, e2⟩, _⟩ := h7.o hi
  obtain ⟨⟨d1', d2'⟩, ⟨e1', e2'⟩, _⟩ := h7'.o hi
  simp only [e_X2_copyFrom_24, e_X2_copyFrom_25, e_X2_copyFrom_28, e_X2_copyFrom_28n, e_X2_copyFrom_29, e_X2_copyFrom_32, tand, true_and, and_true, nl1_int, nl1_ref, nl1_null, nl1_ra, cat1_int, cat1_ref, cat1_null, stbs_nil, stbs_cons, stb_int, stb_long, stb_ref, stb_null, stb_ra, alv_nil, alv_cons, alv1_int, alv1_ref, alv1_null, alv1_ra, List.length_nil, List.length_cons, Nat.reduceAdd, Nat.reduceLeDiff, Nat.zero_le, Option.toList_some, Option.toList_none, List.cons_append, List.nil_append, or_true, true_or, or_false, false_or, Nat.reduceEqDiff, not_true_eq_false, not_false_eq_true, false_and, and_false, false_implies, true_implies, implies_true, ne_eq, and_self, ok1, d1, d1', d2, d2', e1, z1, z2]
  obtain ⟨yn', hP'⟩ := (h7'.2.2.2.2 i hi).2.2
  have hP := (h7.1.2.2.2.2.2 i hi).2.2.2
  obtain ⟨j0, j01, j02⟩ := id hT
  obtain ⟨j1, j11, j12⟩ := id hT'
  refine c_copyFrom (c := 6 + i) (j0 := j0) (j1 := j1) (by omega) j01 j11 (by unfold rowL; rw [if_neg (by omega)]; omega) (by unfold rowL; rw [if_neg (by omega)]; omega) ⟨by omega, by omega, by omega⟩ (hS.fr f7) hP hP' j7 fun g' f j q1 => ?_
  simp only [e_X2_copyFrom_35, tand, true_and, and_true, nl1_int, nl1_ref, nl1_null, nl1_ra, cat1_int, cat1_ref, cat1_null, stbs_nil, stbs_cons, stb_int, stb_long, stb_ref, stb_null, stb_ra, alv_nil, alv_cons, alv1_int, alv1_ref, alv1_null, alv1_ra, List.length_nil, List.length_cons, Nat.reduceAdd, Nat.reduceLeDiff, Nat.zero_le, Option.toList_some, Option.toList_none, List.cons_append, List.nil_append, or_true, true_or, or_false, false_or, Nat.reduceEqDiff, not_true_eq_false, not_false_eq_true, false_and, and_false, false_implies, true_implies, implies_true, ne_eq, and_self, ok1]
  refine q g' ⟨f7.tr (f.up fun b hb => ?_), j, h7.setO hT.big hi f ⟨_, q1⟩⟩
  unfold XT
  rcases hb with hb | hb | hb <;> omega
theorem bE0 : (nI 0 = 0 ∨ nI 0 = 1) = True := propext ⟨fun _ => trivial, fun _ => Or.inl rfl⟩
theorem bE1 : (nI 1 = 0 ∨ nI 1 = 1) = True := propext ⟨fun _ => trivial, fun _ => Or.inr rfl⟩
/-- does it stand as such -/
def stF (w : Rw) (b i : Nat) : Bool := decide (0 < wF w i 3) && decide (wF w i 1 = b)
def meF (w : Rw) (i p : Nat) : Bool := if wF w i 1 = 0 then decide (wF w i 4 ≤ p) else decide (p ≤ wF w i 4)
def beF (w : Rw) (i j : Nat) : Bool := if wF w i 4 = wF w j 4 then decide (wF w i 0 < wF w j 0) else if wF w i 1 = 0 then decide (wF w i 4 < wF w j 4) else decide (wF w j 4 < wF w i 4)
def hbF (w : Rw) (i : Nat) : Nat := if wF w i 1 = 0 then 0 else wF w i 3 * wF w i 4
def nB (b : Bool) : Nat := if b then 1 else 0
theorem c_standsAs {i b : Nat} (h : TRw g T w) (hi : i < 17) (hB : TB w) (hb : b ≤ 1) (q : Q (some (.int (nI (nB (stF w b i))))) g) : w_X2_standsAs [.ref (T + 22 + 3 * i), .int (nI b)] g Q := by
  refine wm_at rfl ⟨trivial, trivial, trivial⟩ (show WP m_X2_standsAs Q 0 [.ref (T + 22 + 3 * i), .int (nI b)] [] g from ?_)
  obtain ⟨⟨a1, a2⟩, ⟨b1, b2⟩, c⟩ := h.o hi
  have hF := (hB.2.2 i hi).1
  have f3 := hF 3 (by decide)
  have f1 := hF 1 (by decide)
  simp (disch := omega) only [e_X2_standsAs_0, e_X2_standsAs_1, e_X2_standsAs_4, e_X2_standsAs_7, e_X2_standsAs_8, e_X2_standsAs_11, e_X2_standsAs_12, e_X2_standsAs_15, e_X2_standsAs_16, e_X2_standsAs_19, e_X2_standsAs_20, tand, true_and, and_true, nl1_int, nl1_ref, nl1_null, nl1_ra, cat1_int, cat1_ref, cat1_null, stbs_nil, stbs_cons, stb_int, stb_long, stb_ref, stb_null, stb_ra, alv_nil, alv_cons, alv1_int, alv1_ref, alv1_null, alv1_ra, List.length_nil, List.length_cons, Nat.reduceAdd, Nat.reduceLeDiff, Nat.zero_le, Option.toList_some, Option.toList_none, List.cons_append, List.nil_append, or_true, true_or, or_false, false_or, Nat.reduceEqDiff, not_true_eq_false, not_false_eq_true, false_and, and_false, false_implies, true_implies, implies_true, ne_eq, and_self, ok1, a1, c 3 (by decide), c 1 (by decide), bE0, bE1, nI_le0, nI_eqE]
  refine ⟨fun z => ?_, fun z => ⟨fun z2 => ?_, fun z2 => ?_⟩⟩
  · have : stF w b i = false := by simp [stF, z]
    rw [this] at q; exact q
  · have : stF w b i = false := by simp [stF, z2]
    rw [this] at q; exact q
  · have : stF w b i = true := by
      simp only [stF, Bool.and_eq_true, decide_eq_true_eq]
      omega
    rw [this] at q; exact q
theorem c_isMetAt {i p : Nat} (h : TRw g T w) (hi : i < 17) (hB : TB w) (hb : p < 2 ^ 30) (q : Q (some (.int (nI (nB (meF w i p))))) g) : w_X2_isMetAt [.ref (T + 22 + 3 * i), .int (nI p)] g Q := by
  refine wm_at rfl ⟨trivial, trivial, trivial⟩ (show WP m_X2_isMetAt Q 0 [.ref (T + 22 + 3 * i), .int (nI p)] [] g from ?_)
  obtain ⟨⟨a1, a2⟩, ⟨b1, b2⟩, c⟩ := h.o hi
  have hF := (hB.2.2 i hi).1
  have f4 := hF 4 (by decide)
  have f1 := hF 1 (by decide)
  unfold meF at q
  simp (disch := omega) only [e_X2_isMetAt_0, e_X2_isMetAt_1, e_X2_isMetAt_4, e_X2_isMetAt_7, e_X2_isMetAt_8, e_X2_isMetAt_11, e_X2_isMetAt_12, e_X2_isMetAt_15, e_X2_isMetAt_16, e_X2_isMetAt_19, e_X2_isMetAt_20, e_X2_isMetAt_23, e_X2_isMetAt_24, e_X2_isMetAt_27, e_X2_isMetAt_28, e_X2_isMetAt_31, e_X2_isMetAt_32, e_X2_isMetAt_35, e_X2_isMetAt_36, tand, true_and, and_true, nl1_int, nl1_ref, nl1_null, nl1_ra, cat1_int, cat1_ref, cat1_null, stbs_nil, stbs_cons, stb_int, stb_long, stb_ref, stb_null, stb_ra, alv_nil, alv_cons, alv1_int, alv1_ref, alv1_null, alv1_ra, List.length_nil, List.length_cons, Nat.reduceAdd, Nat.reduceLeDiff, Nat.zero_le, Option.toList_some, Option.toList_none, List.cons_append, List.nil_append, or_true, true_or, or_false, false_or, Nat.reduceEqDiff, not_true_eq_false, not_false_eq_true, false_and, and_false, false_implies, true_implies, implies_true, ne_eq, and_self, ok1, a1, c 4 (by decide), c 1 (by decide), nI_ltE, bE0, bE1, nI_eq0 (show wF w i 1 < 2 ^ 31 by omega)]
  refine ⟨fun z => ?_, fun z => ?_⟩
  · rw [if_pos z] at q
    refine ⟨fun z2 => ?_, fun z2 => ?_⟩
    · rw [show decide (wF w i 4 ≤ p) = false from decide_eq_false (by omega)] at q; exact q
    · rw [show decide (wF w i 4 ≤ p) = true from decide_eq_true (by omega)] at q; exact q
  · rw [if_neg z] at q
    refine ⟨fun z2 => ?_, fun z2 => ?_⟩
    · rw [show decide (p ≤ wF w i 4) = false from decide_eq_false (by omega)] at q; exact q
    · rw [show decide (p ≤ wF w i 4) = true from decide_eq_true (by omega)] at q; exact q
theorem c_isBetterThan {i j : Nat} (h : TRw g T w) (hi : i < 17) (hj : j < 17) (hB : TB w) (q : Q (some (.int (nI (nB (beF w i j))))) g) : w_X2_isBetterThan [.ref (T + 22 + 3 * i), .ref (T + 22 + 3 * j)] g Q := by
  refine wm_at rfl ⟨trivial, trivial, trivial⟩ (show WP m_X2_isBetterThan Q 0 [.ref (T + 22 + 3 * i), .ref (T + 22 + 3 * j)] [] g from ?_)
  obtain ⟨⟨a1, a2⟩, ⟨b1, b2⟩, c⟩ := h.o hi
  obtain ⟨⟨a1', a2'⟩, ⟨b1', b2'⟩, c'⟩ := h.o hj
  have hF := (hB.2.2 i hi).1
  have hF' := (hB.2.2 j hj).1
  have f4 := hF 4 (by decide)
  have f1 := hF 1 (by decide)
  have f0 := hF 0 (by decide)
  have f4' := hF' 4 (by decide)
  have f0' := hF' 0 (by decide)
  unfold beF at q
  simp (disch := omega) only [e_X2_isBetterThan_0, e_X2_isBetterThan_1, e_X2_isBetterThan_4, e_X2_isBetterThan_4n, e_X2_isBetterThan_5, e_X2_isBetterThan_8, e_X2_isBetterThan_11, e_X2_isBetterThan_12, e_X2_isBetterThan_15, e_X2_isBetterThan_15n, e_X2_isBetterThan_16, e_X2_isBetterThan_19, e_X2_isBetterThan_22, e_X2_isBetterThan_23, e_X2_isBetterThan_26, e_X2_isBetterThan_27, e_X2_isBetterThan_28, e_X2_isBetterThan_29, e_X2_isBetterThan_32, e_X2_isBetterThan_35, e_X2_isBetterThan_36, e_X2_isBetterThan_39, e_X2_isBetterThan_39n, e_X2_isBetterThan_40, e_X2_isBetterThan_43, e_X2_isBetterThan_46, e_X2_isBetterThan_47, e_X2_isBetterThan_50, e_X2_isBetterThan_51, e_X2_isBetterThan_54, e_X2_isBetterThan_55, e_X2_isBetterThan_58, e_X2_isBetterThan_58n, e_X2_isBetterThan_59, e_X2_isBetterThan_62, e_X2_isBetterThan_65, e_X2_isBetterThan_66, e_X2_isBetterThan_69, e_X2_isBetterThan_70, tand, true_and, and_true, nl1_int, nl1_ref, nl1_null, nl1_ra, cat1_int, cat1_ref, cat1_null, stbs_nil, stbs_cons, stb_int, stb_long, stb_ref, stb_null, stb_ra, alv_nil, alv_cons, alv1_int, alv1_ref, alv1_null, alv1_ra, List.length_nil, List.length_cons, Nat.reduceAdd, Nat.reduceLeDiff, Nat.zero_le, Option.toList_some, Option.toList_none, List.cons_append, List.nil_append, or_true, true_or, or_false, false_or, Nat.reduceEqDiff, not_true_eq_false, not_false_eq_true, false_and, and_false, false_implies, true_implies, implies_true, ne_eq, and_self, ok1, a1, a1', c 4 (by decide), c 1 (by decide), c 0 (by decide), c' 4 (by decide), c' 0 (by decide), nI_leE, nI_eqE, bE0, bE1, nI_eq0 (show wF w i 1 < 2 ^ 31 by omega)]
  refine ⟨fun z => ⟨fun z1 => ?_, fun z1 => ?_⟩, fun z => ?_⟩
  · rw [if_neg z, if_pos z1] at q
    refine ⟨fun z2 => ?_, fun z2 => ?_⟩
    · rw [decide_eq_false (by omega)] at q; exact q
    · rw [decide_eq_true (by omega)] at q; exact q
  · rw [if_neg z, if_neg z1] at q
    refine ⟨fun z2 => ?_, fun z2 => ?_⟩
    · rw [decide_eq_false (by omega)] at q; exact q
    · rw [decide_eq_true (by omega)] at q; exact q
  · rw [if_pos (by omega)] at q
    refine ⟨fun z2 => ?_, fun z2 => ?_⟩
    · rw [decide_eq_false (by omega)] at q; exact q
    · rw [decide_eq_true (by omega)] at q; exact q
theorem c_heldBack {i : Nat} (h : TRw g T w) (hi : i < 17) (hB : TB w) (q : Q (some (.int (nI (hbF w i)))) g) : w_X2_heldBack [.ref (T + 22 + 3 * i)] g Q := by
  refine wm_at rfl ⟨trivial, trivial⟩ (show WP m_X2_heldBack Q 0 [.ref (T + 22 + 3 * i)] [] g from ?_)
  obtain ⟨⟨a1, a2⟩, ⟨b1, b2⟩, c⟩ := h.o hi
  have f1 := (hB.2.2 i hi).1 1 (by decide)
  unfold hbF at q
  simp (disch := omega) only [e_X2_heldBack_0, e_X2_heldBack_1, e_X2_heldBack_4, e_X2_heldBack_7, e_X2_heldBack_8, e_X2_heldBack_11, e_X2_heldBack_12, e_X2_heldBack_15, e_X2_heldBack_16, e_X2_heldBack_19, e_X2_heldBack_20, tand, true_and, and_true, nl1_int, nl1_ref, nl1_null, nl1_ra, cat1_int, cat1_ref, cat1_null, stbs_nil, stbs_cons, stb_int, stb_long, stb_ref, stb_null, stb_ra, alv_nil, alv_cons, alv1_int, alv1_ref, alv1_null, alv1_ra, List.length_nil, List.length_cons, Nat.reduceAdd, Nat.reduceLeDiff, Nat.zero_le, Option.toList_some, Option.toList_none, List.cons_append, List.nil_append, or_true, true_or, or_false, false_or, Nat.reduceEqDiff, not_true_eq_false, not_false_eq_true, false_and, and_false, false_implies, true_implies, implies_true, ne_eq, and_self, ok1, a1, c 3 (by decide), c 1 (by decide), c 4 (by decide), nI_eq0, pk_mul]
  refine ⟨fun z => ?_, fun z => ?_⟩
  · rw [if_pos z] at q; exact q
  · rw [if_neg z] at q; exact q
end Kil
