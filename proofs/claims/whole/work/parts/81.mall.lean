/-! ===== the model: all orders of the text ===== -/
/-- a line can be tried -/
def LnO (l : Ln) (w : Rw) : Prop := (l.1 ≤ 1 ∧ l.2.1 < 2 ^ 28 ∧ l.2.2.1 < 2 ^ 28 ∧ l.2.2.2 < 2 ^ 28) ∧ InvA w ∧ TB w ∧ wS w 12 ≤ 500
/-- its numbers are in range -/
def LnG (l : Ln) (w : Rw) : Prop := l.2.1 < 6 ∧ (1 ≤ l.2.2.1 ∧ l.2.2.1 ≤ 999) ∧ wS w 11 ≤ l.2.2.2 ∧ l.2.2.2 ≤ wS w 12
/-- there is enough for it -/
def LnE (l : Ln) (w : Rw) : Prop := (l.1 = 1 → l.2.2.1 * l.2.2.2 ≤ wK w l.2.1 0) ∧ (l.1 = 0 → l.2.2.1 ≤ rt (wP w l.2.1))
/-- the lines run through -/
def RunP (I : Rw → Prop) : List Ln → Rw → Nat → Rw → Nat → Prop
  | [], w, acc, w', acc' => w' = w ∧ acc' = acc
  | l :: L, w, acc, w', acc' => LnO l w ∧ LnG l w ∧ LnE l w ∧ ∃ i, i < 17 ∧ wF w i 3 = 0 ∧ I (opPut w i l.1 l.2.1 l.2.2.1 l.2.2.2) ∧ RunP I L (opCome w i l.1 l.2.1 l.2.2.1 l.2.2.2) (acc + (l.2.2.1 - wF (meetF i 17 (opPut w i l.1 l.2.1 l.2.2.1 l.2.2.2)) i 3)) w' acc'
/-- a line has an error -/
def ErrP (I : Rw → Prop) : List Ln → Rw → Int32 → Prop
  | [], _, _ => False
  | l :: L, w, e => LnO l w ∧ ((¬ l.2.1 < 6 ∧ e = -1) ∨ (l.2.1 < 6 ∧ ¬ LnG l w ∧ e = -2) ∨ (LnG l w ∧ ((l.1 = 1 ∧ ¬ l.2.2.1 * l.2.2.2 ≤ wK w l.2.1 0) ∨ (l.1 = 0 ∧ ¬ l.2.2.1 ≤ rt (wP w l.2.1))) ∧ e = -3) ∨
      (LnG l w ∧ LnE l w ∧ ∃ i, i < 17 ∧ wF w i 3 = 0 ∧ I (opPut w i l.1 l.2.1 l.2.2.1 l.2.2.2) ∧ ErrP I L (opCome w i l.1 l.2.1 l.2.2.1 l.2.2.2) e))
section Mal
variable {Q : mQ} {g0 : mG} {A0 : Nat → Nat → Nat}
theorem before_loop (q1 : ∀ g a', MR 43 g0 g A0 a' → (∀ i, i < 23144 → a' i = A0 41 i) → WP m_X7_orderAll Q 42 [.ref 40, .int (nI 23144), .retAddr 0, .retAddr 0, .retAddr 0] [] g) : ∀ (d k : Nat) {g : mG} {a' : Nat → Nat}, k + d = 23144 → MR 43 g0 g A0 a' → (∀ i, i < k → a' i = A0 41 i) → WP m_X7_orderAll Q 17 [.ref 40, .int (nI k), .retAddr 0, .retAddr 0, .retAddr 0] [] g := by
  intro d
  induction d with
  | zero =>
    intro k g a' hk M hM
    have e : k = 23144 := by omega
    subst e
    simp (disch := omega) only [e_X7_orderAll_17, e_X7_orderAll_18, e_X7_orderAll_21, tand, true_and, and_true, nl1_int, nl1_ref, nl1_null, nl1_ra, cat1_int, cat1_ref, cat1_null, stbs_nil, stbs_cons, stb_int, stb_long, stb_ref, stb_null, stb_ra, alv_nil, alv_cons, alv1_int, alv1_ref, alv1_null, alv1_ra, List.length_nil, List.length_cons, Nat.reduceAdd, Nat.reduceLeDiff, Nat.zero_le, Option.toList_some, Option.toList_none, List.cons_append, List.nil_append, or_true, true_or, or_false, false_or, Nat.reduceEqDiff, not_true_eq_false, not_false_eq_true, false_and, and_false, false_implies, true_implies, implies_true, ne_eq, and_self, ok1, nI_leE, Nat.le_refl]
    exact q1 g a' M hM
  | succ d ih =>
    intro k g a' hk M hM
    have hlt : ¬ 23144 ≤ k := by omega
    have r2 := M.rf 2 (by decide)
    have r0 := M.rf 0 (by decide)
    have n43 := M.nn (by decide) (by decide)
    have oS := M.other 41 (by decide) (by decide) (by decide)
    simp only [mL, Nat.reduceEqDiff, if_false, Nat.reduceAdd] at n43 oS r2 r0
    have z43 : (43 : Nat) ≠ 0 := by decide
    simp (disch := omega) only [e_X7_orderAll_17, e_X7_orderAll_18, e_X7_orderAll_21, e_X7_orderAll_24, e_X7_orderAll_25, e_X7_orderAll_28, e_X7_orderAll_29, e_X7_orderAll_30, e_X7_orderAll_33, e_X7_orderAll_34, e_X7_orderAll_35, e_X7_orderAll_36, tand, true_and, and_true, nl1_int, nl1_ref, nl1_null, nl1_ra, cat1_int, cat1_ref, cat1_null, stbs_nil, stbs_cons, stb_int, stb_long, stb_ref, stb_null, stb_ra, alv_nil, alv_cons, alv1_int, alv1_ref, alv1_null, alv1_ra, List.length_nil, List.length_cons, Nat.reduceAdd, Nat.reduceLeDiff, Nat.zero_le, Option.toList_some, Option.toList_none, List.cons_append, List.nil_append, or_true, true_or, or_false, false_or, Nat.reduceEqDiff, not_true_eq_false, not_false_eq_true, false_and, and_false, false_implies, true_implies, implies_true, ne_eq, and_self, ok1, nI_leE, hlt, M.k40, r0, r2, M.kk (by decide) (by decide), n43, oS.1, oS.2.1, oS.2.2, isIA, vpT, nI_clamp, nI_add, z41, z43]
    simp only [e_X7_orderAll_39, tand, true_and, and_true, nl1_int, nl1_ref, nl1_null, nl1_ra, cat1_int, cat1_ref, cat1_null, stbs_nil, stbs_cons, stb_int, stb_long, stb_ref, stb_null, stb_ra, alv_nil, alv_cons, alv1_int, alv1_ref, alv1_null, alv1_ra, List.length_nil, List.length_cons, Nat.reduceAdd, Nat.reduceLeDiff, Nat.zero_le, Option.toList_some, Option.toList_none, List.cons_append, List.nil_append, or_true, true_or, or_false, false_or, Nat.reduceEqDiff, not_true_eq_false, not_false_eq_true, false_and, and_false, false_implies, true_implies, implies_true, ne_eq, and_self, ok1]
    refine ih (k + 1) (by omega) (M.set (by decide) k (A0 41 k)) fun i hi => ?_
    unfold u1
    by_cases h1 : i = k
    · rw [if_pos h1, h1]
    · rw [if_neg h1]; exact hM i (by omega)
theorem back_loop {l1 l2 e : Int32} (q1 : ∀ g a', MR 41 g0 g A0 a' → (∀ i, i < 23144 → a' i = A0 43 i) → Q (some (.int e)) g) : ∀ (d k : Nat) {g : mG} {a' : Nat → Nat}, k + d = 23144 → MR 41 g0 g A0 a' → (∀ i, i < k → a' i = A0 43 i) → WP m_X7_orderAll Q 104 [.ref 40, .int l1, .int l2, .int e, .int (nI k)] [] g := by
  intro d
  induction d with
  | zero =>
    intro k g a' hk M hM
    have ek : k = 23144 := by omega
    subst ek
    simp (disch := omega) only [e_X7_orderAll_104, e_X7_orderAll_106, e_X7_orderAll_109, e_X7_orderAll_132, e_X7_orderAll_133, tand, true_and, and_true, nl1_int, nl1_ref, nl1_null, nl1_ra, cat1_int, cat1_ref, cat1_null, stbs_nil, stbs_cons, stb_int, stb_long, stb_ref, stb_null, stb_ra, alv_nil, alv_cons, alv1_int, alv1_ref, alv1_null, alv1_ra, List.length_nil, List.length_cons, Nat.reduceAdd, Nat.reduceLeDiff, Nat.zero_le, Option.toList_some, Option.toList_none, List.cons_append, List.nil_append, or_true, true_or, or_false, false_or, Nat.reduceEqDiff, not_true_eq_false, not_false_eq_true, false_and, and_false, false_implies, true_implies, implies_true, ne_eq, and_self, ok1, nI_leE, Nat.le_refl]
    exact q1 g a' M hM
  | succ d ih =>
    intro k g a' hk M hM
    have hlt : ¬ 23144 ≤ k := by omega
    have r2 := M.rf 2 (by decide)
    have r0 := M.rf 0 (by decide)
    have n41 := M.nn (by decide) (by decide)
    have oS := M.other 43 (by decide) (by decide) (by decide)
    simp only [mL, Nat.reduceEqDiff, if_false, Nat.reduceAdd] at n41 oS r2 r0
    have z43 : (43 : Nat) ≠ 0 := by decide
    simp (disch := omega) only [e_X7_orderAll_104, e_X7_orderAll_106, e_X7_orderAll_109, e_X7_orderAll_112, e_X7_orderAll_113, e_X7_orderAll_116, e_X7_orderAll_118, e_X7_orderAll_119, e_X7_orderAll_122, e_X7_orderAll_124, e_X7_orderAll_125, e_X7_orderAll_126, tand, true_and, and_true, nl1_int, nl1_ref, nl1_null, nl1_ra, cat1_int, cat1_ref, cat1_null, stbs_nil, stbs_cons, stb_int, stb_long, stb_ref, stb_null, stb_ra, alv_nil, alv_cons, alv1_int, alv1_ref, alv1_null, alv1_ra, List.length_nil, List.length_cons, Nat.reduceAdd, Nat.reduceLeDiff, Nat.zero_le, Option.toList_some, Option.toList_none, List.cons_append, List.nil_append, or_true, true_or, or_false, false_or, Nat.reduceEqDiff, not_true_eq_false, not_false_eq_true, false_and, and_false, false_implies, true_implies, implies_true, ne_eq, and_self, ok1, nI_leE, hlt, M.k40, r0, r2, M.kk (by decide) (by decide), n41, oS.1, oS.2.1, oS.2.2, isIA, vpT, nI_clamp, nI_add, z41, z43]
    simp only [e_X7_orderAll_129, tand, true_and, and_true, nl1_int, nl1_ref, nl1_null, nl1_ra, cat1_int, cat1_ref, cat1_null, stbs_nil, stbs_cons, stb_int, stb_long, stb_ref, stb_null, stb_ra, alv_nil, alv_cons, alv1_int, alv1_ref, alv1_null, alv1_ra, List.length_nil, List.length_cons, Nat.reduceAdd, Nat.reduceLeDiff, Nat.zero_le, Option.toList_some, Option.toList_none, List.cons_append, List.nil_append, or_true, true_or, or_false, false_or, Nat.reduceEqDiff, not_true_eq_false, not_false_eq_true, false_and, and_false, false_implies, true_implies, implies_true, ne_eq, and_self, ok1]
    refine ih (k + 1) (by omega) (M.set (by decide) k (A0 43 k)) fun i hi => ?_
    unfold u1
    by_cases h1 : i = k
    · rw [if_pos h1, h1]
    · rw [if_neg h1]; exact hM i (by omega)
theorem MT.told {g : mG} {a : Nat → Nat} (M : MT g0 g A0 a) : gK g 46 = 11 ∧ gN g 46 = 80 ∧ gR g 40 5 = 46 ∧ ∀ i, i < 80 → gI g 46 i = nI (A0 46 i) := by
  obtain ⟨k1, k2, k3⟩ := M.2.1.row 46 (by decide) (by decide)
  rw [ur_ne (by decide)] at k3
  exact ⟨k1, k2, M.2.1.1.2 5 (by decide), k3⟩
/-- the lines, one after another -/
theorem run_loop {I : Rw → Prop} (hI : mInv I) (hIA : ∀ w, I w → InvA w) {len : Nat} (hlen : len ≤ 9) (h9 : gI g0 40 9 = nI len) :
    ∀ (L : List Ln) (k : Nat) {g : mG} {a pos : Nat → Nat} {w : Rw} {acc : Nat} {l3 l4 : Value}, okl l3 → okl l4 → LnM (A0 46) k L → k + L.length = len → MT g0 g A0 a → RelB w a pos →
      (∀ w' acc', RunP I L w acc w' acc' → (∀ g' a' pos', MT g0 g' A0 a' → RelB w' a' pos' → ∀ l3 l4, okl l3 → okl l4 → WP m_X7_orderAll Q 185 [.ref 40, .int (nI acc'), .int (nI len), l3, l4] [] g') → WP m_X7_orderAll Q 46 [.ref 40, .int (nI acc), .int (nI k), l3, l4] [] g) ∧
      (∀ e, ErrP I L w e → (∀ g' a', MT g0 g' A0 a' → (∀ i, i < 23144 → a' i = A0 43 i) → Q (some (.int e)) g') → WP m_X7_orderAll Q 46 [.ref 40, .int (nI acc), .int (nI k), l3, l4] [] g) := by
  intro L
  induction L with
  | nil =>
    intro k g a pos w acc l3 l4 o3 o4 hL hk M R
    refine ⟨fun w' acc' hr q => ?_, fun e he => he.elim⟩
    obtain ⟨e1, e2⟩ := hr
    subst e1
    subst e2
    have ek : k = len := by simpa using hk
    subst ek
    have g9 : gI g 40 9 = nI k := by rw [M.2.2]; exact h9
    simp (disch := omega) only [e_X7_orderAll_46, e_X7_orderAll_47, e_X7_orderAll_48, e_X7_orderAll_51, tand, true_and, and_true, nl1_int, nl1_ref, nl1_null, nl1_ra, cat1_int, cat1_ref, cat1_null, stbs_nil, stbs_cons, stb_int, stb_long, stb_ref, stb_null, stb_ra, alv_nil, alv_cons, alv1_int, alv1_ref, alv1_null, alv1_ra, List.length_nil, List.length_cons, Nat.reduceAdd, Nat.reduceLeDiff, Nat.zero_le, Option.toList_some, Option.toList_none, List.cons_append, List.nil_append, or_true, true_or, or_false, false_or, Nat.reduceEqDiff, not_true_eq_false, not_false_eq_true, false_and, and_false, false_implies, true_implies, implies_true, ne_eq, and_self, ok1, M.k40, g9, nI_leE, Nat.le_refl]
    exact q g a pos M R l3 l4 o3 o4
  | cons l L ih =>
    intro k g a pos w acc l3 l4 o3 o4 hL hk M R
    obtain ⟨⟨v0, v1, v2, v3⟩, hL'⟩ := hL
    simp only [List.length_cons] at hk
    have g9 : gI g 40 9 = nI len := by rw [M.2.2]; exact h9
    obtain ⟨t1, t2, t5, t4⟩ := M.told
    have hle : ¬ len ≤ k := by omega
    obtain ⟨lb, lk, lm, lp⟩ := l
    dsimp only at v0 v1 v2 v3
    have c0 : gI g 46 (4 * k) = nI lb := by rw [t4 _ (by omega), v0]
    have c1 : gI g 46 (4 * k + 1) = nI lk := by rw [t4 _ (by omega), v1]
    have c2 : gI g 46 (4 * k + 2) = nI lm := by rw [t4 _ (by omega), v2]
    have c3 : gI g 46 (4 * k + 3) = nI lp := by rw [t4 _ (by omega), v3]
    have head : w_X7_wrong [.ref 40, .int (nI lb), .int (nI lk), .int (nI lm), .int (nI lp)] g (fun v g' => WP m_X7_orderAll Q 96 [.ref 40, .int (nI acc), .int (nI k), l3, l4] (v.toList ++ []) g') → WP m_X7_orderAll Q 46 [.ref 40, .int (nI acc), .int (nI k), l3, l4] [] g := fun h => by
      simp (disch := omega) only [e_X7_orderAll_46, e_X7_orderAll_47, e_X7_orderAll_48, e_X7_orderAll_51, e_X7_orderAll_54, e_X7_orderAll_55, e_X7_orderAll_56, e_X7_orderAll_59, e_X7_orderAll_60, e_X7_orderAll_61, e_X7_orderAll_62, e_X7_orderAll_63, e_X7_orderAll_64, e_X7_orderAll_67, e_X7_orderAll_68, e_X7_orderAll_69, e_X7_orderAll_70, e_X7_orderAll_71, e_X7_orderAll_72, e_X7_orderAll_73, e_X7_orderAll_74, e_X7_orderAll_77, e_X7_orderAll_78, e_X7_orderAll_79, e_X7_orderAll_80, e_X7_orderAll_81, e_X7_orderAll_82, e_X7_orderAll_83, e_X7_orderAll_84, e_X7_orderAll_87, e_X7_orderAll_88, e_X7_orderAll_89, e_X7_orderAll_90, e_X7_orderAll_91, e_X7_orderAll_92, e_X7_orderAll_93, tand, true_and, and_true, nl1_int, nl1_ref, nl1_null, nl1_ra, cat1_int, cat1_ref, cat1_null, stbs_nil, stbs_cons, stb_int, stb_long, stb_ref, stb_null, stb_ra, alv_nil, alv_cons, alv1_int, alv1_ref, alv1_null, alv1_ra, List.length_nil, List.length_cons, Nat.reduceAdd, Nat.reduceLeDiff, Nat.zero_le, Option.toList_some, Option.toList_none, List.cons_append, List.nil_append, or_true, true_or, or_false, false_or, Nat.reduceEqDiff, not_true_eq_false, not_false_eq_true, false_and, and_false, false_implies, true_implies, implies_true, ne_eq, and_self, ok1, M.k40, g9, nI_leE, hle, t1, t2, t5, z46, pk_mul, nI_add, isIA, vpT, nI_clamp, c0, c1, c2, c3, o3.2, o4.2]
      exact h
    -- an error: all goes back
    have bad : ∀ e : Int32, ¬ 0 ≤ e → (∀ g' a', MT g0 g' A0 a' → (∀ i, i < 23144 → a' i = A0 43 i) → Q (some (.int e)) g') → WP m_X7_orderAll Q 96 [.ref 40, .int (nI acc), .int (nI k), l3, l4] ((some (Value.int e)).toList ++ []) g := fun e he q => by
      simp only [e_X7_orderAll_96, e_X7_orderAll_97, e_X7_orderAll_98, e_X7_orderAll_101, e_X7_orderAll_102, tand, true_and, and_true, nl1_int, nl1_ref, nl1_null, nl1_ra, cat1_int, cat1_ref, cat1_null, stbs_nil, stbs_cons, stb_int, stb_long, stb_ref, stb_null, stb_ra, alv_nil, alv_cons, alv1_int, alv1_ref, alv1_null, alv1_ra, List.length_nil, List.length_cons, Nat.reduceAdd, Nat.reduceLeDiff, Nat.zero_le, Option.toList_some, Option.toList_none, List.cons_append, List.nil_append, or_true, true_or, or_false, false_or, Nat.reduceEqDiff, not_true_eq_false, not_false_eq_true, false_and, and_false, false_implies, true_implies, implies_true, ne_eq, and_self, ok1, he]
      exact back_loop (fun g' a' M' hM' => q g' a' M' hM') 23144 0 (by omega) M fun i hi => absurd hi (Nat.not_lt_zero i)
    -- no error: it comes
    have good : ∀ i, LnO (lb, lk, lm, lp) w → LnG (lb, lk, lm, lp) w → LnE (lb, lk, lm, lp) w → i < 17 → wF w i 3 = 0 → I (opPut w i lb lk lm lp) →
        (∀ g1 a1 pos1 l3 l4, okl l3 → okl l4 → MT g0 g1 A0 a1 → RelB (opCome w i lb lk lm lp) a1 pos1 → WP m_X7_orderAll Q 46 [.ref 40, .int (nI (acc + (lm - wF (meetF i 17 (opPut w i lb lk lm lp)) i 3))), .int (nI (k + 1)), l3, l4] [] g1) → WP m_X7_orderAll Q 46 [.ref 40, .int (nI acc), .int (nI k), l3, l4] [] g := fun i ⟨⟨b1, b2, b3, b4⟩, hA, hB, hc⟩ ⟨g1, ⟨g2, g3⟩, g4, g5⟩ ⟨e1, e2⟩ hi h0 hp next => by
      refine head (d_wrong34 M R hA hB b1 hc g1 g2 g3 g4 g5 (fun _ _ => ?_) fun z1 z2 => ?_)
      · have l0 : (0 : Int32) ≤ nI 0 := by decide
        simp (disch := omega) only [e_X7_orderAll_96, e_X7_orderAll_97, e_X7_orderAll_98, e_X7_orderAll_134, e_X7_orderAll_135, e_X7_orderAll_136, e_X7_orderAll_137, e_X7_orderAll_140, e_X7_orderAll_141, e_X7_orderAll_142, e_X7_orderAll_143, e_X7_orderAll_144, e_X7_orderAll_145, e_X7_orderAll_148, e_X7_orderAll_149, e_X7_orderAll_150, e_X7_orderAll_151, e_X7_orderAll_152, e_X7_orderAll_153, e_X7_orderAll_154, e_X7_orderAll_155, e_X7_orderAll_158, e_X7_orderAll_159, e_X7_orderAll_160, e_X7_orderAll_161, e_X7_orderAll_162, e_X7_orderAll_163, e_X7_orderAll_164, e_X7_orderAll_165, e_X7_orderAll_168, e_X7_orderAll_169, e_X7_orderAll_170, e_X7_orderAll_171, e_X7_orderAll_172, e_X7_orderAll_173, e_X7_orderAll_174, tand, true_and, and_true, nl1_int, nl1_ref, nl1_null, nl1_ra, cat1_int, cat1_ref, cat1_null, stbs_nil, stbs_cons, stb_int, stb_long, stb_ref, stb_null, stb_ra, alv_nil, alv_cons, alv1_int, alv1_ref, alv1_null, alv1_ra, List.length_nil, List.length_cons, Nat.reduceAdd, Nat.reduceLeDiff, Nat.zero_le, Option.toList_some, Option.toList_none, List.cons_append, List.nil_append, or_true, true_or, or_false, false_or, Nat.reduceEqDiff, not_true_eq_false, not_false_eq_true, false_and, and_false, false_implies, true_implies, implies_true, ne_eq, and_self, ok1, l0, M.k40, g9, t1, t2, t5, z46, pk_mul, nI_add, isIA, vpT, nI_clamp, c0, c1, c2, c3, o3.2, o4.2]
        have g5' : lp ≤ wS w 12 := g5
        refine c_X7_comes hI hIA M R hA hB b1 g1 g3 (by omega) e1 hi h0 hp fun g1 a1 M1 ⟨pos1, R1⟩ => ?_
        simp (disch := omega) only [e_X7_orderAll_177, e_X7_orderAll_178, e_X7_orderAll_179, e_X7_orderAll_182, tand, true_and, and_true, nl1_int, nl1_ref, nl1_null, nl1_ra, cat1_int, cat1_ref, cat1_null, stbs_nil, stbs_cons, stb_int, stb_long, stb_ref, stb_null, stb_ra, alv_nil, alv_cons, alv1_int, alv1_ref, alv1_null, alv1_ra, List.length_nil, List.length_cons, Nat.reduceAdd, Nat.reduceLeDiff, Nat.zero_le, Option.toList_some, Option.toList_none, List.cons_append, List.nil_append, or_true, true_or, or_false, false_or, Nat.reduceEqDiff, not_true_eq_false, not_false_eq_true, false_and, and_false, false_implies, true_implies, implies_true, ne_eq, and_self, ok1, nI_add]
        exact next g1 a1 pos1 _ _ ⟨trivial, fun _ => rfl⟩ o4 M1 R1
      · have b1' : lb ≤ 1 := b1
        have hbb : lb = 1 ∨ lb = 0 := by omega
        rcases hbb with e | e
        · exact absurd (e1 e) (z1 e)
        · exact absurd (e2 e) (z2 e)
    refine ⟨fun w' acc' hr q => ?_, fun e he q => ?_⟩
    · obtain ⟨r1, r2, r3, i, hi, h0, hp, hr'⟩ := hr
      exact good i r1 r2 r3 hi h0 hp fun g1 a1 pos1 l3 l4 o3 o4 M1 R1 => (ih (k + 1) o3 o4 hL' (by omega) M1 R1).1 w' acc' hr' q
    · obtain ⟨r1, hr⟩ := he
      have r1' := id r1
      obtain ⟨⟨b1, b2, b3, b4⟩, hA, hB, hc⟩ := r1'
      dsimp only at b1 b2 b3 b4
      rcases hr with ⟨h1, h2⟩ | ⟨h1, h2, h3⟩ | ⟨⟨g1, ⟨g2, g3⟩, g4, g5⟩, h2, h3⟩ | ⟨r2, r3, i, hi, h0, hp, hr'⟩
      · subst h2
        refine head (d_wrong1 M.k40 (fun k' hk' ee => ?_) (bad _ (by decide) q))
        rw [nI_eqE (by omega) (by omega)] at ee
        exact h1 (by show lk < 6; omega)
      · subst h3
        refine head (d_wrong2 M R hB hc h1 (fun ⟨⟨n', en, n1, n2⟩, p', ep, p1, p2⟩ => h2 ⟨h1, ?_, ?_⟩) (bad _ (by decide) q))
        · rw [nI_eqE (by omega) (by omega)] at en
          rw [← en] at n1 n2
          exact ⟨n1, n2⟩
        · rw [nI_eqE (by omega) (by omega)] at ep
          rw [← ep] at p1 p2
          exact ⟨p1, p2⟩
      · subst h3
        refine head (d_wrong34 M R hA hB b1 hc g1 g2 g3 g4 g5 (fun z1 z2 => ?_) fun _ _ => bad _ (by decide) q)
        rcases h2 with ⟨e, h⟩ | ⟨e, h⟩
        · exact absurd (z1 e) h
        · exact absurd (z2 e) h
      · exact good i r1 r2 r3 hi h0 hp fun g1 a1 pos1 l3 l4 o3 o4 M1 R1 => (ih (k + 1) o3 o4 hL' (by omega) M1 R1).2 e hr' q
variable {g : mG} {w snap : Rw} {hist : Nat → Rw} {st kept n : Nat} {t : Nat → Nat}
/-- the text is one of characters -/
def ChT (t : Nat → Nat) (n : Nat) : Prop := ∀ i, i < n → t i < 65536
theorem all_head (h : MB g w hist st kept snap t n) (hT : ChT t n) (q1 : (rdA t n 9 0).1 = none → ∀ g1 A1, FX g g1 → MBA g1 A1 w hist st kept snap t n → gI g1 40 9 = nI (rdA t n 9 0).2.length → LnM (A1 46) 0 (rdA t n 9 0).2 → (∀ i, i < 23144 → A1 43 i = A1 41 i) → WP m_X7_orderAll Q 46 [.ref 40, .int (nI 0), .int (nI 0), .retAddr 0, .retAddr 0] [] g1)
    (q0 : ∀ pl, (rdA t n 9 0).1 = some pl → ∀ g1, MB g1 w hist st kept snap t n → FX g g1 → Q (some (.int (-100 - nI pl))) g1) : w_X7_orderAll [.ref 40] g Q := by
  refine wm_at rfl ⟨trivial, trivial⟩ (show WP m_X7_orderAll Q 0 [.ref 40, .retAddr 0, .retAddr 0, .retAddr 0, .retAddr 0] [] g from ?_)
  obtain ⟨A, h1, h2, ⟨h3, h4, h5, h6⟩, h7, h9, h10⟩ := h
  have T : TX g A t n := ⟨h3, h5, fun i hi => ⟨h10 i hi, hT i hi⟩⟩
  simp only [e_X7_orderAll_0, e_X7_orderAll_1, tand, true_and, and_true, nl1_int, nl1_ref, nl1_null, nl1_ra, cat1_int, cat1_ref, cat1_null, stbs_nil, stbs_cons, stb_int, stb_long, stb_ref, stb_null, stb_ra, alv_nil, alv_cons, alv1_int, alv1_ref, alv1_null, alv1_ra, List.length_nil, List.length_cons, Nat.reduceAdd, Nat.reduceLeDiff, Nat.zero_le, Option.toList_some, Option.toList_none, List.cons_append, List.nil_append, or_true, true_or, or_false, false_or, Nat.reduceEqDiff, not_true_eq_false, not_false_eq_true, false_and, and_false, false_implies, true_implies, implies_true, ne_eq, and_self, ok1, h1.1.1]
  refine c_X7_reads h1 T (fun hr g1 c1 p1 M1 hL => ?_) fun pl hr g1 c1 j1 M1 => ?_
  · obtain ⟨F1, D1, e8, e9, ef⟩ := M1
    simp only [e_X7_orderAll_4, e_X7_orderAll_15, e_X7_orderAll_16, tand, true_and, and_true, nl1_int, nl1_ref, nl1_null, nl1_ra, cat1_int, cat1_ref, cat1_null, stbs_nil, stbs_cons, stb_int, stb_long, stb_ref, stb_null, stb_ra, alv_nil, alv_cons, alv1_int, alv1_ref, alv1_null, alv1_ra, List.length_nil, List.length_cons, Nat.reduceAdd, Nat.reduceLeDiff, Nat.zero_le, Option.toList_some, Option.toList_none, List.cons_append, List.nil_append, or_true, true_or, or_false, false_or, Nat.reduceEqDiff, not_true_eq_false, not_false_eq_true, false_and, and_false, false_implies, true_implies, implies_true, ne_eq, and_self, ok1, n1z]
    refine before_loop (fun g2 a2 M2 hM2 => ?_) 23144 0 (by omega) (MR.of D1) fun i hi => absurd hi (Nat.not_lt_zero i)
    have f40 : ∀ f, f ≠ 8 → f ≠ 9 → gI g2 40 f = gI g 40 f := fun f f8 f9 => by rw [M2.2.2]; exact ef f f8 f9
    simp only [e_X7_orderAll_42, e_X7_orderAll_43, e_X7_orderAll_44, e_X7_orderAll_45, tand, true_and, and_true, nl1_int, nl1_ref, nl1_null, nl1_ra, cat1_int, cat1_ref, cat1_null, stbs_nil, stbs_cons, stb_int, stb_long, stb_ref, stb_null, stb_ra, alv_nil, alv_cons, alv1_int, alv1_ref, alv1_null, alv1_ra, List.length_nil, List.length_cons, Nat.reduceAdd, Nat.reduceLeDiff, Nat.zero_le, Option.toList_some, Option.toList_none, List.cons_append, List.nil_append, or_true, true_or, or_false, false_or, Nat.reduceEqDiff, not_true_eq_false, not_false_eq_true, false_and, and_false, false_implies, true_implies, implies_true, ne_eq, and_self, ok1]
    have r41 : ur (ur A 46 c1) 43 a2 41 = A 41 := by rw [ur_ne (by decide), ur_ne (by decide)]
    refine q1 hr g2 (ur (ur A 46 c1) 43 a2) (F1.tr M2.1) ⟨M2.2.1, h2.keep (f40 6 (by decide) (by decide)) (fun i _ => by rw [ur_ne (by decide), ur_ne (by decide)]), ⟨by rw [f40 7 (by decide) (by decide)]; exact h3, by rw [f40 10 (by decide) (by decide)]; exact h4, h5, h6⟩, by rw [r41]; exact h7, fun hk => by rw [ur_ne (by decide), ur_ne (by decide)]; exact h9 hk, fun i hi => by rw [ur_ne (by decide), ur_ne (by decide)]; exact h10 i hi⟩ (by rw [M2.2.2]; exact e9) (by rw [ur_ne (by decide), ur_eq]; exact hL) fun i hi => ?_
    rw [ur_eq, r41, hM2 i hi, ur_ne (by decide)]
  · obtain ⟨F1, D1, e8, e9, ef⟩ := M1
    simp only [e_X7_orderAll_4, e_X7_orderAll_7, e_X7_orderAll_9, e_X7_orderAll_10, e_X7_orderAll_13, e_X7_orderAll_14, tand, true_and, and_true, nl1_int, nl1_ref, nl1_null, nl1_ra, cat1_int, cat1_ref, cat1_null, stbs_nil, stbs_cons, stb_int, stb_long, stb_ref, stb_null, stb_ra, alv_nil, alv_cons, alv1_int, alv1_ref, alv1_null, alv1_ra, List.length_nil, List.length_cons, Nat.reduceAdd, Nat.reduceLeDiff, Nat.zero_le, Option.toList_some, Option.toList_none, List.cons_append, List.nil_append, or_true, true_or, or_false, false_or, Nat.reduceEqDiff, not_true_eq_false, not_false_eq_true, false_and, and_false, false_implies, true_implies, implies_true, ne_eq, and_self, ok1, n0z, D1.1.1, e8]
    exact q0 pl hr g1 ⟨_, D1, h2.keep (ef 6 (by decide) (by decide)) (fun i _ => by rw [ur_ne (by decide)]), ⟨by rw [ef 7 (by decide) (by decide)]; exact h3, by rw [ef 10 (by decide) (by decide)]; exact h4, h5, h6⟩, by rw [ur_ne (by decide)]; exact h7, fun hk => by rw [ur_ne (by decide)]; exact h9 hk, fun i hi => by rw [ur_ne (by decide)]; exact h10 i hi⟩ F1
theorem d_all1 {pl : Nat} (h : MB g w hist st kept snap t n) (hT : ChT t n) (hr : (rdA t n 9 0).1 = some pl) (q : ∀ g', MB g' w hist st kept snap t n → FX g g' → Q (some (.int (-100 - nI pl))) g') : w_X7_orderAll [.ref 40] g Q := all_head h hT (fun z => by rw [hr] at z; cases z) fun pl' hr' g1 h1 F1 => by
  rw [hr] at hr'
  rw [← Option.some.inj hr']
  exact q g1 h1 F1
theorem d_all2 {I : Rw → Prop} (hI : mInv I) (hIA : ∀ w, I w → InvA w) {e : Int32} (h : MB g w hist st kept snap t n) (hT : ChT t n) (hr : (rdA t n 9 0).1 = none) (he : ErrP I (rdA t n 9 0).2 w e) (q : ∀ g', MB g' w hist st kept snap t n → FX g g' → Q (some (.int e)) g') : w_X7_orderAll [.ref 40] g Q := by
  refine all_head h hT (fun _ g1 A1 F1 hM e9 hL h43 => ?_) fun pl hr' => by rw [hr] at hr'; cases hr'
  have hM' := id hM
  obtain ⟨D, _, _, ⟨pos, R⟩, _⟩ := hM'
  refine (run_loop hI hIA (rdA_len (t := t) (n := n) 9 0) e9 _ 0 (l3 := .retAddr 0) (l4 := .retAddr 0) ⟨trivial, fun _ => rfl⟩ ⟨trivial, fun _ => rfl⟩ hL (Nat.zero_add _) (MT.of D) R).2 e he fun g2 a2 M2 hM2 => ?_
  obtain ⟨r1, r2⟩ := hM.up M2 (RelN.same ⟨pos, R⟩ fun i hi => (hM2 i hi).trans (h43 i hi))
  exact q g2 r1 (F1.tr r2)
theorem d_all3 {I : Rw → Prop} (hI : mInv I) (hIA : ∀ w, I w → InvA w) {w' : Rw} {acc : Nat} (h : MB g w hist st kept snap t n) (hT : ChT t n) (hr : (rdA t n 9 0).1 = none) (he : RunP I (rdA t n 9 0).2 w 0 w' acc) (q : ∀ g', MB g' w' (hcn w hist) (min (st + 1) 4) kept snap t n → FX g g' → Q (some (.int (nI acc))) g') : w_X7_orderAll [.ref 40] g Q := by
  refine all_head h hT (fun _ g1 A1 F1 hM e9 hL h43 => ?_) fun pl hr' => by rw [hr] at hr'; cases hr'
  have hM' := id hM
  obtain ⟨D, h2, ⟨h3, h4, h5, h6⟩, ⟨pos, R⟩, h9, h10⟩ := hM'
  refine (run_loop hI hIA (rdA_len (t := t) (n := n) 9 0) e9 _ 0 (l3 := .retAddr 0) (l4 := .retAddr 0) ⟨trivial, fun _ => rfl⟩ ⟨trivial, fun _ => rfl⟩ hL (Nat.zero_add _) (MT.of D) R).1 w' acc he fun g2 a2 pos2 M2 R2 l3 l4 o3 o4 => ?_
  simp only [e_X7_orderAll_185, e_X7_orderAll_186, tand, true_and, and_true, nl1_int, nl1_ref, nl1_null, nl1_ra, cat1_int, cat1_ref, cat1_null, stbs_nil, stbs_cons, stb_int, stb_long, stb_ref, stb_null, stb_ra, alv_nil, alv_cons, alv1_int, alv1_ref, alv1_null, alv1_ra, List.length_nil, List.length_cons, Nat.reduceAdd, Nat.reduceLeDiff, Nat.zero_le, Option.toList_some, Option.toList_none, List.cons_append, List.nil_append, or_true, true_or, or_false, false_or, Nat.reduceEqDiff, not_true_eq_false, not_false_eq_true, false_and, and_false, false_implies, true_implies, implies_true, ne_eq, and_self, ok1, M2.k40, o3.2, o4.2]
  refine c_X7_recordBefore M2.2.1 (h2.keep (by rw [M2.2.2]) fun i _ => by rw [ur_ne (by decide)]) (RelN.same ⟨pos, R⟩ fun i hi => ?_) fun g3 A3 F3 D3 e1 e2 e3 => ?_
  · rw [ur_ne (by decide)]; exact h43 i hi
  · simp only [e_X7_orderAll_189, e_X7_orderAll_190, tand, true_and, and_true, nl1_int, nl1_ref, nl1_null, nl1_ra, cat1_int, cat1_ref, cat1_null, stbs_nil, stbs_cons, stb_int, stb_long, stb_ref, stb_null, stb_ra, alv_nil, alv_cons, alv1_int, alv1_ref, alv1_null, alv1_ra, List.length_nil, List.length_cons, Nat.reduceAdd, Nat.reduceLeDiff, Nat.zero_le, Option.toList_some, Option.toList_none, List.cons_append, List.nil_append, or_true, true_or, or_false, false_or, Nat.reduceEqDiff, not_true_eq_false, not_false_eq_true, false_and, and_false, false_implies, true_implies, implies_true, ne_eq, and_self, ok1]
    refine q g3 ⟨A3, D3, e3, ⟨by rw [e2 7 (by decide), M2.2.2]; exact h3, by rw [e2 10 (by decide), M2.2.2]; exact h4, h5, h6⟩, by rw [e1 41 (by decide), ur_eq]; exact ⟨pos2, R2⟩, fun hk => by rw [e1 42 (by decide), ur_ne (by decide)]; exact h9 hk, fun i hi => by rw [e1 45 (by decide), ur_ne (by decide)]; exact h10 i hi⟩ ((F1.tr M2.1).tr F3)
end Mal
