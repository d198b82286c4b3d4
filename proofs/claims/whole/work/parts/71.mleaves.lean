/-! ===== the model: an order leaves ===== -/
/-- the orders from x up to k have moved one place on -/
def lvA (a : Nat → Nat) (x k Y : Nat) : Nat → Nat := fun i => if 64 ≤ i ∧ i < 144 ∧ x ≤ (i - 64) % 16 ∧ (i - 64) % 16 < k then a (i + 1) else if 6144 ≤ i ∧ x ≤ (i - 6144) / 1000 ∧ (i - 6144) / 1000 < k ∧ (i - 6144) % 1000 ≤ Y then a (i + 1000) else a i
/-- and the years below y of the row of k -/
def lvB (a : Nat → Nat) (x k Y y : Nat) : Nat → Nat := fun i => if 64 ≤ i ∧ i < 144 ∧ x ≤ (i - 64) % 16 ∧ (i - 64) % 16 < k + 1 then a (i + 1) else if 6144 ≤ i ∧ x ≤ (i - 6144) / 1000 ∧ ((i - 6144) / 1000 < k ∧ (i - 6144) % 1000 ≤ Y ∨ (i - 6144) / 1000 = k ∧ (i - 6144) % 1000 < y) then a (i + 1000) else a i
def lvZ (a : Nat → Nat) (m y : Nat) : Nat → Nat := fun i => if 6144 + 1000 * m ≤ i ∧ i < 6144 + 1000 * m + y then 0 else if i = 11 then m else a i
/-- neither long nor a row that moves -/
def okl (v : Value) : Prop := nl1 v ∧ ∀ g, stb g v = True
section Mlv
variable {Q : mQ} {A0 : Nat → Nat → Nat} {a : Nat → Nat} {g0 : mG}
theorem lv_rows {x k Y : Nat} (hxk : x ≤ k) (hk : k < 15) (hY : Y < 1000) (q : ∀ g a' l3, okl l3 → MT g0 g A0 a' → (∀ i, i < 23144 → a' i = lvA a x (k + 1) Y i) → WP m_X7_leaves Q 159 [.ref 40, .int (nI x), .int (nI k), l3] [] g) : ∀ (d y : Nat) {g : mG} {a' : Nat → Nat}, y + d = Y + 1 → MT g0 g A0 a' → a 0 = Y → (∀ i, i < 23144 → a' i = lvB a x k Y y i) → WP m_X7_leaves Q 119 [.ref 40, .int (nI x), .int (nI k), .int (nI y)] [] g := by
  intro d
  induction d with
  | zero =>
    intro y g a' hy M hY0 hM
    have e0 : a' 0 = Y := by rw [hM 0 (by decide)]; unfold lvB; rw [if_neg (by omega), if_neg (by omega)]; exact hY0
    have hlt : Y < y := by omega
    simp (disch := omega) only [e_X7_leaves_119, e_X7_leaves_120, e_X7_leaves_121, e_X7_leaves_124, e_X7_leaves_125, e_X7_leaves_126, tand, true_and, and_true, nl1_int, nl1_ref, nl1_null, nl1_ra, cat1_int, cat1_ref, cat1_null, stbs_nil, stbs_cons, stb_int, stb_long, stb_ref, stb_null, stb_ra, alv_nil, alv_cons, alv1_int, alv1_ref, alv1_null, alv1_ra, List.length_nil, List.length_cons, Nat.reduceAdd, Nat.reduceLeDiff, Nat.zero_le, Option.toList_some, Option.toList_none, List.cons_append, List.nil_append, or_true, true_or, or_false, false_or, Nat.reduceEqDiff, not_true_eq_false, not_false_eq_true, false_and, and_false, false_implies, true_implies, implies_true, ne_eq, and_self, ok1, M.k40, M.r40, z41, M.k41, M.n41, isIA, vpT, nI_clamp, nI_add, M.rd, gK_pI, gN_pI, gR_pI, gI_same, gI_diff, u1_eq, u1_ne, e0, nI_ltE, hlt]
    refine q g a' _ ⟨trivial, fun _ => rfl⟩ M fun i hi => ?_
    rw [hM i hi]
    unfold lvA lvB
    by_cases h1 : 64 ≤ i ∧ i < 144 ∧ x ≤ (i - 64) % 16 ∧ (i - 64) % 16 < k + 1
    · rw [if_pos h1, if_pos h1]
    · rw [if_neg h1, if_neg h1]
      by_cases h2 : 6144 ≤ i ∧ x ≤ (i - 6144) / 1000 ∧ (i - 6144) / 1000 < k + 1 ∧ (i - 6144) % 1000 ≤ Y
      · rw [if_pos h2, if_pos (by omega)]
      · rw [if_neg h2, if_neg (by omega)]
  | succ d ih =>
    intro y g a' hy M hY0 hM
    have e0 : a' 0 = Y := by rw [hM 0 (by decide)]; unfold lvB; rw [if_neg (by omega), if_neg (by omega)]; exact hY0
    have hlt : ¬ Y < y := by omega
    have er : a' (6144 + 1000 * (k + 1) + y) = a (6144 + 1000 * (k + 1) + y) := by
      rw [hM _ (by omega)]
      unfold lvB
      rw [if_neg (by omega), if_neg (by omega)]
    simp (disch := omega) only [e_X7_leaves_119, e_X7_leaves_120, e_X7_leaves_121, e_X7_leaves_124, e_X7_leaves_125, e_X7_leaves_126, e_X7_leaves_129, e_X7_leaves_130, e_X7_leaves_133, e_X7_leaves_134, tand, true_and, and_true, nl1_int, nl1_ref, nl1_null, nl1_ra, cat1_int, cat1_ref, cat1_null, stbs_nil, stbs_cons, stb_int, stb_long, stb_ref, stb_null, stb_ra, alv_nil, alv_cons, alv1_int, alv1_ref, alv1_null, alv1_ra, List.length_nil, List.length_cons, Nat.reduceAdd, Nat.reduceLeDiff, Nat.zero_le, Option.toList_some, Option.toList_none, List.cons_append, List.nil_append, or_true, true_or, or_false, false_or, Nat.reduceEqDiff, not_true_eq_false, not_false_eq_true, false_and, and_false, false_implies, true_implies, implies_true, ne_eq, and_self, ok1, M.k40, M.r40, z41, M.k41, M.n41, isIA, vpT, nI_clamp, nI_add, M.rd, gK_pI, gN_pI, gR_pI, gI_same, gI_diff, u1_eq, u1_ne, e0, nI_ltE, hlt]
    refine c_X7_offer ?_
    simp (disch := omega) only [e_X7_leaves_137, e_X7_leaves_138, e_X7_leaves_139, e_X7_leaves_140, e_X7_leaves_143, e_X7_leaves_144, e_X7_leaves_145, e_X7_leaves_146, tand, true_and, and_true, nl1_int, nl1_ref, nl1_null, nl1_ra, cat1_int, cat1_ref, cat1_null, stbs_nil, stbs_cons, stb_int, stb_long, stb_ref, stb_null, stb_ra, alv_nil, alv_cons, alv1_int, alv1_ref, alv1_null, alv1_ra, List.length_nil, List.length_cons, Nat.reduceAdd, Nat.reduceLeDiff, Nat.zero_le, Option.toList_some, Option.toList_none, List.cons_append, List.nil_append, or_true, true_or, or_false, false_or, Nat.reduceEqDiff, not_true_eq_false, not_false_eq_true, false_and, and_false, false_implies, true_implies, implies_true, ne_eq, and_self, ok1, M.k40, M.r40, z41, M.k41, M.n41, isIA, vpT, nI_clamp, nI_add, M.rd, gK_pI, gN_pI, gR_pI, gI_same, gI_diff, u1_eq, u1_ne]
    refine c_X7_offer ?_
    simp (disch := omega) only [e_X7_leaves_149, e_X7_leaves_150, e_X7_leaves_151, e_X7_leaves_152, e_X7_leaves_153, tand, true_and, and_true, nl1_int, nl1_ref, nl1_null, nl1_ra, cat1_int, cat1_ref, cat1_null, stbs_nil, stbs_cons, stb_int, stb_long, stb_ref, stb_null, stb_ra, alv_nil, alv_cons, alv1_int, alv1_ref, alv1_null, alv1_ra, List.length_nil, List.length_cons, Nat.reduceAdd, Nat.reduceLeDiff, Nat.zero_le, Option.toList_some, Option.toList_none, List.cons_append, List.nil_append, or_true, true_or, or_false, false_or, Nat.reduceEqDiff, not_true_eq_false, not_false_eq_true, false_and, and_false, false_implies, true_implies, implies_true, ne_eq, and_self, ok1, M.k40, M.r40, z41, M.k41, M.n41, isIA, vpT, nI_clamp, nI_add, M.rd, gK_pI, gN_pI, gR_pI, gI_same, gI_diff, u1_eq, u1_ne, er]
    simp only [e_X7_leaves_156, tand, true_and, and_true, nl1_int, nl1_ref, nl1_null, nl1_ra, cat1_int, cat1_ref, cat1_null, stbs_nil, stbs_cons, stb_int, stb_long, stb_ref, stb_null, stb_ra, alv_nil, alv_cons, alv1_int, alv1_ref, alv1_null, alv1_ra, List.length_nil, List.length_cons, Nat.reduceAdd, Nat.reduceLeDiff, Nat.zero_le, Option.toList_some, Option.toList_none, List.cons_append, List.nil_append, or_true, true_or, or_false, false_or, Nat.reduceEqDiff, not_true_eq_false, not_false_eq_true, false_and, and_false, false_implies, true_implies, implies_true, ne_eq, and_self, ok1]
    refine ih (y + 1) (by omega) (M.set _ _) hY0 fun i hi => ?_
    unfold u1
    by_cases h1 : i = 6144 + 1000 * k + y
    · rw [if_pos h1]
      unfold lvB
      rw [if_neg (by omega), if_pos (by omega), h1]
      congr 1; omega
    · rw [if_neg h1, hM i hi]
      unfold lvB
      by_cases h2 : 64 ≤ i ∧ i < 144 ∧ x ≤ (i - 64) % 16 ∧ (i - 64) % 16 < k + 1
      · rw [if_pos h2, if_pos h2]
      · rw [if_neg h2, if_neg h2]
        by_cases h3 : 6144 ≤ i ∧ x ≤ (i - 6144) / 1000 ∧ ((i - 6144) / 1000 < k ∧ (i - 6144) % 1000 ≤ Y ∨ (i - 6144) / 1000 = k ∧ (i - 6144) % 1000 < y)
        · rw [if_pos h3, if_pos (by omega)]
        · rw [if_neg h3, if_neg (by omega)]
theorem lv_loop {x m Y : Nat} (hm : 1 ≤ m ∧ m ≤ 16) (hY : Y < 1000) (hY0 : a 0 = Y) (ha : a 11 = m) (q : ∀ g a' l3, okl l3 → MT g0 g A0 a' → (∀ i, i < 23144 → a' i = lvA a x (m - 1) Y i) → WP m_X7_leaves Q 165 [.ref 40, .int (nI x), .int (nI (m - 1)), l3] [] g) : ∀ (d k : Nat) {g : mG} {a' : Nat → Nat} {l3 : Value}, okl l3 → k + d = m - 1 → x ≤ k → MT g0 g A0 a' → (∀ i, i < 23144 → a' i = lvA a x k Y i) → WP m_X7_leaves Q 2 [.ref 40, .int (nI x), .int (nI k), l3] [] g := by
  have h1m : 1 ≤ m := hm.1
  intro d
  induction d with
  | zero =>
    intro k g a' l3 hl hk hxk M hM
    have e : k = m - 1 := by omega
    have e11 : a' 11 = m := by rw [hM 11 (by decide)]; unfold lvA; rw [if_neg (by omega), if_neg (by omega)]; exact ha
    subst e
    simp (disch := omega) only [e_X7_leaves_2, e_X7_leaves_3, e_X7_leaves_4, e_X7_leaves_7, e_X7_leaves_9, e_X7_leaves_10, e_X7_leaves_11, e_X7_leaves_12, tand, true_and, and_true, nl1_int, nl1_ref, nl1_null, nl1_ra, cat1_int, cat1_ref, cat1_null, stbs_nil, stbs_cons, stb_int, stb_long, stb_ref, stb_null, stb_ra, alv_nil, alv_cons, alv1_int, alv1_ref, alv1_null, alv1_ra, List.length_nil, List.length_cons, Nat.reduceAdd, Nat.reduceLeDiff, Nat.zero_le, Option.toList_some, Option.toList_none, List.cons_append, List.nil_append, or_true, true_or, or_false, false_or, Nat.reduceEqDiff, not_true_eq_false, not_false_eq_true, false_and, and_false, false_implies, true_implies, implies_true, ne_eq, and_self, ok1, M.k40, M.r40, z41, M.k41, M.n41, isIA, vpT, nI_clamp, nI_add, M.rd, gK_pI, gN_pI, gR_pI, gI_same, gI_diff, u1_eq, u1_ne, e11, pk_sub h1m, nI_leE, Nat.le_refl]
    exact q g a' l3 hl M hM
  | succ d ih =>
    intro k g a' l3 hl hk hxk M hM
    have e11 : a' 11 = m := by rw [hM 11 (by decide)]; unfold lvA; rw [if_neg (by omega), if_neg (by omega)]; exact ha
    have hle : ¬ m - 1 ≤ k := by omega
    have fl : ∀ c, c < 5 → a' (64 + 16 * c + k + 1) = a (64 + 16 * c + k + 1) := fun c hc => by
      rw [hM _ (by omega)]
      unfold lvA
      rw [if_neg (by omega), if_neg (by omega)]
    have f0 : a' (64 + k + 1) = a (64 + k + 1) := fl 0 (by decide)
    have f1 : a' (80 + k + 1) = a (80 + k + 1) := fl 1 (by decide)
    have f2 : a' (96 + k + 1) = a (96 + k + 1) := fl 2 (by decide)
    have f3 : a' (112 + k + 1) = a (112 + k + 1) := fl 3 (by decide)
    have f4 : a' (128 + k + 1) = a (128 + k + 1) := fl 4 (by decide)
    simp (disch := omega) only [e_X7_leaves_2, e_X7_leaves_3, e_X7_leaves_4, e_X7_leaves_7, e_X7_leaves_9, e_X7_leaves_10, e_X7_leaves_11, e_X7_leaves_12, e_X7_leaves_15, e_X7_leaves_16, e_X7_leaves_19, e_X7_leaves_21, e_X7_leaves_22, e_X7_leaves_23, e_X7_leaves_24, e_X7_leaves_27, e_X7_leaves_29, e_X7_leaves_30, e_X7_leaves_31, e_X7_leaves_32, e_X7_leaves_33, e_X7_leaves_34, tand, true_and, and_true, nl1_int, nl1_ref, nl1_null, nl1_ra, cat1_int, cat1_ref, cat1_null, stbs_nil, stbs_cons, stb_int, stb_long, stb_ref, stb_null, stb_ra, alv_nil, alv_cons, alv1_int, alv1_ref, alv1_null, alv1_ra, List.length_nil, List.length_cons, Nat.reduceAdd, Nat.reduceLeDiff, Nat.zero_le, Option.toList_some, Option.toList_none, List.cons_append, List.nil_append, or_true, true_or, or_false, false_or, Nat.reduceEqDiff, not_true_eq_false, not_false_eq_true, false_and, and_false, false_implies, true_implies, implies_true, ne_eq, and_self, ok1, M.k40, M.r40, z41, M.k41, M.n41, isIA, vpT, nI_clamp, nI_add, M.rd, gK_pI, gN_pI, gR_pI, gI_same, gI_diff, u1_eq, u1_ne, e11, pk_sub h1m, nI_leE, hle, f0, hl.1]
    refine M.wp fun g1 M1 => ?_
    simp (disch := omega) only [e_X7_leaves_35, e_X7_leaves_36, e_X7_leaves_39, e_X7_leaves_41, e_X7_leaves_42, e_X7_leaves_43, e_X7_leaves_44, e_X7_leaves_47, e_X7_leaves_49, e_X7_leaves_50, e_X7_leaves_51, e_X7_leaves_52, e_X7_leaves_53, e_X7_leaves_54, tand, true_and, and_true, nl1_int, nl1_ref, nl1_null, nl1_ra, cat1_int, cat1_ref, cat1_null, stbs_nil, stbs_cons, stb_int, stb_long, stb_ref, stb_null, stb_ra, alv_nil, alv_cons, alv1_int, alv1_ref, alv1_null, alv1_ra, List.length_nil, List.length_cons, Nat.reduceAdd, Nat.reduceLeDiff, Nat.zero_le, Option.toList_some, Option.toList_none, List.cons_append, List.nil_append, or_true, true_or, or_false, false_or, Nat.reduceEqDiff, not_true_eq_false, not_false_eq_true, false_and, and_false, false_implies, true_implies, implies_true, ne_eq, and_self, ok1, M1.k40, M1.r40, z41, M1.k41, M1.n41, isIA, vpT, nI_clamp, nI_add, M1.rd, gK_pI, gN_pI, gR_pI, gI_same, gI_diff, u1_eq, u1_ne, f1]
    refine M1.wp fun g2 M2 => ?_
    simp (disch := omega) only [e_X7_leaves_55, e_X7_leaves_56, e_X7_leaves_59, e_X7_leaves_61, e_X7_leaves_62, e_X7_leaves_63, e_X7_leaves_64, e_X7_leaves_67, e_X7_leaves_69, e_X7_leaves_70, e_X7_leaves_71, e_X7_leaves_72, e_X7_leaves_73, e_X7_leaves_74, tand, true_and, and_true, nl1_int, nl1_ref, nl1_null, nl1_ra, cat1_int, cat1_ref, cat1_null, stbs_nil, stbs_cons, stb_int, stb_long, stb_ref, stb_null, stb_ra, alv_nil, alv_cons, alv1_int, alv1_ref, alv1_null, alv1_ra, List.length_nil, List.length_cons, Nat.reduceAdd, Nat.reduceLeDiff, Nat.zero_le, Option.toList_some, Option.toList_none, List.cons_append, List.nil_append, or_true, true_or, or_false, false_or, Nat.reduceEqDiff, not_true_eq_false, not_false_eq_true, false_and, and_false, false_implies, true_implies, implies_true, ne_eq, and_self, ok1, M2.k40, M2.r40, z41, M2.k41, M2.n41, isIA, vpT, nI_clamp, nI_add, M2.rd, gK_pI, gN_pI, gR_pI, gI_same, gI_diff, u1_eq, u1_ne, f2]
    refine M2.wp fun g3 M3 => ?_
    simp (disch := omega) only [e_X7_leaves_75, e_X7_leaves_76, e_X7_leaves_79, e_X7_leaves_81, e_X7_leaves_82, e_X7_leaves_83, e_X7_leaves_84, e_X7_leaves_87, e_X7_leaves_89, e_X7_leaves_90, e_X7_leaves_91, e_X7_leaves_92, e_X7_leaves_93, e_X7_leaves_94, tand, true_and, and_true, nl1_int, nl1_ref, nl1_null, nl1_ra, cat1_int, cat1_ref, cat1_null, stbs_nil, stbs_cons, stb_int, stb_long, stb_ref, stb_null, stb_ra, alv_nil, alv_cons, alv1_int, alv1_ref, alv1_null, alv1_ra, List.length_nil, List.length_cons, Nat.reduceAdd, Nat.reduceLeDiff, Nat.zero_le, Option.toList_some, Option.toList_none, List.cons_append, List.nil_append, or_true, true_or, or_false, false_or, Nat.reduceEqDiff, not_true_eq_false, not_false_eq_true, false_and, and_false, false_implies, true_implies, implies_true, ne_eq, and_self, ok1, M3.k40, M3.r40, z41, M3.k41, M3.n41, isIA, vpT, nI_clamp, nI_add, M3.rd, gK_pI, gN_pI, gR_pI, gI_same, gI_diff, u1_eq, u1_ne, f3]
    refine M3.wp fun g4 M4 => ?_
    simp (disch := omega) only [e_X7_leaves_95, e_X7_leaves_96, e_X7_leaves_99, e_X7_leaves_102, e_X7_leaves_103, e_X7_leaves_104, e_X7_leaves_105, e_X7_leaves_108, e_X7_leaves_111, e_X7_leaves_112, e_X7_leaves_113, e_X7_leaves_114, e_X7_leaves_115, e_X7_leaves_116, e_X7_leaves_117, e_X7_leaves_118, tand, true_and, and_true, nl1_int, nl1_ref, nl1_null, nl1_ra, cat1_int, cat1_ref, cat1_null, stbs_nil, stbs_cons, stb_int, stb_long, stb_ref, stb_null, stb_ra, alv_nil, alv_cons, alv1_int, alv1_ref, alv1_null, alv1_ra, List.length_nil, List.length_cons, Nat.reduceAdd, Nat.reduceLeDiff, Nat.zero_le, Option.toList_some, Option.toList_none, List.cons_append, List.nil_append, or_true, true_or, or_false, false_or, Nat.reduceEqDiff, not_true_eq_false, not_false_eq_true, false_and, and_false, false_implies, true_implies, implies_true, ne_eq, and_self, ok1, M4.k40, M4.r40, z41, M4.k41, M4.n41, isIA, vpT, nI_clamp, nI_add, M4.rd, gK_pI, gN_pI, gR_pI, gI_same, gI_diff, u1_eq, u1_ne, f4, hl.1]
    refine M4.wp fun g5 M5 => ?_
    refine lv_rows hxk (by omega) hY (fun g6 a6 l3 hl3 M6 hM6 => ?_) (Y + 1) 0 (Nat.zero_add _) M5 hY0 fun i hi => ?_
    · simp (disch := omega) only [e_X7_leaves_159, e_X7_leaves_162, tand, true_and, and_true, nl1_int, nl1_ref, nl1_null, nl1_ra, cat1_int, cat1_ref, cat1_null, stbs_nil, stbs_cons, stb_int, stb_long, stb_ref, stb_null, stb_ra, alv_nil, alv_cons, alv1_int, alv1_ref, alv1_null, alv1_ra, List.length_nil, List.length_cons, Nat.reduceAdd, Nat.reduceLeDiff, Nat.zero_le, Option.toList_some, Option.toList_none, List.cons_append, List.nil_append, or_true, true_or, or_false, false_or, Nat.reduceEqDiff, not_true_eq_false, not_false_eq_true, false_and, and_false, false_implies, true_implies, implies_true, ne_eq, and_self, ok1, nI_add]
      exact ih (k + 1) hl3 (by omega) (by omega) M6 hM6
    · unfold lvB
      by_cases h1 : 64 ≤ i ∧ i < 144 ∧ x ≤ (i - 64) % 16 ∧ (i - 64) % 16 < k + 1
      · rw [if_pos h1]
        by_cases g0 : i = 128 + k
        · rw [g0, u1_eq]
        · rw [u1_ne g0]
          by_cases g1 : i = 112 + k
          · rw [g1, u1_eq]
          · rw [u1_ne g1]
            by_cases g2 : i = 96 + k
            · rw [g2, u1_eq]
            · rw [u1_ne g2]
              by_cases g3 : i = 80 + k
              · rw [g3, u1_eq]
              · rw [u1_ne g3]
                by_cases g4 : i = 64 + k
                · rw [g4, u1_eq]
                · rw [u1_ne g4, hM i hi]
                  unfold lvA
                  rw [if_pos (by omega)]
      · rw [if_neg h1, u1_ne (by omega), u1_ne (by omega), u1_ne (by omega), u1_ne (by omega), u1_ne (by omega), hM i hi]
        unfold lvA
        rw [if_neg (by omega)]
        by_cases h2 : 6144 ≤ i ∧ x ≤ (i - 6144) / 1000 ∧ (i - 6144) / 1000 < k ∧ (i - 6144) % 1000 ≤ Y
        · rw [if_pos h2, if_pos (by omega)]
        · rw [if_neg h2, if_neg (by omega)]
theorem lv_zero {m Y : Nat} (hm : m ≤ 15) (hY : Y < 1000) (hY0 : a 0 = Y) (q : ∀ g a', MT g0 g A0 a' → (∀ i, i < 23144 → a' i = lvZ a m (Y + 1) i) → Q none g) : ∀ (d y : Nat) {g : mG} {a' : Nat → Nat} {xv : Int32} {l3 : Value}, y + d = Y + 1 → MT g0 g A0 a' → (∀ i, i < 23144 → a' i = lvZ a m y i) → okl l3 → WP m_X7_leaves Q 178 [.ref 40, .int xv, .int (nI y), l3] [] g := by
  intro d
  induction d with
  | zero =>
    intro y g a' xv l3 hy M hM hl
    have e0 : a' 0 = Y := by rw [hM 0 (by decide)]; unfold lvZ; rw [if_neg (by omega), if_neg (by omega)]; exact hY0
    have hlt : Y < y := by omega
    have e : y = Y + 1 := by omega
    simp (disch := omega) only [e_X7_leaves_178, e_X7_leaves_179, e_X7_leaves_180, e_X7_leaves_183, e_X7_leaves_184, e_X7_leaves_185, e_X7_leaves_212, tand, true_and, and_true, nl1_int, nl1_ref, nl1_null, nl1_ra, cat1_int, cat1_ref, cat1_null, stbs_nil, stbs_cons, stb_int, stb_long, stb_ref, stb_null, stb_ra, alv_nil, alv_cons, alv1_int, alv1_ref, alv1_null, alv1_ra, List.length_nil, List.length_cons, Nat.reduceAdd, Nat.reduceLeDiff, Nat.zero_le, Option.toList_some, Option.toList_none, List.cons_append, List.nil_append, or_true, true_or, or_false, false_or, Nat.reduceEqDiff, not_true_eq_false, not_false_eq_true, false_and, and_false, false_implies, true_implies, implies_true, ne_eq, and_self, ok1, M.k40, M.r40, z41, M.k41, M.n41, isIA, vpT, nI_clamp, nI_add, M.rd, gK_pI, gN_pI, gR_pI, gI_same, gI_diff, u1_eq, u1_ne, e0, nI_ltE, hlt]
    rw [← e] at q
    exact q g a' M hM
  | succ d ih =>
    intro y g a' xv l3 hy M hM hl
    have e0 : a' 0 = Y := by rw [hM 0 (by decide)]; unfold lvZ; rw [if_neg (by omega), if_neg (by omega)]; exact hY0
    have e11 : a' 11 = m := by rw [hM 11 (by decide)]; unfold lvZ; rw [if_neg (by omega), if_pos rfl]
    have hlt : ¬ Y < y := by omega
    simp (disch := omega) only [e_X7_leaves_178, e_X7_leaves_179, e_X7_leaves_180, e_X7_leaves_183, e_X7_leaves_184, e_X7_leaves_185, e_X7_leaves_188, e_X7_leaves_189, e_X7_leaves_192, e_X7_leaves_193, e_X7_leaves_196, e_X7_leaves_198, e_X7_leaves_199, tand, true_and, and_true, nl1_int, nl1_ref, nl1_null, nl1_ra, cat1_int, cat1_ref, cat1_null, stbs_nil, stbs_cons, stb_int, stb_long, stb_ref, stb_null, stb_ra, alv_nil, alv_cons, alv1_int, alv1_ref, alv1_null, alv1_ra, List.length_nil, List.length_cons, Nat.reduceAdd, Nat.reduceLeDiff, Nat.zero_le, Option.toList_some, Option.toList_none, List.cons_append, List.nil_append, or_true, true_or, or_false, false_or, Nat.reduceEqDiff, not_true_eq_false, not_false_eq_true, false_and, and_false, false_implies, true_implies, implies_true, ne_eq, and_self, ok1, M.k40, M.r40, z41, M.k41, M.n41, isIA, vpT, nI_clamp, nI_add, M.rd, gK_pI, gN_pI, gR_pI, gI_same, gI_diff, u1_eq, u1_ne, e0, e11, nI_ltE, hlt, hl.2]
    refine c_X7_offer ?_
    simp (disch := omega) only [e_X7_leaves_202, e_X7_leaves_203, e_X7_leaves_204, e_X7_leaves_205, e_X7_leaves_206, tand, true_and, and_true, nl1_int, nl1_ref, nl1_null, nl1_ra, cat1_int, cat1_ref, cat1_null, stbs_nil, stbs_cons, stb_int, stb_long, stb_ref, stb_null, stb_ra, alv_nil, alv_cons, alv1_int, alv1_ref, alv1_null, alv1_ra, List.length_nil, List.length_cons, Nat.reduceAdd, Nat.reduceLeDiff, Nat.zero_le, Option.toList_some, Option.toList_none, List.cons_append, List.nil_append, or_true, true_or, or_false, false_or, Nat.reduceEqDiff, not_true_eq_false, not_false_eq_true, false_and, and_false, false_implies, true_implies, implies_true, ne_eq, and_self, ok1, M.k40, M.r40, z41, M.k41, M.n41, isIA, vpT, nI_clamp, nI_add, M.rd, gK_pI, gN_pI, gR_pI, gI_same, gI_diff, u1_eq, u1_ne]
    simp only [e_X7_leaves_209, tand, true_and, and_true, nl1_int, nl1_ref, nl1_null, nl1_ra, cat1_int, cat1_ref, cat1_null, stbs_nil, stbs_cons, stb_int, stb_long, stb_ref, stb_null, stb_ra, alv_nil, alv_cons, alv1_int, alv1_ref, alv1_null, alv1_ra, List.length_nil, List.length_cons, Nat.reduceAdd, Nat.reduceLeDiff, Nat.zero_le, Option.toList_some, Option.toList_none, List.cons_append, List.nil_append, or_true, true_or, or_false, false_or, Nat.reduceEqDiff, not_true_eq_false, not_false_eq_true, false_and, and_false, false_implies, true_implies, implies_true, ne_eq, and_self, ok1]
    refine ih (y + 1) (by omega) (M.set _ _) (fun i hi => ?_) hl
    unfold u1
    by_cases h1 : i = 6144 + 1000 * m + y
    · rw [if_pos h1]
      unfold lvZ
      rw [if_pos (by omega)]
    · rw [if_neg h1, hM i hi]
      unfold lvZ
      by_cases h2 : 6144 + 1000 * m ≤ i ∧ i < 6144 + 1000 * m + y
      · rw [if_pos h2, if_pos (by omega)]
      · rw [if_neg h2, if_neg (show ¬ (6144 + 1000 * m ≤ i ∧ i < 6144 + 1000 * m + (y + 1)) by omega)]
theorem c_X7_leaves {g : mG} {x m Y : Nat} (M : MT g0 g A0 a) (ha : a 11 = m) (hx : x < m) (hm : m ≤ 16) (hY : Y < 1000) (hY0 : a 0 = Y) (q : ∀ g' a', MT g0 g' A0 a' → (∀ i, i < 23144 → a' i = lvZ (lvA a x (m - 1) Y) (m - 1) (Y + 1) i) → Q none g') : w_X7_leaves [.ref 40, .int (nI x)] g Q := by
  refine wm_at rfl ⟨trivial, trivial, trivial⟩ (show WP m_X7_leaves Q 0 [.ref 40, .int (nI x), .retAddr 0, .retAddr 0] [] g from ?_)
  have h1m : 1 ≤ m := by omega
  simp only [e_X7_leaves_0, e_X7_leaves_1, tand, true_and, and_true, nl1_int, nl1_ref, nl1_null, nl1_ra, cat1_int, cat1_ref, cat1_null, stbs_nil, stbs_cons, stb_int, stb_long, stb_ref, stb_null, stb_ra, alv_nil, alv_cons, alv1_int, alv1_ref, alv1_null, alv1_ra, List.length_nil, List.length_cons, Nat.reduceAdd, Nat.reduceLeDiff, Nat.zero_le, Option.toList_some, Option.toList_none, List.cons_append, List.nil_append, or_true, true_or, or_false, false_or, Nat.reduceEqDiff, not_true_eq_false, not_false_eq_true, false_and, and_false, false_implies, true_implies, implies_true, ne_eq, and_self, ok1]
  refine lv_loop ⟨h1m, hm⟩ hY hY0 ha (fun g1 a1 l3 hl M1 hM1 => ?_) (m - 1 - x) x ⟨trivial, fun _ => rfl⟩ (by omega) (Nat.le_refl x) M fun i hi => ?_
  · have e11 : a1 11 = m := by rw [hM1 11 (by decide)]; unfold lvA; rw [if_neg (by omega), if_neg (by omega)]; exact ha
    have e0 : lvA a x (m - 1) Y 0 = Y := by unfold lvA; rw [if_neg (by omega), if_neg (by omega)]; exact hY0
    simp (disch := omega) only [e_X7_leaves_165, e_X7_leaves_166, e_X7_leaves_169, e_X7_leaves_171, e_X7_leaves_172, e_X7_leaves_173, e_X7_leaves_174, e_X7_leaves_175, e_X7_leaves_176, e_X7_leaves_177, tand, true_and, and_true, nl1_int, nl1_ref, nl1_null, nl1_ra, cat1_int, cat1_ref, cat1_null, stbs_nil, stbs_cons, stb_int, stb_long, stb_ref, stb_null, stb_ra, alv_nil, alv_cons, alv1_int, alv1_ref, alv1_null, alv1_ra, List.length_nil, List.length_cons, Nat.reduceAdd, Nat.reduceLeDiff, Nat.zero_le, Option.toList_some, Option.toList_none, List.cons_append, List.nil_append, or_true, true_or, or_false, false_or, Nat.reduceEqDiff, not_true_eq_false, not_false_eq_true, false_and, and_false, false_implies, true_implies, implies_true, ne_eq, and_self, ok1, M1.k40, M1.r40, z41, M1.k41, M1.n41, isIA, vpT, nI_clamp, nI_add, M1.rd, gK_pI, gN_pI, gR_pI, gI_same, gI_diff, u1_eq, u1_ne, e11, pk_sub h1m]
    refine M1.wp fun g2 M2 => ?_
    refine lv_zero (a := lvA a x (m - 1) Y) (m := m - 1) (by omega) hY e0 q (Y + 1) 0 (Nat.zero_add _) M2 (fun i hi => ?_) hl
    unfold u1 lvZ
    rw [if_neg (show ¬ (6144 + 1000 * (m - 1) ≤ i ∧ i < 6144 + 1000 * (m - 1) + 0) by omega)]
    by_cases h1 : i = 11
    · rw [if_pos h1, if_pos h1]
    · rw [if_neg h1, if_neg h1]
      exact hM1 i hi
  · unfold lvA
    rw [if_neg (by omega), if_neg (by omega)]
end Mlv
