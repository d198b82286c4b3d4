/-! ===== the model: what is wrong with an order; orders taken back ===== -/
section Mor
variable {g0 g : mG} {Q : mQ} {A0 : Nat → Nat → Nat} {a pos : Nat → Nat} {w snap : Rw} {hist : Nat → Rw} {st kept n : Nat} {t : Nat → Nat}
theorem d_wrong1 {b : Nat} {v x p : Int32} (h : gK g 40 = 8) (hv : ∀ k, k < 6 → v ≠ nI k) (q : Q (some (.int (-1))) g) : w_X7_wrong [.ref 40, .int (nI b), .int v, .int x, .int p] g Q := by
  refine wm_at rfl ⟨trivial, trivial, trivial, trivial, trivial, trivial⟩ (show WP m_X7_wrong Q 0 [.ref 40, .int (nI b), .int v, .int x, .int p] [] g from ?_)
  simp only [e_X7_wrong_0, e_X7_wrong_1, tand, true_and, and_true, nl1_int, nl1_ref, nl1_null, nl1_ra, cat1_int, cat1_ref, cat1_null, stbs_nil, stbs_cons, stb_int, stb_long, stb_ref, stb_null, stb_ra, alv_nil, alv_cons, alv1_int, alv1_ref, alv1_null, alv1_ra, List.length_nil, List.length_cons, Nat.reduceAdd, Nat.reduceLeDiff, Nat.zero_le, Option.toList_some, Option.toList_none, List.cons_append, List.nil_append, or_true, true_or, or_false, false_or, Nat.reduceEqDiff, not_true_eq_false, not_false_eq_true, false_and, and_false, false_implies, true_implies, implies_true, ne_eq, and_self, ok1, h]
  refine c_X7_kF hv ?_
  simp only [e_X7_wrong_4, e_X7_wrong_7, e_X7_wrong_8, tand, true_and, and_true, nl1_int, nl1_ref, nl1_null, nl1_ra, cat1_int, cat1_ref, cat1_null, stbs_nil, stbs_cons, stb_int, stb_long, stb_ref, stb_null, stb_ra, alv_nil, alv_cons, alv1_int, alv1_ref, alv1_null, alv1_ra, List.length_nil, List.length_cons, Nat.reduceAdd, Nat.reduceLeDiff, Nat.zero_le, Option.toList_some, Option.toList_none, List.cons_append, List.nil_append, or_true, true_or, or_false, false_or, Nat.reduceEqDiff, not_true_eq_false, not_false_eq_true, false_and, and_false, false_implies, true_implies, implies_true, ne_eq, and_self, ok1, n0z]
  exact q
theorem d_wrong2 {b k : Nat} {x p : Int32} (M : MT g0 g A0 a) (R : RelB w a pos) (hB : TB w) (hc : wS w 12 ≤ 500) (hk : k < 6) (hx : ¬ ((∃ n', x = nI n' ∧ 1 ≤ n' ∧ n' ≤ 999) ∧ ∃ p', p = nI p' ∧ wS w 11 ≤ p' ∧ p' ≤ wS w 12)) (q : Q (some (.int (-2))) g) : w_X7_wrong [.ref 40, .int (nI b), .int (nI k), .int x, .int p] g Q := by
  refine wm_at rfl ⟨trivial, trivial, trivial, trivial, trivial, trivial⟩ (show WP m_X7_wrong Q 0 [.ref 40, .int (nI b), .int (nI k), .int x, .int p] [] g from ?_)
  have e11 : a 12 = wS w 11 := R.1.s 11 (by decide) (by decide)
  have e12 : a 13 = wS w 12 := R.1.s 12 (by decide) (by decide)
  have f11 := hB.1 11 (by decide)
  simp only [e_X7_wrong_0, e_X7_wrong_1, tand, true_and, and_true, nl1_int, nl1_ref, nl1_null, nl1_ra, cat1_int, cat1_ref, cat1_null, stbs_nil, stbs_cons, stb_int, stb_long, stb_ref, stb_null, stb_ra, alv_nil, alv_cons, alv1_int, alv1_ref, alv1_null, alv1_ra, List.length_nil, List.length_cons, Nat.reduceAdd, Nat.reduceLeDiff, Nat.zero_le, Option.toList_some, Option.toList_none, List.cons_append, List.nil_append, or_true, true_or, or_false, false_or, Nat.reduceEqDiff, not_true_eq_false, not_false_eq_true, false_and, and_false, false_implies, true_implies, implies_true, ne_eq, and_self, ok1, M.k40]
  refine c_X7_kT hk ?_
  simp only [e_X7_wrong_4, e_X7_wrong_9, e_X7_wrong_10, e_X7_wrong_11, e_X7_wrong_14, tand, true_and, and_true, nl1_int, nl1_ref, nl1_null, nl1_ra, cat1_int, cat1_ref, cat1_null, stbs_nil, stbs_cons, stb_int, stb_long, stb_ref, stb_null, stb_ra, alv_nil, alv_cons, alv1_int, alv1_ref, alv1_null, alv1_ra, List.length_nil, List.length_cons, Nat.reduceAdd, Nat.reduceLeDiff, Nat.zero_le, Option.toList_some, Option.toList_none, List.cons_append, List.nil_append, or_true, true_or, or_false, false_or, Nat.reduceEqDiff, not_true_eq_false, not_false_eq_true, false_and, and_false, false_implies, true_implies, implies_true, ne_eq, and_self, ok1, n1z, M.k40]
  refine c_X7_inN (by omega) (by omega) (fun m em m1 m2 => ?_) (fun _ => ?_)
  · simp (disch := omega) only [e_X7_wrong_17, e_X7_wrong_20, e_X7_wrong_22, e_X7_wrong_23, e_X7_wrong_26, e_X7_wrong_28, e_X7_wrong_29, e_X7_wrong_30, e_X7_wrong_33, e_X7_wrong_35, e_X7_wrong_36, tand, true_and, and_true, nl1_int, nl1_ref, nl1_null, nl1_ra, cat1_int, cat1_ref, cat1_null, stbs_nil, stbs_cons, stb_int, stb_long, stb_ref, stb_null, stb_ra, alv_nil, alv_cons, alv1_int, alv1_ref, alv1_null, alv1_ra, List.length_nil, List.length_cons, Nat.reduceAdd, Nat.reduceLeDiff, Nat.zero_le, Option.toList_some, Option.toList_none, List.cons_append, List.nil_append, or_true, true_or, or_false, false_or, Nat.reduceEqDiff, not_true_eq_false, not_false_eq_true, false_and, and_false, false_implies, true_implies, implies_true, ne_eq, and_self, ok1, M.k40, M.r40, z41, M.k41, M.n41, isIA, vpT, nI_clamp, nI_add, M.rd, gK_pI, gN_pI, gR_pI, gI_same, gI_diff, u1_eq, u1_ne, n1z, e11, e12]
    refine c_X7_inF (by omega) (by omega) (fun ⟨p', ep, p1, p2⟩ => hx ⟨⟨m, em, m1, m2⟩, p', ep, p1, p2⟩) ?_
    simp only [e_X7_wrong_39, e_X7_wrong_42, e_X7_wrong_44, tand, true_and, and_true, nl1_int, nl1_ref, nl1_null, nl1_ra, cat1_int, cat1_ref, cat1_null, stbs_nil, stbs_cons, stb_int, stb_long, stb_ref, stb_null, stb_ra, alv_nil, alv_cons, alv1_int, alv1_ref, alv1_null, alv1_ra, List.length_nil, List.length_cons, Nat.reduceAdd, Nat.reduceLeDiff, Nat.zero_le, Option.toList_some, Option.toList_none, List.cons_append, List.nil_append, or_true, true_or, or_false, false_or, Nat.reduceEqDiff, not_true_eq_false, not_false_eq_true, false_and, and_false, false_implies, true_implies, implies_true, ne_eq, and_self, ok1, n0z]
    exact q
  · simp only [e_X7_wrong_17, e_X7_wrong_42, e_X7_wrong_44, tand, true_and, and_true, nl1_int, nl1_ref, nl1_null, nl1_ra, cat1_int, cat1_ref, cat1_null, stbs_nil, stbs_cons, stb_int, stb_long, stb_ref, stb_null, stb_ra, alv_nil, alv_cons, alv1_int, alv1_ref, alv1_null, alv1_ra, List.length_nil, List.length_cons, Nat.reduceAdd, Nat.reduceLeDiff, Nat.zero_le, Option.toList_some, Option.toList_none, List.cons_append, List.nil_append, or_true, true_or, or_false, false_or, Nat.reduceEqDiff, not_true_eq_false, not_false_eq_true, false_and, and_false, false_implies, true_implies, implies_true, ne_eq, and_self, ok1, n0z]
    exact q
theorem d_wrong34 {b k n' p' : Nat} (M : MT g0 g A0 a) (R : RelB w a pos) (hA : InvA w) (hB : TB w) (hb : b ≤ 1) (hc : wS w 12 ≤ 500) (hk : k < 6) (x1 : 1 ≤ n') (x2 : n' ≤ 999) (x3 : wS w 11 ≤ p') (x4 : p' ≤ wS w 12) (q3 : (b = 1 → n' * p' ≤ wK w k 0) → (b = 0 → n' ≤ rt (wP w k)) → Q (some (.int (nI 0))) g) (q4 : (b = 1 → ¬ n' * p' ≤ wK w k 0) → (b = 0 → ¬ n' ≤ rt (wP w k)) → Q (some (.int (-3))) g) : w_X7_wrong [.ref 40, .int (nI b), .int (nI k), .int (nI n'), .int (nI p')] g Q := by
  refine wm_at rfl ⟨trivial, trivial, trivial, trivial, trivial, trivial⟩ (show WP m_X7_wrong Q 0 [.ref 40, .int (nI b), .int (nI k), .int (nI n'), .int (nI p')] [] g from ?_)
  have e11 : a 12 = wS w 11 := R.1.s 11 (by decide) (by decide)
  have e12 : a 13 = wS w 12 := R.1.s 12 (by decide) (by decide)
  have e0 : a (20 + k) = wK w k 0 := R.1.k hk 0 (by decide)
  have f11 := hB.1 11 (by decide)
  have f0 := (hB.2.1 k hk).1 0 (by decide)
  have ft := (hB.2.1 k hk).2
  have hm : n' * p' ≤ 999 * 500 := Nat.mul_le_mul x2 (by omega)
  simp only [e_X7_wrong_0, e_X7_wrong_1, tand, true_and, and_true, nl1_int, nl1_ref, nl1_null, nl1_ra, cat1_int, cat1_ref, cat1_null, stbs_nil, stbs_cons, stb_int, stb_long, stb_ref, stb_null, stb_ra, alv_nil, alv_cons, alv1_int, alv1_ref, alv1_null, alv1_ra, List.length_nil, List.length_cons, Nat.reduceAdd, Nat.reduceLeDiff, Nat.zero_le, Option.toList_some, Option.toList_none, List.cons_append, List.nil_append, or_true, true_or, or_false, false_or, Nat.reduceEqDiff, not_true_eq_false, not_false_eq_true, false_and, and_false, false_implies, true_implies, implies_true, ne_eq, and_self, ok1, M.k40]
  refine c_X7_kT hk ?_
  simp only [e_X7_wrong_4, e_X7_wrong_9, e_X7_wrong_10, e_X7_wrong_11, e_X7_wrong_14, tand, true_and, and_true, nl1_int, nl1_ref, nl1_null, nl1_ra, cat1_int, cat1_ref, cat1_null, stbs_nil, stbs_cons, stb_int, stb_long, stb_ref, stb_null, stb_ra, alv_nil, alv_cons, alv1_int, alv1_ref, alv1_null, alv1_ra, List.length_nil, List.length_cons, Nat.reduceAdd, Nat.reduceLeDiff, Nat.zero_le, Option.toList_some, Option.toList_none, List.cons_append, List.nil_append, or_true, true_or, or_false, false_or, Nat.reduceEqDiff, not_true_eq_false, not_false_eq_true, false_and, and_false, false_implies, true_implies, implies_true, ne_eq, and_self, ok1, n1z, M.k40]
  refine c_X7_inT ⟨x1, x2⟩ (by omega) ?_
  simp (disch := omega) only [e_X7_wrong_17, e_X7_wrong_20, e_X7_wrong_22, e_X7_wrong_23, e_X7_wrong_26, e_X7_wrong_28, e_X7_wrong_29, e_X7_wrong_30, e_X7_wrong_33, e_X7_wrong_35, e_X7_wrong_36, tand, true_and, and_true, nl1_int, nl1_ref, nl1_null, nl1_ra, cat1_int, cat1_ref, cat1_null, stbs_nil, stbs_cons, stb_int, stb_long, stb_ref, stb_null, stb_ra, alv_nil, alv_cons, alv1_int, alv1_ref, alv1_null, alv1_ra, List.length_nil, List.length_cons, Nat.reduceAdd, Nat.reduceLeDiff, Nat.zero_le, Option.toList_some, Option.toList_none, List.cons_append, List.nil_append, or_true, true_or, or_false, false_or, Nat.reduceEqDiff, not_true_eq_false, not_false_eq_true, false_and, and_false, false_implies, true_implies, implies_true, ne_eq, and_self, ok1, M.k40, M.r40, z41, M.k41, M.n41, isIA, vpT, nI_clamp, nI_add, M.rd, gK_pI, gN_pI, gR_pI, gI_same, gI_diff, u1_eq, u1_ne, n1z, e11, e12]
  refine c_X7_inT ⟨x3, x4⟩ (by omega) ?_
  have hbb : b = 1 ∨ b = 0 := by omega
  rcases hbb with hb1 | hb0
  · subst hb1
    simp (disch := omega) only [e_X7_wrong_39, e_X7_wrong_45, e_X7_wrong_46, e_X7_wrong_47, e_X7_wrong_50, e_X7_wrong_51, e_X7_wrong_54, e_X7_wrong_56, e_X7_wrong_57, e_X7_wrong_58, e_X7_wrong_59, e_X7_wrong_60, e_X7_wrong_62, e_X7_wrong_63, tand, true_and, and_true, nl1_int, nl1_ref, nl1_null, nl1_ra, cat1_int, cat1_ref, cat1_null, stbs_nil, stbs_cons, stb_int, stb_long, stb_ref, stb_null, stb_ra, alv_nil, alv_cons, alv1_int, alv1_ref, alv1_null, alv1_ra, List.length_nil, List.length_cons, Nat.reduceAdd, Nat.reduceLeDiff, Nat.zero_le, Option.toList_some, Option.toList_none, List.cons_append, List.nil_append, or_true, true_or, or_false, false_or, Nat.reduceEqDiff, not_true_eq_false, not_false_eq_true, false_and, and_false, false_implies, true_implies, implies_true, ne_eq, and_self, ok1, M.k40, M.r40, z41, M.k41, M.n41, isIA, vpT, nI_clamp, nI_add, M.rd, gK_pI, gN_pI, gR_pI, gI_same, gI_diff, u1_eq, u1_ne, n1z, e0, pk_mul, nI_leE]
    refine ⟨fun h1 => ?_, fun h1 => ?_⟩
    · simp only [e_X7_wrong_71, e_X7_wrong_72, e_X7_wrong_90, tand, true_and, and_true, nl1_int, nl1_ref, nl1_null, nl1_ra, cat1_int, cat1_ref, cat1_null, stbs_nil, stbs_cons, stb_int, stb_long, stb_ref, stb_null, stb_ra, alv_nil, alv_cons, alv1_int, alv1_ref, alv1_null, alv1_ra, List.length_nil, List.length_cons, Nat.reduceAdd, Nat.reduceLeDiff, Nat.zero_le, Option.toList_some, Option.toList_none, List.cons_append, List.nil_append, or_true, true_or, or_false, false_or, Nat.reduceEqDiff, not_true_eq_false, not_false_eq_true, false_and, and_false, false_implies, true_implies, implies_true, ne_eq, and_self, ok1]
      exact q3 (fun _ => h1) (fun e => by omega)
    · simp only [e_X7_wrong_66, e_X7_wrong_68, e_X7_wrong_90, tand, true_and, and_true, nl1_int, nl1_ref, nl1_null, nl1_ra, cat1_int, cat1_ref, cat1_null, stbs_nil, stbs_cons, stb_int, stb_long, stb_ref, stb_null, stb_ra, alv_nil, alv_cons, alv1_int, alv1_ref, alv1_null, alv1_ra, List.length_nil, List.length_cons, Nat.reduceAdd, Nat.reduceLeDiff, Nat.zero_le, Option.toList_some, Option.toList_none, List.cons_append, List.nil_append, or_true, true_or, or_false, false_or, Nat.reduceEqDiff, not_true_eq_false, not_false_eq_true, false_and, and_false, false_implies, true_implies, implies_true, ne_eq, and_self, ok1]
      exact q4 (fun _ => h1) (fun e => by omega)
  · subst hb0
    simp (disch := omega) only [e_X7_wrong_39, e_X7_wrong_45, e_X7_wrong_46, e_X7_wrong_47, e_X7_wrong_75, e_X7_wrong_76, e_X7_wrong_77, tand, true_and, and_true, nl1_int, nl1_ref, nl1_null, nl1_ra, cat1_int, cat1_ref, cat1_null, stbs_nil, stbs_cons, stb_int, stb_long, stb_ref, stb_null, stb_ra, alv_nil, alv_cons, alv1_int, alv1_ref, alv1_null, alv1_ra, List.length_nil, List.length_cons, Nat.reduceAdd, Nat.reduceLeDiff, Nat.zero_le, Option.toList_some, Option.toList_none, List.cons_append, List.nil_append, or_true, true_or, or_false, false_or, Nat.reduceEqDiff, not_true_eq_false, not_false_eq_true, false_and, and_false, false_implies, true_implies, implies_true, ne_eq, and_self, ok1, M.k40, M.r40, z41, M.k41, M.n41, isIA, vpT, nI_clamp, nI_add, M.rd, gK_pI, gN_pI, gR_pI, gI_same, gI_diff, u1_eq, u1_ne, n1z, nI_eqE]
    refine perm_at M R hA hk ?_
    simp (disch := omega) only [e_X7_wrong_80, e_X7_wrong_81, tand, true_and, and_true, nl1_int, nl1_ref, nl1_null, nl1_ra, cat1_int, cat1_ref, cat1_null, stbs_nil, stbs_cons, stb_int, stb_long, stb_ref, stb_null, stb_ra, alv_nil, alv_cons, alv1_int, alv1_ref, alv1_null, alv1_ra, List.length_nil, List.length_cons, Nat.reduceAdd, Nat.reduceLeDiff, Nat.zero_le, Option.toList_some, Option.toList_none, List.cons_append, List.nil_append, or_true, true_or, or_false, false_or, Nat.reduceEqDiff, not_true_eq_false, not_false_eq_true, false_and, and_false, false_implies, true_implies, implies_true, ne_eq, and_self, ok1, nI_leE]
    refine ⟨fun h1 => ?_, fun h1 => ?_⟩
    · simp only [e_X7_wrong_89, e_X7_wrong_90, tand, true_and, and_true, nl1_int, nl1_ref, nl1_null, nl1_ra, cat1_int, cat1_ref, cat1_null, stbs_nil, stbs_cons, stb_int, stb_long, stb_ref, stb_null, stb_ra, alv_nil, alv_cons, alv1_int, alv1_ref, alv1_null, alv1_ra, List.length_nil, List.length_cons, Nat.reduceAdd, Nat.reduceLeDiff, Nat.zero_le, Option.toList_some, Option.toList_none, List.cons_append, List.nil_append, or_true, true_or, or_false, false_or, Nat.reduceEqDiff, not_true_eq_false, not_false_eq_true, false_and, and_false, false_implies, true_implies, implies_true, ne_eq, and_self, ok1]
      exact q3 (fun e => by omega) (fun _ => h1)
    · simp only [e_X7_wrong_84, e_X7_wrong_86, e_X7_wrong_90, tand, true_and, and_true, nl1_int, nl1_ref, nl1_null, nl1_ra, cat1_int, cat1_ref, cat1_null, stbs_nil, stbs_cons, stb_int, stb_long, stb_ref, stb_null, stb_ra, alv_nil, alv_cons, alv1_int, alv1_ref, alv1_null, alv1_ra, List.length_nil, List.length_cons, Nat.reduceAdd, Nat.reduceLeDiff, Nat.zero_le, Option.toList_some, Option.toList_none, List.cons_append, List.nil_append, or_true, true_or, or_false, false_or, Nat.reduceEqDiff, not_true_eq_false, not_false_eq_true, false_and, and_false, false_implies, true_implies, implies_true, ne_eq, and_self, ok1]
      exact q4 (fun e => by omega) (fun _ => h1)
theorem ordered_err {b : Nat} {v x p e : Int32} (h : gK g 40 = 8) (he : ¬ 0 ≤ e) (hw : ∀ Q' : mQ, Q' (some (.int e)) g → w_X7_wrong [.ref 40, .int (nI b), .int v, .int x, .int p] g Q') (q : Q (some (.int e)) g) : w_X7_ordered [.ref 40, .int (nI b), .int v, .int x, .int p] g Q := by
  refine wm_at rfl ⟨trivial, trivial, trivial, trivial, trivial, trivial⟩ (show WP m_X7_ordered Q 0 [.ref 40, .int (nI b), .int v, .int x, .int p, .retAddr 0] [] g from ?_)
  simp only [e_X7_ordered_0, e_X7_ordered_1, e_X7_ordered_2, e_X7_ordered_3, e_X7_ordered_4, e_X7_ordered_6, tand, true_and, and_true, nl1_int, nl1_ref, nl1_null, nl1_ra, cat1_int, cat1_ref, cat1_null, stbs_nil, stbs_cons, stb_int, stb_long, stb_ref, stb_null, stb_ra, alv_nil, alv_cons, alv1_int, alv1_ref, alv1_null, alv1_ra, List.length_nil, List.length_cons, Nat.reduceAdd, Nat.reduceLeDiff, Nat.zero_le, Option.toList_some, Option.toList_none, List.cons_append, List.nil_append, or_true, true_or, or_false, false_or, Nat.reduceEqDiff, not_true_eq_false, not_false_eq_true, false_and, and_false, false_implies, true_implies, implies_true, ne_eq, and_self, ok1, h]
  refine hw _ ?_
  simp only [e_X7_ordered_9, e_X7_ordered_11, e_X7_ordered_13, e_X7_ordered_16, e_X7_ordered_18, tand, true_and, and_true, nl1_int, nl1_ref, nl1_null, nl1_ra, cat1_int, cat1_ref, cat1_null, stbs_nil, stbs_cons, stb_int, stb_long, stb_ref, stb_null, stb_ra, alv_nil, alv_cons, alv1_int, alv1_ref, alv1_null, alv1_ra, List.length_nil, List.length_cons, Nat.reduceAdd, Nat.reduceLeDiff, Nat.zero_le, Option.toList_some, Option.toList_none, List.cons_append, List.nil_append, or_true, true_or, or_false, false_or, Nat.reduceEqDiff, not_true_eq_false, not_false_eq_true, false_and, and_false, false_implies, true_implies, implies_true, ne_eq, and_self, ok1, he]
  exact q
theorem d_ord1 {b : Nat} {v x p : Int32} (h : MB g w hist st kept snap t n) (hv : ∀ k, k < 6 → v ≠ nI k) (q : Q (some (.int (-1))) g) : w_X7_ordered [.ref 40, .int (nI b), .int v, .int x, .int p] g Q := ordered_err h.k40 (by decide) (fun _ q' => d_wrong1 h.k40 hv q') q
theorem d_ord2 {b k : Nat} {x p : Int32} (h : MB g w hist st kept snap t n) (hB : TB w) (hc : wS w 12 ≤ 500) (hk : k < 6) (hx : ¬ ((∃ n', x = nI n' ∧ 1 ≤ n' ∧ n' ≤ 999) ∧ ∃ p', p = nI p' ∧ wS w 11 ≤ p' ∧ p' ≤ wS w 12)) (q : Q (some (.int (-2))) g) : w_X7_ordered [.ref 40, .int (nI b), .int (nI k), .int x, .int p] g Q := by
  obtain ⟨A, pos, M, R, up⟩ := h.at
  exact ordered_err h.k40 (by decide) (fun _ q' => d_wrong2 M R hB hc hk hx q') q
theorem d_ord4 {b k n' p' : Nat} (h : MB g w hist st kept snap t n) (hA : InvA w) (hB : TB w) (hb : b ≤ 1) (hc : wS w 12 ≤ 500) (hk : k < 6) (x1 : 1 ≤ n') (x2 : n' ≤ 999) (x3 : wS w 11 ≤ p') (x4 : p' ≤ wS w 12) (y1 : b = 1 → ¬ n' * p' ≤ wK w k 0) (y2 : b = 0 → ¬ n' ≤ rt (wP w k)) (q : Q (some (.int (-3))) g) : w_X7_ordered [.ref 40, .int (nI b), .int (nI k), .int (nI n'), .int (nI p')] g Q := by
  obtain ⟨A, pos, M, R, up⟩ := h.at
  refine ordered_err h.k40 (by decide) (fun _ q' => d_wrong34 M R hA hB hb hc hk x1 x2 x3 x4 (fun z1 z2 => ?_) fun _ _ => q') q
  have hbb : b = 1 ∨ b = 0 := by omega
  rcases hbb with e | e
  · exact absurd (z1 e) (y1 e)
  · exact absurd (z2 e) (y2 e)
theorem d_ord3 {I : Rw → Prop} (hI : mInv I) (hIA : ∀ w, I w → InvA w) {b k m p' i : Nat} (h : MB g w hist st kept snap t n) (hA : InvA w) (hB : TB w) (hb : b ≤ 1) (hc : wS w 12 ≤ 500) (hk : k < 6) (x1 : 1 ≤ m) (x2 : m ≤ 999) (x3 : wS w 11 ≤ p') (x4 : p' ≤ wS w 12) (y1 : b = 1 → m * p' ≤ wK w k 0) (y2 : b = 0 → m ≤ rt (wP w k)) (hi : i < 17) (h0 : wF w i 3 = 0) (hput : I (opPut w i b k m p'))
    (q : ∀ g', MB g' (opCome w i b k m p') (hcn w hist) (min (st + 1) 4) kept snap t n → FX g g' → Q (some (.int (nI (m - wF (meetF i 17 (opPut w i b k m p')) i 3)))) g') : w_X7_ordered [.ref 40, .int (nI b), .int (nI k), .int (nI m), .int (nI p')] g Q := by
  refine wm_at rfl ⟨trivial, trivial, trivial, trivial, trivial, trivial⟩ (show WP m_X7_ordered Q 0 [.ref 40, .int (nI b), .int (nI k), .int (nI m), .int (nI p'), .retAddr 0] [] g from ?_)
  obtain ⟨A, pos, M, R, up⟩ := h.at
  simp only [e_X7_ordered_0, e_X7_ordered_1, e_X7_ordered_2, e_X7_ordered_3, e_X7_ordered_4, e_X7_ordered_6, tand, true_and, and_true, nl1_int, nl1_ref, nl1_null, nl1_ra, cat1_int, cat1_ref, cat1_null, stbs_nil, stbs_cons, stb_int, stb_long, stb_ref, stb_null, stb_ra, alv_nil, alv_cons, alv1_int, alv1_ref, alv1_null, alv1_ra, List.length_nil, List.length_cons, Nat.reduceAdd, Nat.reduceLeDiff, Nat.zero_le, Option.toList_some, Option.toList_none, List.cons_append, List.nil_append, or_true, true_or, or_false, false_or, Nat.reduceEqDiff, not_true_eq_false, not_false_eq_true, false_and, and_false, false_implies, true_implies, implies_true, ne_eq, and_self, ok1, h.k40]
  refine d_wrong34 M R hA hB hb hc hk x1 x2 x3 x4 (fun _ _ => ?_) (fun z1 z2 => ?_)
  · have l0 : (0 : Int32) ≤ nI 0 := by decide
    simp only [e_X7_ordered_9, e_X7_ordered_11, e_X7_ordered_13, e_X7_ordered_19, e_X7_ordered_20, tand, true_and, and_true, nl1_int, nl1_ref, nl1_null, nl1_ra, cat1_int, cat1_ref, cat1_null, stbs_nil, stbs_cons, stb_int, stb_long, stb_ref, stb_null, stb_ra, alv_nil, alv_cons, alv1_int, alv1_ref, alv1_null, alv1_ra, List.length_nil, List.length_cons, Nat.reduceAdd, Nat.reduceLeDiff, Nat.zero_le, Option.toList_some, Option.toList_none, List.cons_append, List.nil_append, or_true, true_or, or_false, false_or, Nat.reduceEqDiff, not_true_eq_false, not_false_eq_true, false_and, and_false, false_implies, true_implies, implies_true, ne_eq, and_self, ok1, l0, h.k40]
    refine d_record h fun g1 hM F1 => ?_
    obtain ⟨A1, pos1, M1, R1, up1⟩ := hM.at
    simp only [e_X7_ordered_23, e_X7_ordered_24, e_X7_ordered_25, e_X7_ordered_26, e_X7_ordered_27, e_X7_ordered_29, tand, true_and, and_true, nl1_int, nl1_ref, nl1_null, nl1_ra, cat1_int, cat1_ref, cat1_null, stbs_nil, stbs_cons, stb_int, stb_long, stb_ref, stb_null, stb_ra, alv_nil, alv_cons, alv1_int, alv1_ref, alv1_null, alv1_ra, List.length_nil, List.length_cons, Nat.reduceAdd, Nat.reduceLeDiff, Nat.zero_le, Option.toList_some, Option.toList_none, List.cons_append, List.nil_append, or_true, true_or, or_false, false_or, Nat.reduceEqDiff, not_true_eq_false, not_false_eq_true, false_and, and_false, false_implies, true_implies, implies_true, ne_eq, and_self, ok1, hM.k40]
    refine c_X7_comes hI hIA M1 R1 hA hB hb hk x2 (by omega) y1 hi h0 hput fun g2 a2 M2 R2 => ?_
    obtain ⟨r1, r2⟩ := up1 _ _ _ M2 R2
    simp only [e_X7_ordered_32, tand, true_and, and_true, nl1_int, nl1_ref, nl1_null, nl1_ra, cat1_int, cat1_ref, cat1_null, stbs_nil, stbs_cons, stb_int, stb_long, stb_ref, stb_null, stb_ra, alv_nil, alv_cons, alv1_int, alv1_ref, alv1_null, alv1_ra, List.length_nil, List.length_cons, Nat.reduceAdd, Nat.reduceLeDiff, Nat.zero_le, Option.toList_some, Option.toList_none, List.cons_append, List.nil_append, or_true, true_or, or_false, false_or, Nat.reduceEqDiff, not_true_eq_false, not_false_eq_true, false_and, and_false, false_implies, true_implies, implies_true, ne_eq, and_self, ok1]
    exact q g2 r1 (F1.tr r2)
  · have hbb : b = 1 ∨ b = 0 := by omega
    rcases hbb with e | e
    · exact absurd (y1 e) (z1 e)
    · exact absurd (y2 e) (z2 e)
theorem d_bid {v x p : Int32} (h : gK g 40 = 8) (hq : ∀ Q' : mQ, (∀ a g', Q (some (.int a)) g' → Q' (some (.int a)) g') → w_X7_ordered [.ref 40, .int (nI 1), .int v, .int x, .int p] g Q') : w_X7_bid [.ref 40, .int v, .int x, .int p] g Q := by
  refine wm_at rfl ⟨trivial, trivial, trivial, trivial, trivial⟩ (show WP m_X7_bid Q 0 [.ref 40, .int v, .int x, .int p] [] g from ?_)
  simp only [e_X7_bid_0, e_X7_bid_1, e_X7_bid_2, e_X7_bid_3, e_X7_bid_4, e_X7_bid_5, tand, true_and, and_true, nl1_int, nl1_ref, nl1_null, nl1_ra, cat1_int, cat1_ref, cat1_null, stbs_nil, stbs_cons, stb_int, stb_long, stb_ref, stb_null, stb_ra, alv_nil, alv_cons, alv1_int, alv1_ref, alv1_null, alv1_ra, List.length_nil, List.length_cons, Nat.reduceAdd, Nat.reduceLeDiff, Nat.zero_le, Option.toList_some, Option.toList_none, List.cons_append, List.nil_append, or_true, true_or, or_false, false_or, Nat.reduceEqDiff, not_true_eq_false, not_false_eq_true, false_and, and_false, false_implies, true_implies, implies_true, ne_eq, and_self, ok1, h]
  refine hq _ fun a g' h2 => ?_
  simp only [e_X7_bid_8, tand, true_and, and_true, nl1_int, nl1_ref, nl1_null, nl1_ra, cat1_int, cat1_ref, cat1_null, stbs_nil, stbs_cons, stb_int, stb_long, stb_ref, stb_null, stb_ra, alv_nil, alv_cons, alv1_int, alv1_ref, alv1_null, alv1_ra, List.length_nil, List.length_cons, Nat.reduceAdd, Nat.reduceLeDiff, Nat.zero_le, Option.toList_some, Option.toList_none, List.cons_append, List.nil_append, or_true, true_or, or_false, false_or, Nat.reduceEqDiff, not_true_eq_false, not_false_eq_true, false_and, and_false, false_implies, true_implies, implies_true, ne_eq, and_self, ok1]
  exact h2
theorem d_ask {v x p : Int32} (h : gK g 40 = 8) (hq : ∀ Q' : mQ, (∀ a g', Q (some (.int a)) g' → Q' (some (.int a)) g') → w_X7_ordered [.ref 40, .int (nI 0), .int v, .int x, .int p] g Q') : w_X7_ask [.ref 40, .int v, .int x, .int p] g Q := by
  refine wm_at rfl ⟨trivial, trivial, trivial, trivial, trivial⟩ (show WP m_X7_ask Q 0 [.ref 40, .int v, .int x, .int p] [] g from ?_)
  simp only [e_X7_ask_0, e_X7_ask_1, e_X7_ask_2, e_X7_ask_3, e_X7_ask_4, e_X7_ask_5, tand, true_and, and_true, nl1_int, nl1_ref, nl1_null, nl1_ra, cat1_int, cat1_ref, cat1_null, stbs_nil, stbs_cons, stb_int, stb_long, stb_ref, stb_null, stb_ra, alv_nil, alv_cons, alv1_int, alv1_ref, alv1_null, alv1_ra, List.length_nil, List.length_cons, Nat.reduceAdd, Nat.reduceLeDiff, Nat.zero_le, Option.toList_some, Option.toList_none, List.cons_append, List.nil_append, or_true, true_or, or_false, false_or, Nat.reduceEqDiff, not_true_eq_false, not_false_eq_true, false_and, and_false, false_implies, true_implies, implies_true, ne_eq, and_self, ok1, h]
  refine hq _ fun a g' h2 => ?_
  simp only [e_X7_ask_8, tand, true_and, and_true, nl1_int, nl1_ref, nl1_null, nl1_ra, cat1_int, cat1_ref, cat1_null, stbs_nil, stbs_cons, stb_int, stb_long, stb_ref, stb_null, stb_ra, alv_nil, alv_cons, alv1_int, alv1_ref, alv1_null, alv1_ra, List.length_nil, List.length_cons, Nat.reduceAdd, Nat.reduceLeDiff, Nat.zero_le, Option.toList_some, Option.toList_none, List.cons_append, List.nil_append, or_true, true_or, or_false, false_or, Nat.reduceEqDiff, not_true_eq_false, not_false_eq_true, false_and, and_false, false_implies, true_implies, implies_true, ne_eq, and_self, ok1]
  exact h2
/-- the state with the model's numbers named -/
def MBA (g : mG) (A : Nat → Nat → Nat) (w : Rw) (hist : Nat → Rw) (st kept : Nat) (snap : Rw) (t : Nat → Nat) (n : Nat) : Prop := MD g A ∧ HI g A hist st ∧ (gI g 40 7 = nI n ∧ gI g 40 10 = nI kept ∧ n ≤ 60 ∧ kept ≤ 1) ∧ RelN w (A 41) ∧ (kept = 1 → RelN snap (A 42)) ∧ ∀ i, i < n → A 45 i = t i
theorem d_recordA {A : Nat → Nat → Nat} (h : MBA g A w hist st kept snap t n) (q : ∀ g' A', A' 41 = A 41 → MBA g' A' w (hcn w hist) (min (st + 1) 4) kept snap t n → FX g g' → Q none g') : w_X7_record [.ref 40] g Q := by
  obtain ⟨h1, h2, ⟨h3, h4, h5, h6⟩, h7, h9, h10⟩ := h
  refine c_X7_record h1 h2 h7 fun g' A' F D e1 e2 e3 => q g' A' (e1 41 (by decide)) ⟨D, e3, ⟨by rw [e2 7 (by decide)]; exact h3, by rw [e2 10 (by decide)]; exact h4, h5, h6⟩, by rw [e1 41 (by decide)]; exact h7, fun hk => by rw [e1 42 (by decide)]; exact h9 hk, fun i hi => by rw [e1 45 (by decide)]; exact h10 i hi⟩ F
theorem MBA.up {A : Nat → Nat → Nat} {w' : Rw} {a' : Nat → Nat} {g' : mG} (h : MBA g A w hist st kept snap t n) (M : MT g g' A a') (R : RelN w' a') : MB g' w' hist st kept snap t n ∧ FX g g' := by
  obtain ⟨h1, h2, ⟨h3, h4, h5, h6⟩, h7, h9, h10⟩ := h
  exact ⟨⟨_, M.2.1, h2.keep (by rw [M.2.2]) (fun i _ => by rw [ur_ne (by decide)]), ⟨by rw [M.2.2]; exact h3, by rw [M.2.2]; exact h4, h5, h6⟩, by rw [ur_eq]; exact R, fun hk => by rw [ur_ne (by decide)]; exact h9 hk, fun i hi => by rw [ur_ne (by decide)]; exact h10 i hi⟩, M.1⟩
theorem d_tb1 {v : Int32} (h : MB g w hist st kept snap t n) (hno : ∀ i, i < 17 → 0 < wF w i 3 → v ≠ nI (wF w i 0)) (q : Q (some (.int (-1))) g) : w_X7_takeBack [.ref 40, .int v] g Q := by
  refine wm_at rfl ⟨trivial, trivial, trivial⟩ (show WP m_X7_takeBack Q 0 [.ref 40, .int v, .retAddr 0, .retAddr 0] [] g from ?_)
  obtain ⟨A, pos, M, R, up⟩ := h.at
  have m1 : ¬ (0 : Int32) ≤ -1 := by decide
  simp only [e_X7_takeBack_0, e_X7_takeBack_1, e_X7_takeBack_2, tand, true_and, and_true, nl1_int, nl1_ref, nl1_null, nl1_ra, cat1_int, cat1_ref, cat1_null, stbs_nil, stbs_cons, stb_int, stb_long, stb_ref, stb_null, stb_ra, alv_nil, alv_cons, alv1_int, alv1_ref, alv1_null, alv1_ra, List.length_nil, List.length_cons, Nat.reduceAdd, Nat.reduceLeDiff, Nat.zero_le, Option.toList_some, Option.toList_none, List.cons_append, List.nil_append, or_true, true_or, or_false, false_or, Nat.reduceEqDiff, not_true_eq_false, not_false_eq_true, false_and, and_false, false_implies, true_implies, implies_true, ne_eq, and_self, ok1, h.k40]
  refine c_X7_find M R.1.2.2.1.1 (fun x hx ev => ?_) fun _ => ?_
  · obtain ⟨⟨p1, _⟩, ⟨c0, _⟩, _⟩ := R.1.o hx
    rw [c0] at ev
    exact absurd ev.symm (hno _ p1 (R.2 x hx))
  · simp only [e_X7_takeBack_5, e_X7_takeBack_6, e_X7_takeBack_7, e_X7_takeBack_10, e_X7_takeBack_11, tand, true_and, and_true, nl1_int, nl1_ref, nl1_null, nl1_ra, cat1_int, cat1_ref, cat1_null, stbs_nil, stbs_cons, stb_int, stb_long, stb_ref, stb_null, stb_ra, alv_nil, alv_cons, alv1_int, alv1_ref, alv1_null, alv1_ra, List.length_nil, List.length_cons, Nat.reduceAdd, Nat.reduceLeDiff, Nat.zero_le, Option.toList_some, Option.toList_none, List.cons_append, List.nil_append, or_true, true_or, or_false, false_or, Nat.reduceEqDiff, not_true_eq_false, not_false_eq_true, false_and, and_false, false_implies, true_implies, implies_true, ne_eq, and_self, ok1, m1]
    exact q
theorem d_tb2 {i : Nat} (h : MB g w hist st kept snap t n) (hA : InvA w) (hB : TB w) (hi : i < 17) (h0 : 0 < wF w i 3) (q : ∀ g', MB g' (opGive w i) (hcn w hist) (min (st + 1) 4) kept snap t n → FX g g' → Q (some (.int (nI (wF w i 3)))) g') : w_X7_takeBack [.ref 40, .int (nI (wF w i 0))] g Q := by
  refine wm_at rfl ⟨trivial, trivial, trivial⟩ (show WP m_X7_takeBack Q 0 [.ref 40, .int (nI (wF w i 0)), .retAddr 0, .retAddr 0] [] g from ?_)
  obtain ⟨A, hMA⟩ : ∃ A, MBA g A w hist st kept snap t n := h
  obtain ⟨D, _, _, ⟨pos, R, N⟩, _⟩ := id hMA
  have M : MT g g A (A 41) := MT.of D
  have bn := (hB.2.2 i hi).1 0 (by decide)
  simp only [e_X7_takeBack_0, e_X7_takeBack_1, e_X7_takeBack_2, tand, true_and, and_true, nl1_int, nl1_ref, nl1_null, nl1_ra, cat1_int, cat1_ref, cat1_null, stbs_nil, stbs_cons, stb_int, stb_long, stb_ref, stb_null, stb_ra, alv_nil, alv_cons, alv1_int, alv1_ref, alv1_null, alv1_ra, List.length_nil, List.length_cons, Nat.reduceAdd, Nat.reduceLeDiff, Nat.zero_le, Option.toList_some, Option.toList_none, List.cons_append, List.nil_append, or_true, true_or, or_false, false_or, Nat.reduceEqDiff, not_true_eq_false, not_false_eq_true, false_and, and_false, false_implies, true_implies, implies_true, ne_eq, and_self, ok1, M.k40]
  refine c_X7_find M R.2.2.1.1 (fun x hx ev => ?_) fun hno => ?_
  · obtain ⟨⟨p1, _⟩, ⟨c0, c1, c2, c3, c4⟩, c5⟩ := R.o hx
    have bx := (hB.2.2 _ p1).1 0 (by decide)
    rw [c0, nI_eqE (by omega) (by omega)] at ev
    have epi := hA.2.2.1 _ _ p1 hi (N x hx) h0 ev
    have l0 : (0 : Int32) ≤ nI x := nI_pos' (by have := R.2.2.1.1; omega)
    simp only [e_X7_takeBack_5, e_X7_takeBack_6, e_X7_takeBack_7, e_X7_takeBack_12, e_X7_takeBack_13, tand, true_and, and_true, nl1_int, nl1_ref, nl1_null, nl1_ra, cat1_int, cat1_ref, cat1_null, stbs_nil, stbs_cons, stb_int, stb_long, stb_ref, stb_null, stb_ra, alv_nil, alv_cons, alv1_int, alv1_ref, alv1_null, alv1_ra, List.length_nil, List.length_cons, Nat.reduceAdd, Nat.reduceLeDiff, Nat.zero_le, Option.toList_some, Option.toList_none, List.cons_append, List.nil_append, or_true, true_or, or_false, false_or, Nat.reduceEqDiff, not_true_eq_false, not_false_eq_true, false_and, and_false, false_implies, true_implies, implies_true, ne_eq, and_self, ok1, l0, M.k40]
    refine d_recordA hMA fun g1 A1 e41 hM1 F1 => ?_
    have M1 : MT g1 g1 A1 (A1 41) := MT.of hM1.1
    rw [e41] at M1
    generalize A 41 = a at *
    subst epi
    obtain ⟨b1, b2, b3⟩ := hA.2.1 _ p1
    obtain ⟨bi1, bi2, bi3⟩ := hB.2.2 _ p1
    have f3 := bi1 3 (by decide)
    have f1 := bi1 1 (by decide)
    have hY := hA.1.1
    have m16 := R.2.2.1.1
    have k0 : a (20 + wF w (pos x) 2) = wK w (wF w (pos x) 2) 0 := R.k b2 0 (by decide)
    have y0 : a 0 = wS w 0 := R.s 0 (by decide) (by decide)
    -- it leaves
    have tail : ∀ {g2 : mG} {a2 : Nat → Nat}, MT g1 g2 A1 a2 → a2 11 = a 11 → a2 0 = wS w 0 → RelG (opGive w (pos x)) (u1 a2 (112 + x) 0) pos 17 → WP m_X7_takeBack Q 95 [.ref 40, .int (nI (wF w (pos x) 0)), .int (nI x), .int (nI (wF w (pos x) 3))] [] g2 := fun {g2 a2} M2 e11 e0 R2 => by
      simp only [e_X7_takeBack_95, e_X7_takeBack_96, e_X7_takeBack_97, tand, true_and, and_true, nl1_int, nl1_ref, nl1_null, nl1_ra, cat1_int, cat1_ref, cat1_null, stbs_nil, stbs_cons, stb_int, stb_long, stb_ref, stb_null, stb_ra, alv_nil, alv_cons, alv1_int, alv1_ref, alv1_null, alv1_ra, List.length_nil, List.length_cons, Nat.reduceAdd, Nat.reduceLeDiff, Nat.zero_le, Option.toList_some, Option.toList_none, List.cons_append, List.nil_append, or_true, true_or, or_false, false_or, Nat.reduceEqDiff, not_true_eq_false, not_false_eq_true, false_and, and_false, false_implies, true_implies, implies_true, ne_eq, and_self, ok1, M2.k40]
      refine c_X7_leaves M2 e11 hx m16 hY e0 fun g3 a3 M3 hM3 => ?_
      have z0 : wF (opGive w (pos x)) (pos x) 3 = 0 := by
        show u2 w.2.2.2.1 (pos x) 3 0 (pos x) 3 = 0
        rw [u2_eq, u1_eq]
      have hz : ∀ c, c < 17 → ∀ y, wS w 0 < y → wO (opGive w (pos x)) c y = 0 := fun c hc y hy => by
        show ur (wO w) (pos x) (rsu (wO w (pos x)) (rt (wO w (pos x)))) c y = 0
        unfold ur
        by_cases e : c = pos x
        · rw [if_pos e]
          unfold rsu
          rw [hA.1.2.2 _ p1 y hy, Nat.zero_sub]
        · rw [if_neg e]; exact hA.1.2.2 c hc y hy
      have hcells : ∀ c, c < 23144 → (c < 64 ∨ 144 ≤ c ∨ (c - 64) % 16 < a 11 - 1) → a3 c = lvZ (lvA (u1 a2 (112 + x) 0) x (a 11 - 1) (wS w 0)) (a 11 - 1) (wS w 0 + 1) c := fun c hc hr => by
        rw [hM3 c hc]
        unfold lvZ
        by_cases h1 : 6144 + 1000 * (a 11 - 1) ≤ c ∧ c < 6144 + 1000 * (a 11 - 1) + (wS w 0 + 1)
        · rw [if_pos h1, if_pos h1]
        · rw [if_neg h1, if_neg h1]
          by_cases h2 : c = 11
          · rw [if_pos h2, if_pos h2]
          · rw [if_neg h2, if_neg h2]
            unfold lvA
            by_cases h3 : 64 ≤ c ∧ c < 144 ∧ x ≤ (c - 64) % 16 ∧ (c - 64) % 16 < a 11 - 1
            · rw [if_pos h3, if_pos h3, u1_ne (by omega)]
            · rw [if_neg h3, if_neg h3]
              by_cases h4 : 6144 ≤ c ∧ x ≤ (c - 6144) / 1000 ∧ (c - 6144) / 1000 < a 11 - 1 ∧ (c - 6144) % 1000 ≤ wS w 0
              · rw [if_pos h4, if_pos h4, u1_ne (by omega)]
              · rw [if_neg h4, if_neg h4, u1_ne (by omega)]
      obtain ⟨R3, e3⟩ := R2.lv (a' := a3) hx (by rw [u1_ne (by omega)]; exact e11) hY z0 hz hcells
      have hn3 : ∀ z, z < a 11 → z ≠ x → 0 < wF (opGive w (pos x)) (pos z) 3 := fun z hz hzx => by
        show 0 < u2 w.2.2.2.1 (pos x) 3 0 (pos z) 3
        rw [u2_ne fun e => hzx (R.2.2.1.2.2.1 z x hz hx e)]
        exact N z hz
      obtain ⟨r1, r2⟩ := hM1.up M3 ⟨_, R3, RlN.lv hx hn3 e3⟩
      simp only [e_X7_takeBack_100, e_X7_takeBack_101, tand, true_and, and_true, nl1_int, nl1_ref, nl1_null, nl1_ra, cat1_int, cat1_ref, cat1_null, stbs_nil, stbs_cons, stb_int, stb_long, stb_ref, stb_null, stb_ra, alv_nil, alv_cons, alv1_int, alv1_ref, alv1_null, alv1_ra, List.length_nil, List.length_cons, Nat.reduceAdd, Nat.reduceLeDiff, Nat.zero_le, Option.toList_some, Option.toList_none, List.cons_append, List.nil_append, or_true, true_or, or_false, false_or, Nat.reduceEqDiff, not_true_eq_false, not_false_eq_true, false_and, and_false, false_implies, true_implies, implies_true, ne_eq, and_self, ok1]
      exact q g3 r1 (F1.tr r2)
    by_cases hk1 : wF w (pos x) 1 = 1
    · have hbf : hbF w (pos x) = wF w (pos x) 3 * wF w (pos x) 4 := by
        unfold hbF
        rw [if_neg (by omega)]
      have r0 : rt (wO w (pos x)) = 0 := by rw [b3, if_neg (by omega)]
      simp (disch := omega) only [e_X7_takeBack_16, e_X7_takeBack_17, e_X7_takeBack_20, e_X7_takeBack_22, e_X7_takeBack_23, e_X7_takeBack_24, e_X7_takeBack_25, e_X7_takeBack_26, e_X7_takeBack_27, e_X7_takeBack_30, e_X7_takeBack_32, e_X7_takeBack_33, e_X7_takeBack_34, e_X7_takeBack_35, e_X7_takeBack_36, e_X7_takeBack_39, e_X7_takeBack_40, e_X7_takeBack_43, e_X7_takeBack_45, e_X7_takeBack_46, e_X7_takeBack_49, e_X7_takeBack_51, e_X7_takeBack_52, e_X7_takeBack_53, e_X7_takeBack_54, e_X7_takeBack_55, e_X7_takeBack_56, e_X7_takeBack_57, e_X7_takeBack_58, e_X7_takeBack_59, e_X7_takeBack_62, e_X7_takeBack_65, e_X7_takeBack_66, e_X7_takeBack_67, e_X7_takeBack_68, e_X7_takeBack_69, e_X7_takeBack_70, tand, true_and, and_true, nl1_int, nl1_ref, nl1_null, nl1_ra, cat1_int, cat1_ref, cat1_null, stbs_nil, stbs_cons, stb_int, stb_long, stb_ref, stb_null, stb_ra, alv_nil, alv_cons, alv1_int, alv1_ref, alv1_null, alv1_ra, List.length_nil, List.length_cons, Nat.reduceAdd, Nat.reduceLeDiff, Nat.zero_le, Option.toList_some, Option.toList_none, List.cons_append, List.nil_append, or_true, true_or, or_false, false_or, Nat.reduceEqDiff, not_true_eq_false, not_false_eq_true, false_and, and_false, false_implies, true_implies, implies_true, ne_eq, and_self, ok1, M1.k40, M1.r40, z41, M1.k41, M1.n41, isIA, vpT, nI_clamp, nI_add, M1.rd, gK_pI, gN_pI, gR_pI, gI_same, gI_diff, u1_eq, u1_ne, c3, c2, c1, c4, hk1, k0, pk_mul]
      refine M1.wp fun g2 M2 => ?_
      simp only [e_X7_takeBack_71, tand, true_and, and_true, nl1_int, nl1_ref, nl1_null, nl1_ra, cat1_int, cat1_ref, cat1_null, stbs_nil, stbs_cons, stb_int, stb_long, stb_ref, stb_null, stb_ra, alv_nil, alv_cons, alv1_int, alv1_ref, alv1_null, alv1_ra, List.length_nil, List.length_cons, Nat.reduceAdd, Nat.reduceLeDiff, Nat.zero_le, Option.toList_some, Option.toList_none, List.cons_append, List.nil_append, or_true, true_or, or_false, false_or, Nat.reduceEqDiff, not_true_eq_false, not_false_eq_true, false_and, and_false, false_implies, true_implies, implies_true, ne_eq, and_self, ok1]
      refine tail M2 (u1_ne (by omega)) (by rw [u1_ne (by omega)]; exact y0) ?_
      have R2 := (R.setK b2 (f := 0) (by decide) (wK w (wF w (pos x) 2) 0 + wF w (pos x) 3 * wF w (pos x) 4)).setL (x := x) (v := 0) (by rw [u1_ne (by omega)]; exact hx) (Nat.zero_le _)
      refine R2.ext (fun _ _ => rfl) (fun c hc => ⟨fun f hf => ?_, fun y hy => ?_⟩) (fun c hc => ⟨fun _ _ => rfl, fun y hy => ?_⟩)
      · show u2 (wK w) (wF w (pos x) 2) 0 (wK w (wF w (pos x) 2) 0 + hbF w (pos x)) c f = _
        rw [hbf]; rfl
      · show ur (wP w) (wF w (pos x) 2) (rgo (wP w (wF w (pos x) 2)) (wO w (pos x)) (rt (wO w (pos x)))) c y = _
        rw [r0, rgo_0, ur_id rfl]; rfl
      · show ur (wO w) (pos x) (rsu (wO w (pos x)) (rt (wO w (pos x)))) c y = _
        rw [r0, rsu_0, ur_id rfl]; rfl
    · have hk0 : wF w (pos x) 1 = 0 := by omega
      have hbf : hbF w (pos x) = 0 := by
        unfold hbF
        rw [if_pos hk0]
      rw [if_pos hk0] at b3
      simp (disch := omega) only [e_X7_takeBack_16, e_X7_takeBack_17, e_X7_takeBack_20, e_X7_takeBack_22, e_X7_takeBack_23, e_X7_takeBack_24, e_X7_takeBack_25, e_X7_takeBack_26, e_X7_takeBack_27, e_X7_takeBack_30, e_X7_takeBack_32, e_X7_takeBack_33, e_X7_takeBack_34, e_X7_takeBack_35, e_X7_takeBack_36, e_X7_takeBack_74, e_X7_takeBack_75, e_X7_takeBack_76, tand, true_and, and_true, nl1_int, nl1_ref, nl1_null, nl1_ra, cat1_int, cat1_ref, cat1_null, stbs_nil, stbs_cons, stb_int, stb_long, stb_ref, stb_null, stb_ra, alv_nil, alv_cons, alv1_int, alv1_ref, alv1_null, alv1_ra, List.length_nil, List.length_cons, Nat.reduceAdd, Nat.reduceLeDiff, Nat.zero_le, Option.toList_some, Option.toList_none, List.cons_append, List.nil_append, or_true, true_or, or_false, false_or, Nat.reduceEqDiff, not_true_eq_false, not_false_eq_true, false_and, and_false, false_implies, true_implies, implies_true, ne_eq, and_self, ok1, M1.k40, M1.r40, z41, M1.k41, M1.n41, isIA, vpT, nI_clamp, nI_add, M1.rd, gK_pI, gN_pI, gR_pI, gI_same, gI_diff, u1_eq, u1_ne, c3, c2, hk0, nI_eqE]
      refine c_X7_offer ?_
      simp (disch := omega) only [e_X7_takeBack_79, e_X7_takeBack_80, e_X7_takeBack_83, e_X7_takeBack_85, e_X7_takeBack_86, e_X7_takeBack_87, e_X7_takeBack_88, tand, true_and, and_true, nl1_int, nl1_ref, nl1_null, nl1_ra, cat1_int, cat1_ref, cat1_null, stbs_nil, stbs_cons, stb_int, stb_long, stb_ref, stb_null, stb_ra, alv_nil, alv_cons, alv1_int, alv1_ref, alv1_null, alv1_ra, List.length_nil, List.length_cons, Nat.reduceAdd, Nat.reduceLeDiff, Nat.zero_le, Option.toList_some, Option.toList_none, List.cons_append, List.nil_append, or_true, true_or, or_false, false_or, Nat.reduceEqDiff, not_true_eq_false, not_false_eq_true, false_and, and_false, false_implies, true_implies, implies_true, ne_eq, and_self, ok1, M1.k40, M1.r40, z41, M1.k41, M1.n41, isIA, vpT, nI_clamp, nI_add, M1.rd, gK_pI, gN_pI, gR_pI, gI_same, gI_diff, u1_eq, u1_ne, c1]
      refine c_X7_own ?_
      simp (disch := omega) only [e_X7_takeBack_91, e_X7_takeBack_92, tand, true_and, and_true, nl1_int, nl1_ref, nl1_null, nl1_ra, cat1_int, cat1_ref, cat1_null, stbs_nil, stbs_cons, stb_int, stb_long, stb_ref, stb_null, stb_ra, alv_nil, alv_cons, alv1_int, alv1_ref, alv1_null, alv1_ra, List.length_nil, List.length_cons, Nat.reduceAdd, Nat.reduceLeDiff, Nat.zero_le, Option.toList_some, Option.toList_none, List.cons_append, List.nil_append, or_true, true_or, or_false, false_or, Nat.reduceEqDiff, not_true_eq_false, not_false_eq_true, false_and, and_false, false_implies, true_implies, implies_true, ne_eq, and_self, ok1, M1.k40, M1.r40, z41, M1.k41, M1.n41, isIA, vpT, nI_clamp, nI_add, M1.rd, gK_pI, gN_pI, gR_pI, gI_same, gI_diff, u1_eq, u1_ne]
      refine c_X7_moves M1 f3 y0 hY (by omega) (by omega) (by omega) (fun y hy => ?_) fun g2 a2 M2 hM2 => ?_
      · rw [c5 y (by omega)]
        have := rt_ge (r := wO w (pos x)) (y := y) (by omega)
        omega
      · have M3 := M2.ext (b := mvN a (6144 + 1000 * x) (144 + 1000 * wF w (pos x) 2) (wF w (pos x) 3) (wS w 0) 1000) fun c _ => (hM2 c).symm
        refine tail M3 (mv_n (by omega) (by omega)) (by rw [mv_n (by omega) (by omega)]; exact y0) ?_
        have R2 := (R.mvXK (m := wF w (pos x) 3) hx b2 hY (hA.1.2.2 _ p1)).setL (x := x) (v := 0) (by rw [mv_n (by omega) (by omega)]; exact hx) (Nat.zero_le _)
        refine R2.ext (fun _ _ => rfl) (fun c hc => ⟨fun f hf => ?_, fun y hy => ?_⟩) (fun c hc => ⟨fun _ _ => rfl, fun y hy => ?_⟩)
        · show u2 (wK w) (wF w (pos x) 2) 0 (wK w (wF w (pos x) 2) 0 + hbF w (pos x)) c f = _
          rw [hbf, u2_id (Nat.add_zero _)]; rfl
        · show ur (wP w) (wF w (pos x) 2) (rgo (wP w (wF w (pos x) 2)) (wO w (pos x)) (rt (wO w (pos x)))) c y = _
          rw [b3]; rfl
        · show ur (wO w) (pos x) (rsu (wO w (pos x)) (rt (wO w (pos x)))) c y = _
          rw [b3]; rfl
  · obtain ⟨x, hx, ex⟩ := R.2.2.1.2.2.2 i hi (by omega) h0
    exact absurd (by rw [(R.o hx).2.1.1, ex]) (hno x hx)
end Mor
