/-! ===== the law's sums ===== -/
section Lsu
variable {w snap : Rw} {u st kept n : Nat} {t : Nat → Nat} {hist : Nat → Rw} {Q : mQ} {g : mG}
theorem sums_end (hM : MA g w hist st kept snap t n) (hG : Good w u) (hu : u ≤ 6000) (q : Q (some (.int (nI 1))) g) : WP m_L_sums Q 103 [.ref 20, .int (nI (acN w 6)), .int (nI (apN w 6)), .int (nI 6)] [] g := by
  have tb := hG.1.1.tb hu
  have hI := hG.1.1.1
  have a1 := hM.k20
  obtain ⟨⟨c1, c2⟩, ⟨c3, c4, c5⟩, c6, c7⟩ := hG.1.1.2.2.2.1
  have f1 := tb.1 1 (by decide)
  have f5 := tb.1 5 (by decide)
  have eC := acN_eq hI
  have eP := apN_eq hI
  have hC : acN w 6 + wS w 9 + wS w 10 = 6000 := by
    rw [eC]
    show hS w + cS w + wS w 9 + wS w 10 = 6000
    omega
  have hP : wS w 1 + wS w 5 - wS w 2 = apN w 6 := by
    rw [eP]
    show _ = oS w + pS w
    omega
  have hsub : nI (wS w 1 + wS w 5) - nI (wS w 2) = nI (wS w 1 + wS w 5 - wS w 2) := pk_sub (by omega)
  have e1 : cuN w st n 1 = apN w 6 := rfl
  have e2 : cuN w st n 2 = wS w 1 := rfl
  have e3 : cuN w st n 3 = wS w 2 := rfl
  have e5 : cuN w st n 5 = wS w 4 := rfl
  have e6 : cuN w st n 6 = wS w 5 := rfl
  have e11 : cuN w st n 11 = acN w 6 := rfl
  have e12 : cuN w st n 12 = wS w 9 := rfl
  have e13 : cuN w st n 13 = wS w 10 := rfl
  simp (disch := omega) only [e_L_sums_103, e_L_sums_104, e_L_sums_105, e_L_sums_106, e_L_sums_109, e_L_sums_109n, e_L_sums_110, e_L_sums_112, tand, true_and, and_true, nl1_int, nl1_ref, nl1_null, nl1_ra, cat1_int, cat1_ref, cat1_null, stbs_nil, stbs_cons, stb_int, stb_long, stb_ref, stb_null, stb_ra, alv_nil, alv_cons, alv1_int, alv1_ref, alv1_null, alv1_ra, List.length_nil, List.length_cons, Nat.reduceAdd, Nat.reduceLeDiff, Nat.zero_le, Option.toList_some, Option.toList_none, List.cons_append, List.nil_append, or_true, true_or, or_false, false_or, Nat.reduceEqDiff, not_true_eq_false, not_false_eq_true, false_and, and_false, false_implies, true_implies, implies_true, ne_eq, and_self, ok1, a1, n0z]
  refine a_count hM tb (by decide) (by decide) ?_
  simp (disch := omega) only [e_L_sums_115, e_L_sums_116, e_L_sums_119, e_L_sums_120, e_L_sums_120n, e_L_sums_121, e_L_sums_123, tand, true_and, and_true, nl1_int, nl1_ref, nl1_null, nl1_ra, cat1_int, cat1_ref, cat1_null, stbs_nil, stbs_cons, stb_int, stb_long, stb_ref, stb_null, stb_ra, alv_nil, alv_cons, alv1_int, alv1_ref, alv1_null, alv1_ra, List.length_nil, List.length_cons, Nat.reduceAdd, Nat.reduceLeDiff, Nat.zero_le, Option.toList_some, Option.toList_none, List.cons_append, List.nil_append, or_true, true_or, or_false, false_or, Nat.reduceEqDiff, not_true_eq_false, not_false_eq_true, false_and, and_false, false_implies, true_implies, implies_true, ne_eq, and_self, ok1, a1, e11, eq_self]
  refine a_count hM tb (by decide) (by decide) ?_
  simp (disch := omega) only [e_L_sums_126, e_L_sums_127, e_L_sums_127n, e_L_sums_128, e_L_sums_130, tand, true_and, and_true, nl1_int, nl1_ref, nl1_null, nl1_ra, cat1_int, cat1_ref, cat1_null, stbs_nil, stbs_cons, stb_int, stb_long, stb_ref, stb_null, stb_ra, alv_nil, alv_cons, alv1_int, alv1_ref, alv1_null, alv1_ra, List.length_nil, List.length_cons, Nat.reduceAdd, Nat.reduceLeDiff, Nat.zero_le, Option.toList_some, Option.toList_none, List.cons_append, List.nil_append, or_true, true_or, or_false, false_or, Nat.reduceEqDiff, not_true_eq_false, not_false_eq_true, false_and, and_false, false_implies, true_implies, implies_true, ne_eq, and_self, ok1, a1, e12, nI_add]
  refine a_count hM tb (by decide) (by decide) ?_
  simp (disch := omega) only [e_L_sums_133, e_L_sums_134, e_L_sums_137, e_L_sums_140, e_L_sums_140n, e_L_sums_141, e_L_sums_142, tand, true_and, and_true, nl1_int, nl1_ref, nl1_null, nl1_ra, cat1_int, cat1_ref, cat1_null, stbs_nil, stbs_cons, stb_int, stb_long, stb_ref, stb_null, stb_ra, alv_nil, alv_cons, alv1_int, alv1_ref, alv1_null, alv1_ra, List.length_nil, List.length_cons, Nat.reduceAdd, Nat.reduceLeDiff, Nat.zero_le, Option.toList_some, Option.toList_none, List.cons_append, List.nil_append, or_true, true_or, or_false, false_or, Nat.reduceEqDiff, not_true_eq_false, not_false_eq_true, false_and, and_false, false_implies, true_implies, implies_true, ne_eq, and_self, ok1, a1, e13, nI_add, hC, eq_self]
  refine a_count hM tb (by decide) (by decide) ?_
  simp (disch := omega) only [e_L_sums_145, e_L_sums_146, e_L_sums_149, e_L_sums_150, e_L_sums_150n, e_L_sums_151, e_L_sums_152, tand, true_and, and_true, nl1_int, nl1_ref, nl1_null, nl1_ra, cat1_int, cat1_ref, cat1_null, stbs_nil, stbs_cons, stb_int, stb_long, stb_ref, stb_null, stb_ra, alv_nil, alv_cons, alv1_int, alv1_ref, alv1_null, alv1_ra, List.length_nil, List.length_cons, Nat.reduceAdd, Nat.reduceLeDiff, Nat.zero_le, Option.toList_some, Option.toList_none, List.cons_append, List.nil_append, or_true, true_or, or_false, false_or, Nat.reduceEqDiff, not_true_eq_false, not_false_eq_true, false_and, and_false, false_implies, true_implies, implies_true, ne_eq, and_self, ok1, a1, e1, eq_self]
  refine a_count hM tb (by decide) (by decide) ?_
  simp (disch := omega) only [e_L_sums_155, e_L_sums_155n, e_L_sums_156, e_L_sums_158, tand, true_and, and_true, nl1_int, nl1_ref, nl1_null, nl1_ra, cat1_int, cat1_ref, cat1_null, stbs_nil, stbs_cons, stb_int, stb_long, stb_ref, stb_null, stb_ra, alv_nil, alv_cons, alv1_int, alv1_ref, alv1_null, alv1_ra, List.length_nil, List.length_cons, Nat.reduceAdd, Nat.reduceLeDiff, Nat.zero_le, Option.toList_some, Option.toList_none, List.cons_append, List.nil_append, or_true, true_or, or_false, false_or, Nat.reduceEqDiff, not_true_eq_false, not_false_eq_true, false_and, and_false, false_implies, true_implies, implies_true, ne_eq, and_self, ok1, a1, e2]
  refine a_count hM tb (by decide) (by decide) ?_
  simp (disch := omega) only [e_L_sums_161, e_L_sums_162, e_L_sums_162n, e_L_sums_163, e_L_sums_164, tand, true_and, and_true, nl1_int, nl1_ref, nl1_null, nl1_ra, cat1_int, cat1_ref, cat1_null, stbs_nil, stbs_cons, stb_int, stb_long, stb_ref, stb_null, stb_ra, alv_nil, alv_cons, alv1_int, alv1_ref, alv1_null, alv1_ra, List.length_nil, List.length_cons, Nat.reduceAdd, Nat.reduceLeDiff, Nat.zero_le, Option.toList_some, Option.toList_none, List.cons_append, List.nil_append, or_true, true_or, or_false, false_or, Nat.reduceEqDiff, not_true_eq_false, not_false_eq_true, false_and, and_false, false_implies, true_implies, implies_true, ne_eq, and_self, ok1, a1, e6, nI_add]
  refine a_count hM tb (by decide) (by decide) ?_
  simp (disch := omega) only [e_L_sums_167, e_L_sums_168, e_L_sums_171, e_L_sums_171n, e_L_sums_172, e_L_sums_173, tand, true_and, and_true, nl1_int, nl1_ref, nl1_null, nl1_ra, cat1_int, cat1_ref, cat1_null, stbs_nil, stbs_cons, stb_int, stb_long, stb_ref, stb_null, stb_ra, alv_nil, alv_cons, alv1_int, alv1_ref, alv1_null, alv1_ra, List.length_nil, List.length_cons, Nat.reduceAdd, Nat.reduceLeDiff, Nat.zero_le, Option.toList_some, Option.toList_none, List.cons_append, List.nil_append, or_true, true_or, or_false, false_or, Nat.reduceEqDiff, not_true_eq_false, not_false_eq_true, false_and, and_false, false_implies, true_implies, implies_true, ne_eq, and_self, ok1, a1, e3, hsub, hP, eq_self]
  refine a_count hM tb (by decide) (by decide) ?_
  simp (disch := omega) only [e_L_sums_176, e_L_sums_176n, e_L_sums_177, e_L_sums_179, tand, true_and, and_true, nl1_int, nl1_ref, nl1_null, nl1_ra, cat1_int, cat1_ref, cat1_null, stbs_nil, stbs_cons, stb_int, stb_long, stb_ref, stb_null, stb_ra, alv_nil, alv_cons, alv1_int, alv1_ref, alv1_null, alv1_ra, List.length_nil, List.length_cons, Nat.reduceAdd, Nat.reduceLeDiff, Nat.zero_le, Option.toList_some, Option.toList_none, List.cons_append, List.nil_append, or_true, true_or, or_false, false_or, Nat.reduceEqDiff, not_true_eq_false, not_false_eq_true, false_and, and_false, false_implies, true_implies, implies_true, ne_eq, and_self, ok1, a1, e5]
  refine a_count hM tb (by decide) (by decide) ?_
  simp (disch := omega) only [e_L_sums_182, e_L_sums_183, e_L_sums_186, e_L_sums_189, e_L_sums_189n, e_L_sums_190, e_L_sums_191, tand, true_and, and_true, nl1_int, nl1_ref, nl1_null, nl1_ra, cat1_int, cat1_ref, cat1_null, stbs_nil, stbs_cons, stb_int, stb_long, stb_ref, stb_null, stb_ra, alv_nil, alv_cons, alv1_int, alv1_ref, alv1_null, alv1_ra, List.length_nil, List.length_cons, Nat.reduceAdd, Nat.reduceLeDiff, Nat.zero_le, Option.toList_some, Option.toList_none, List.cons_append, List.nil_append, or_true, true_or, or_false, false_or, Nat.reduceEqDiff, not_true_eq_false, not_false_eq_true, false_and, and_false, false_implies, true_implies, implies_true, ne_eq, and_self, ok1, a1, e6, nI_add, c4, eq_self]
  refine c_Lorders1 hM hG hu ?_
  simp (disch := omega) only [e_L_sums_194, e_L_sums_197, e_L_sums_197n, e_L_sums_198, e_L_sums_199, tand, true_and, and_true, nl1_int, nl1_ref, nl1_null, nl1_ra, cat1_int, cat1_ref, cat1_null, stbs_nil, stbs_cons, stb_int, stb_long, stb_ref, stb_null, stb_ra, alv_nil, alv_cons, alv1_int, alv1_ref, alv1_null, alv1_ra, List.length_nil, List.length_cons, Nat.reduceAdd, Nat.reduceLeDiff, Nat.zero_le, Option.toList_some, Option.toList_none, List.cons_append, List.nil_append, or_true, true_or, or_false, false_or, Nat.reduceEqDiff, not_true_eq_false, not_false_eq_true, false_and, and_false, false_implies, true_implies, implies_true, ne_eq, and_self, ok1, a1, n1z]
  refine c_Lorders0 hM hG hu ?_
  simp (disch := omega) only [e_L_sums_202, e_L_sums_205, e_L_sums_206, tand, true_and, and_true, nl1_int, nl1_ref, nl1_null, nl1_ra, cat1_int, cat1_ref, cat1_null, stbs_nil, stbs_cons, stb_int, stb_long, stb_ref, stb_null, stb_ra, alv_nil, alv_cons, alv1_int, alv1_ref, alv1_null, alv1_ra, List.length_nil, List.length_cons, Nat.reduceAdd, Nat.reduceLeDiff, Nat.zero_le, Option.toList_some, Option.toList_none, List.cons_append, List.nil_append, or_true, true_or, or_false, false_or, Nat.reduceEqDiff, not_true_eq_false, not_false_eq_true, false_and, and_false, false_implies, true_implies, implies_true, ne_eq, and_self, ok1, n1z]
  simp (disch := omega) only [e_L_sums_210, tand, true_and, and_true, nl1_int, nl1_ref, nl1_null, nl1_ra, cat1_int, cat1_ref, cat1_null, stbs_nil, stbs_cons, stb_int, stb_long, stb_ref, stb_null, stb_ra, alv_nil, alv_cons, alv1_int, alv1_ref, alv1_null, alv1_ra, List.length_nil, List.length_cons, Nat.reduceAdd, Nat.reduceLeDiff, Nat.zero_le, Option.toList_some, Option.toList_none, List.cons_append, List.nil_append, or_true, true_or, or_false, false_or, Nat.reduceEqDiff, not_true_eq_false, not_false_eq_true, false_and, and_false, false_implies, true_implies, implies_true, ne_eq, and_self, ok1, bE1]
  exact q
theorem sums_loop (hM : MA g w hist st kept snap t n) (hG : Good w u) (hu : u ≤ 6000) (q : WP m_L_sums Q 62 [.ref 20, .int (nI (acN w 6)), .int (nI (apN w 6)), .int (nI 6)] [] g) : ∀ (d k : Nat), k + d = 6 → WP m_L_sums Q 6 [.ref 20, .int (nI (acN w k)), .int (nI (apN w k)), .int (nI k)] [] g := by
  have tb := hG.1.1.tb hu
  have a1 := hM.k20
  intro d
  induction d with
  | zero =>
    intro k hk
    have e : k = 6 := by omega
    subst e
    simp (disch := omega) only [e_L_sums_6, e_L_sums_7, e_L_sums_9, tand, true_and, and_true, nl1_int, nl1_ref, nl1_null, nl1_ra, cat1_int, cat1_ref, cat1_null, stbs_nil, stbs_cons, stb_int, stb_long, stb_ref, stb_null, stb_ra, alv_nil, alv_cons, alv1_int, alv1_ref, alv1_null, alv1_ra, List.length_nil, List.length_cons, Nat.reduceAdd, Nat.reduceLeDiff, Nat.zero_le, Option.toList_some, Option.toList_none, List.cons_append, List.nil_append, or_true, true_or, or_false, false_or, Nat.reduceEqDiff, not_true_eq_false, not_false_eq_true, false_and, and_false, false_implies, true_implies, implies_true, ne_eq, and_self, ok1, nI_leE]
    exact q
  | succ d ih =>
    intro k hk
    have hlt : ¬ 6 ≤ k := by omega
    have k0 : kaN w k 0 = wK w k 0 := rfl
    have k1 : kaN w k 1 = rt (wP w k) := rfl
    have k10 : kaN w k 10 = ofN w k := rfl
    have k11 : kaN w k 11 = hdN w k := rfl
    have e1 : acN w (k + 1) = acN w k + (wK w k 0 + hdN w k) := rfl
    have e2 : apN w (k + 1) = apN w k + (rt (wP w k) + ofN w k) := rfl
    have next := ih (k + 1) (by omega)
    rw [e1, e2] at next
    simp (disch := omega) only [e_L_sums_6, e_L_sums_7, e_L_sums_9, e_L_sums_12, e_L_sums_12n, e_L_sums_13, e_L_sums_14, tand, true_and, and_true, nl1_int, nl1_ref, nl1_null, nl1_ra, cat1_int, cat1_ref, cat1_null, stbs_nil, stbs_cons, stb_int, stb_long, stb_ref, stb_null, stb_ra, alv_nil, alv_cons, alv1_int, alv1_ref, alv1_null, alv1_ra, List.length_nil, List.length_cons, Nat.reduceAdd, Nat.reduceLeDiff, Nat.zero_le, Option.toList_some, Option.toList_none, List.cons_append, List.nil_append, or_true, true_or, or_false, false_or, Nat.reduceEqDiff, not_true_eq_false, not_false_eq_true, false_and, and_false, false_implies, true_implies, implies_true, ne_eq, and_self, ok1, a1, nI_leE, hlt]
    refine c_Lkiln hM hG hu (by omega) ?_
    simp (disch := omega) only [e_L_sums_17, e_L_sums_22, e_L_sums_23, e_L_sums_23n, e_L_sums_24, e_L_sums_25, e_L_sums_26, tand, true_and, and_true, nl1_int, nl1_ref, nl1_null, nl1_ra, cat1_int, cat1_ref, cat1_null, stbs_nil, stbs_cons, stb_int, stb_long, stb_ref, stb_null, stb_ra, alv_nil, alv_cons, alv1_int, alv1_ref, alv1_null, alv1_ra, List.length_nil, List.length_cons, Nat.reduceAdd, Nat.reduceLeDiff, Nat.zero_le, Option.toList_some, Option.toList_none, List.cons_append, List.nil_append, or_true, true_or, or_false, false_or, Nat.reduceEqDiff, not_true_eq_false, not_false_eq_true, false_and, and_false, false_implies, true_implies, implies_true, ne_eq, and_self, ok1, a1, n1z]
    refine a_kiln hM tb (by omega) (by decide) (by decide) ?_
    simp (disch := omega) only [e_L_sums_29, e_L_sums_29n, e_L_sums_30, e_L_sums_31, e_L_sums_33, tand, true_and, and_true, nl1_int, nl1_ref, nl1_null, nl1_ra, cat1_int, cat1_ref, cat1_null, stbs_nil, stbs_cons, stb_int, stb_long, stb_ref, stb_null, stb_ra, alv_nil, alv_cons, alv1_int, alv1_ref, alv1_null, alv1_ra, List.length_nil, List.length_cons, Nat.reduceAdd, Nat.reduceLeDiff, Nat.zero_le, Option.toList_some, Option.toList_none, List.cons_append, List.nil_append, or_true, true_or, or_false, false_or, Nat.reduceEqDiff, not_true_eq_false, not_false_eq_true, false_and, and_false, false_implies, true_implies, implies_true, ne_eq, and_self, ok1, a1, k0]
    refine a_kiln hM tb (by omega) (by decide) (by decide) ?_
    simp (disch := omega) only [e_L_sums_36, e_L_sums_37, e_L_sums_38, e_L_sums_39, e_L_sums_40, e_L_sums_40n, e_L_sums_41, e_L_sums_42, e_L_sums_43, tand, true_and, and_true, nl1_int, nl1_ref, nl1_null, nl1_ra, cat1_int, cat1_ref, cat1_null, stbs_nil, stbs_cons, stb_int, stb_long, stb_ref, stb_null, stb_ra, alv_nil, alv_cons, alv1_int, alv1_ref, alv1_null, alv1_ra, List.length_nil, List.length_cons, Nat.reduceAdd, Nat.reduceLeDiff, Nat.zero_le, Option.toList_some, Option.toList_none, List.cons_append, List.nil_append, or_true, true_or, or_false, false_or, Nat.reduceEqDiff, not_true_eq_false, not_false_eq_true, false_and, and_false, false_implies, true_implies, implies_true, ne_eq, and_self, ok1, a1, k11, nI_add]
    refine a_kiln hM tb (by omega) (by decide) (by decide) ?_
    simp (disch := omega) only [e_L_sums_46, e_L_sums_46n, e_L_sums_47, e_L_sums_48, e_L_sums_50, tand, true_and, and_true, nl1_int, nl1_ref, nl1_null, nl1_ra, cat1_int, cat1_ref, cat1_null, stbs_nil, stbs_cons, stb_int, stb_long, stb_ref, stb_null, stb_ra, alv_nil, alv_cons, alv1_int, alv1_ref, alv1_null, alv1_ra, List.length_nil, List.length_cons, Nat.reduceAdd, Nat.reduceLeDiff, Nat.zero_le, Option.toList_some, Option.toList_none, List.cons_append, List.nil_append, or_true, true_or, or_false, false_or, Nat.reduceEqDiff, not_true_eq_false, not_false_eq_true, false_and, and_false, false_implies, true_implies, implies_true, ne_eq, and_self, ok1, a1, k1]
    refine a_kiln hM tb (by omega) (by decide) (by decide) ?_
    simp (disch := omega) only [e_L_sums_53, e_L_sums_54, e_L_sums_55, e_L_sums_56, tand, true_and, and_true, nl1_int, nl1_ref, nl1_null, nl1_ra, cat1_int, cat1_ref, cat1_null, stbs_nil, stbs_cons, stb_int, stb_long, stb_ref, stb_null, stb_ra, alv_nil, alv_cons, alv1_int, alv1_ref, alv1_null, alv1_ra, List.length_nil, List.length_cons, Nat.reduceAdd, Nat.reduceLeDiff, Nat.zero_le, Option.toList_some, Option.toList_none, List.cons_append, List.nil_append, or_true, true_or, or_false, false_or, Nat.reduceEqDiff, not_true_eq_false, not_false_eq_true, false_and, and_false, false_implies, true_implies, implies_true, ne_eq, and_self, ok1, k10, nI_add]
    simp only [e_L_sums_59, tand, true_and, and_true, nl1_int, nl1_ref, nl1_null, nl1_ra, cat1_int, cat1_ref, cat1_null, stbs_nil, stbs_cons, stb_int, stb_long, stb_ref, stb_null, stb_ra, alv_nil, alv_cons, alv1_int, alv1_ref, alv1_null, alv1_ra, List.length_nil, List.length_cons, Nat.reduceAdd, Nat.reduceLeDiff, Nat.zero_le, Option.toList_some, Option.toList_none, List.cons_append, List.nil_append, or_true, true_or, or_false, false_or, Nat.reduceEqDiff, not_true_eq_false, not_false_eq_true, false_and, and_false, false_implies, true_implies, implies_true, ne_eq, and_self, ok1]
    exact next
theorem c_Lsums (hM : MA g w hist st kept snap t n) (hG : Good w u) (hu : u ≤ 6000) (q : Q (some (.int (nI 1))) g) : w_L_sums [.ref 20] g Q := by
  refine wm_at rfl ⟨trivial, trivial⟩ (show WP m_L_sums Q 0 [.ref 20, .retAddr 0, .retAddr 0, .retAddr 0] [] g from ?_)
  have tb := hG.1.1.tb hu
  have hI := hG.1.1.1
  have a1 := hM.k20
  have cl0 := cB_le (w := w) (b := 0)
  have cl1 := cB_le (w := w) (b := 1)
  have m5 : ((-5 : Int32) < 0) = True := propext ⟨fun _ => trivial, fun _ => by decide⟩
  have none : ∀ b, cB w b = 0 → ∀ i, i < 17 → stF w b i = true → btN w i ≠ 0 := fun b h0 i hi si => by
    have := btN_cB hi si
    omega
  simp (disch := omega) only [e_L_sums_0, e_L_sums_1, e_L_sums_2, e_L_sums_3, e_L_sums_4, e_L_sums_5, tand, true_and, and_true, nl1_int, nl1_ref, nl1_null, nl1_ra, cat1_int, cat1_ref, cat1_null, stbs_nil, stbs_cons, stb_int, stb_long, stb_ref, stb_null, stb_ra, alv_nil, alv_cons, alv1_int, alv1_ref, alv1_null, alv1_ra, List.length_nil, List.length_cons, Nat.reduceAdd, Nat.reduceLeDiff, Nat.zero_le, Option.toList_some, Option.toList_none, List.cons_append, List.nil_append, or_true, true_or, or_false, false_or, Nat.reduceEqDiff, not_true_eq_false, not_false_eq_true, false_and, and_false, false_implies, true_implies, implies_true, ne_eq, and_self, ok1]
  refine sums_loop hM hG hu ?_ 6 0 rfl
  have fin := sums_end (Q := Q) hM hG hu q
  simp (disch := omega) only [e_L_sums_62, e_L_sums_62n, e_L_sums_63, e_L_sums_64, e_L_sums_65, e_L_sums_66, tand, true_and, and_true, nl1_int, nl1_ref, nl1_null, nl1_ra, cat1_int, cat1_ref, cat1_null, stbs_nil, stbs_cons, stb_int, stb_long, stb_ref, stb_null, stb_ra, alv_nil, alv_cons, alv1_int, alv1_ref, alv1_null, alv1_ra, List.length_nil, List.length_cons, Nat.reduceAdd, Nat.reduceLeDiff, Nat.zero_le, Option.toList_some, Option.toList_none, List.cons_append, List.nil_append, or_true, true_or, or_false, false_or, Nat.reduceEqDiff, not_true_eq_false, not_false_eq_true, false_and, and_false, false_implies, true_implies, implies_true, ne_eq, and_self, ok1, a1]
  by_cases h1 : cB w 1 = 0
  · refine a_ord0 hM tb (by decide) (by decide) (by decide) (none 1 h1) ?_
    simp (disch := omega) only [e_L_sums_69, tand, true_and, and_true, nl1_int, nl1_ref, nl1_null, nl1_ra, cat1_int, cat1_ref, cat1_null, stbs_nil, stbs_cons, stb_int, stb_long, stb_ref, stb_null, stb_ra, alv_nil, alv_cons, alv1_int, alv1_ref, alv1_null, alv1_ra, List.length_nil, List.length_cons, Nat.reduceAdd, Nat.reduceLeDiff, Nat.zero_le, Option.toList_some, Option.toList_none, List.cons_append, List.nil_append, or_true, true_or, or_false, false_or, Nat.reduceEqDiff, not_true_eq_false, not_false_eq_true, false_and, and_false, false_implies, true_implies, implies_true, ne_eq, and_self, ok1, m5]
    exact fin
  · obtain ⟨i, hi, si, er⟩ := rank_ex hI (w := w) (b := 1) (r := 0) (by omega)
    have i4 := (tb.2.2 i hi).1 4 (by decide)
    have o3 : wF w i (fO 3) = wF w i 4 := rfl
    refine a_ord hM tb hI (by decide) (by decide) hi si er ?_
    simp (disch := omega) only [e_L_sums_69, e_L_sums_72, e_L_sums_72n, e_L_sums_73, e_L_sums_74, e_L_sums_75, e_L_sums_76, tand, true_and, and_true, nl1_int, nl1_ref, nl1_null, nl1_ra, cat1_int, cat1_ref, cat1_null, stbs_nil, stbs_cons, stb_int, stb_long, stb_ref, stb_null, stb_ra, alv_nil, alv_cons, alv1_int, alv1_ref, alv1_null, alv1_ra, List.length_nil, List.length_cons, Nat.reduceAdd, Nat.reduceLeDiff, Nat.zero_le, Option.toList_some, Option.toList_none, List.cons_append, List.nil_append, or_true, true_or, or_false, false_or, Nat.reduceEqDiff, not_true_eq_false, not_false_eq_true, false_and, and_false, false_implies, true_implies, implies_true, ne_eq, and_self, ok1, a1, o3, nI_lt0]
    by_cases h0 : cB w 0 = 0
    · refine a_ord0 hM tb (by decide) (by decide) (by decide) (none 0 h0) ?_
      simp (disch := omega) only [e_L_sums_79, tand, true_and, and_true, nl1_int, nl1_ref, nl1_null, nl1_ra, cat1_int, cat1_ref, cat1_null, stbs_nil, stbs_cons, stb_int, stb_long, stb_ref, stb_null, stb_ra, alv_nil, alv_cons, alv1_int, alv1_ref, alv1_null, alv1_ra, List.length_nil, List.length_cons, Nat.reduceAdd, Nat.reduceLeDiff, Nat.zero_le, Option.toList_some, Option.toList_none, List.cons_append, List.nil_append, or_true, true_or, or_false, false_or, Nat.reduceEqDiff, not_true_eq_false, not_false_eq_true, false_and, and_false, false_implies, true_implies, implies_true, ne_eq, and_self, ok1, m5]
      exact fin
    · obtain ⟨j, hj, sj, er2⟩ := rank_ex hI (w := w) (b := 0) (r := 0) (by omega)
      have j4 := (tb.2.2 j hj).1 4 (by decide)
      have p3 : wF w j (fO 3) = wF w j 4 := rfl
      have hx := hG.2 i j hi hj si sj
      refine a_ord hM tb hI (by decide) (by decide) hj sj er2 ?_
      simp (disch := omega) only [e_L_sums_79, e_L_sums_82, e_L_sums_82n, e_L_sums_83, e_L_sums_84, e_L_sums_85, e_L_sums_86, tand, true_and, and_true, nl1_int, nl1_ref, nl1_null, nl1_ra, cat1_int, cat1_ref, cat1_null, stbs_nil, stbs_cons, stb_int, stb_long, stb_ref, stb_null, stb_ra, alv_nil, alv_cons, alv1_int, alv1_ref, alv1_null, alv1_ra, List.length_nil, List.length_cons, Nat.reduceAdd, Nat.reduceLeDiff, Nat.zero_le, Option.toList_some, Option.toList_none, List.cons_append, List.nil_append, or_true, true_or, or_false, false_or, Nat.reduceEqDiff, not_true_eq_false, not_false_eq_true, false_and, and_false, false_implies, true_implies, implies_true, ne_eq, and_self, ok1, a1, p3, nI_lt0]
      refine a_ord hM tb hI (by decide) (by decide) hi si er ?_
      simp (disch := omega) only [e_L_sums_89, e_L_sums_89n, e_L_sums_90, e_L_sums_91, e_L_sums_92, e_L_sums_93, tand, true_and, and_true, nl1_int, nl1_ref, nl1_null, nl1_ra, cat1_int, cat1_ref, cat1_null, stbs_nil, stbs_cons, stb_int, stb_long, stb_ref, stb_null, stb_ra, alv_nil, alv_cons, alv1_int, alv1_ref, alv1_null, alv1_ra, List.length_nil, List.length_cons, Nat.reduceAdd, Nat.reduceLeDiff, Nat.zero_le, Option.toList_some, Option.toList_none, List.cons_append, List.nil_append, or_true, true_or, or_false, false_or, Nat.reduceEqDiff, not_true_eq_false, not_false_eq_true, false_and, and_false, false_implies, true_implies, implies_true, ne_eq, and_self, ok1, a1, o3]
      refine a_ord hM tb hI (by decide) (by decide) hj sj er2 ?_
      simp (disch := omega) only [e_L_sums_96, tand, true_and, and_true, nl1_int, nl1_ref, nl1_null, nl1_ra, cat1_int, cat1_ref, cat1_null, stbs_nil, stbs_cons, stb_int, stb_long, stb_ref, stb_null, stb_ra, alv_nil, alv_cons, alv1_int, alv1_ref, alv1_null, alv1_ra, List.length_nil, List.length_cons, Nat.reduceAdd, Nat.reduceLeDiff, Nat.zero_le, Option.toList_some, Option.toList_none, List.cons_append, List.nil_append, or_true, true_or, or_false, false_or, Nat.reduceEqDiff, not_true_eq_false, not_false_eq_true, false_and, and_false, false_implies, true_implies, implies_true, ne_eq, and_self, ok1, p3, nI_ltE, hx]
      exact fin
end Lsu
