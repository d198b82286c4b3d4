/-! ===== the law: its cases ===== -/
theorem LV.k20 {g : mG} {xs : Nat → Int32} {L u : Nat} (h : LV g xs L u) : gK g 20 = 7 ∧ gK g 40 = 8 := by
  obtain ⟨_, w, hist, st, kept, snap, t, n, hA, hB, _⟩ := h
  obtain ⟨N, _, ⟨a1, _⟩, _⟩ := hA.now
  exact ⟨a1, hB.k40⟩
section Lca
variable {g : mG} {xs : Nat → Int32} {L u i : Nat} {Q : mQ}
theorem lc_issue (h : LV g xs L u) (hu : u + 9 ≤ 6000) (hi : 4 * i + 4 ≤ L) (hL : L ≤ 2048) (next : ∀ g', LV g' xs L (u + 9) → WP m_L_law Q 739 [.ref 2, .ref 20, .ref 40, .int (nI (4 * i))] [] g') : WP m_L_law Q 132 [.ref 2, .ref 20, .ref 40, .int (nI (4 * i))] [] g := by
  obtain ⟨k20, k40⟩ := h.k20
  obtain ⟨k2, n2, r2⟩ := h.1
  simp (disch := omega) only [e_L_law_132, e_L_law_132n, e_L_law_133, e_L_law_133n, e_L_law_134, e_L_law_135, e_L_law_136, e_L_law_137, e_L_law_138, e_L_law_138n, e_L_law_139, e_L_law_140, e_L_law_141, e_L_law_142, e_L_law_143, tand, true_and, and_true, nl1_int, nl1_ref, nl1_null, nl1_ra, cat1_int, cat1_ref, cat1_null, stbs_nil, stbs_cons, stb_int, stb_long, stb_ref, stb_null, stb_ra, alv_nil, alv_cons, alv1_int, alv1_ref, alv1_null, alv1_ra, List.length_nil, List.length_cons, Nat.reduceAdd, Nat.reduceLeDiff, Nat.zero_le, Option.toList_some, Option.toList_none, List.cons_append, List.nil_append, or_true, true_or, or_false, false_or, Nat.reduceEqDiff, not_true_eq_false, not_false_eq_true, false_and, and_false, false_implies, true_implies, implies_true, ne_eq, and_self, ok1, k2, n2, k20, k40, isIA, vpT, nI_clamp, nI_add, r2]
  refine wm_up lo_X6_issue (pr_issue h hu) fun r g1 ⟨a, er, ⟨hk, hS1⟩, h7⟩ => ?_
  subst er
  obtain ⟨k2', n2', r2'⟩ := hS1
  have k20' := (hk 20).trans k20
  have k40' := (hk 40).trans k40
  simp (disch := omega) only [e_L_law_146, e_L_law_146n, e_L_law_147, e_L_law_147n, e_L_law_148, e_L_law_149, e_L_law_150, e_L_law_151, e_L_law_152, e_L_law_152n, e_L_law_153, e_L_law_154, e_L_law_155, e_L_law_156, e_L_law_157, tand, true_and, and_true, nl1_int, nl1_ref, nl1_null, nl1_ra, cat1_int, cat1_ref, cat1_null, stbs_nil, stbs_cons, stb_int, stb_long, stb_ref, stb_null, stb_ra, alv_nil, alv_cons, alv1_int, alv1_ref, alv1_null, alv1_ra, List.length_nil, List.length_cons, Nat.reduceAdd, Nat.reduceLeDiff, Nat.zero_le, Option.toList_some, Option.toList_none, List.cons_append, List.nil_append, or_true, true_or, or_false, false_or, Nat.reduceEqDiff, not_true_eq_false, not_false_eq_true, false_and, and_false, false_implies, true_implies, implies_true, ne_eq, and_self, ok1, k2', n2', k20', k40', isIA, vpT, nI_clamp, nI_add, r2']
  refine wm_up lo_X7_issue h7 fun r' g2 ⟨er, hL2⟩ => ?_
  subst er
  simp only [e_L_law_160, tand, true_and, and_true, nl1_int, nl1_ref, nl1_null, nl1_ra, cat1_int, cat1_ref, cat1_null, stbs_nil, stbs_cons, stb_int, stb_long, stb_ref, stb_null, stb_ra, alv_nil, alv_cons, alv1_int, alv1_ref, alv1_null, alv1_ra, List.length_nil, List.length_cons, Nat.reduceAdd, Nat.reduceLeDiff, Nat.zero_le, Option.toList_some, Option.toList_none, List.cons_append, List.nil_append, or_true, true_or, or_false, false_or, Nat.reduceEqDiff, not_true_eq_false, not_false_eq_true, false_and, and_false, false_implies, true_implies, implies_true, ne_eq, and_self, ok1]
  exact next g2 hL2
theorem lc_fire (h : LV g xs L u) (hu : u + 9 ≤ 6000) (hi : 4 * i + 4 ≤ L) (hL : L ≤ 2048) (next : ∀ g', LV g' xs L (u + 9) → WP m_L_law Q 739 [.ref 2, .ref 20, .ref 40, .int (nI (4 * i))] [] g') : WP m_L_law Q 165 [.ref 2, .ref 20, .ref 40, .int (nI (4 * i))] [] g := by
  obtain ⟨k20, k40⟩ := h.k20
  obtain ⟨k2, n2, r2⟩ := h.1
  simp (disch := omega) only [e_L_law_165, e_L_law_165n, e_L_law_166, e_L_law_166n, e_L_law_167, e_L_law_168, e_L_law_169, e_L_law_170, e_L_law_171, e_L_law_171n, e_L_law_172, e_L_law_173, e_L_law_174, e_L_law_175, e_L_law_176, e_L_law_176n, e_L_law_177, e_L_law_178, e_L_law_179, e_L_law_180, e_L_law_181, tand, true_and, and_true, nl1_int, nl1_ref, nl1_null, nl1_ra, cat1_int, cat1_ref, cat1_null, stbs_nil, stbs_cons, stb_int, stb_long, stb_ref, stb_null, stb_ra, alv_nil, alv_cons, alv1_int, alv1_ref, alv1_null, alv1_ra, List.length_nil, List.length_cons, Nat.reduceAdd, Nat.reduceLeDiff, Nat.zero_le, Option.toList_some, Option.toList_none, List.cons_append, List.nil_append, or_true, true_or, or_false, false_or, Nat.reduceEqDiff, not_true_eq_false, not_false_eq_true, false_and, and_false, false_implies, true_implies, implies_true, ne_eq, and_self, ok1, k2, n2, k20, k40, isIA, vpT, nI_clamp, nI_add, r2]
  refine wm_up lo_X6_fire (pr_fire h hu) fun r g1 ⟨a, er, ⟨hk, hS1⟩, h7⟩ => ?_
  subst er
  obtain ⟨k2', n2', r2'⟩ := hS1
  have k20' := (hk 20).trans k20
  have k40' := (hk 40).trans k40
  simp (disch := omega) only [e_L_law_184, e_L_law_184n, e_L_law_185, e_L_law_185n, e_L_law_186, e_L_law_187, e_L_law_188, e_L_law_189, e_L_law_190, e_L_law_190n, e_L_law_191, e_L_law_192, e_L_law_193, e_L_law_194, e_L_law_195, e_L_law_195n, e_L_law_196, e_L_law_197, e_L_law_198, e_L_law_199, e_L_law_200, tand, true_and, and_true, nl1_int, nl1_ref, nl1_null, nl1_ra, cat1_int, cat1_ref, cat1_null, stbs_nil, stbs_cons, stb_int, stb_long, stb_ref, stb_null, stb_ra, alv_nil, alv_cons, alv1_int, alv1_ref, alv1_null, alv1_ra, List.length_nil, List.length_cons, Nat.reduceAdd, Nat.reduceLeDiff, Nat.zero_le, Option.toList_some, Option.toList_none, List.cons_append, List.nil_append, or_true, true_or, or_false, false_or, Nat.reduceEqDiff, not_true_eq_false, not_false_eq_true, false_and, and_false, false_implies, true_implies, implies_true, ne_eq, and_self, ok1, k2', n2', k20', k40', isIA, vpT, nI_clamp, nI_add, r2']
  refine wm_up lo_X7_fire h7 fun r' g2 ⟨er, hL2⟩ => ?_
  subst er
  simp only [e_L_law_203, tand, true_and, and_true, nl1_int, nl1_ref, nl1_null, nl1_ra, cat1_int, cat1_ref, cat1_null, stbs_nil, stbs_cons, stb_int, stb_long, stb_ref, stb_null, stb_ra, alv_nil, alv_cons, alv1_int, alv1_ref, alv1_null, alv1_ra, List.length_nil, List.length_cons, Nat.reduceAdd, Nat.reduceLeDiff, Nat.zero_le, Option.toList_some, Option.toList_none, List.cons_append, List.nil_append, or_true, true_or, or_false, false_or, Nat.reduceEqDiff, not_true_eq_false, not_false_eq_true, false_and, and_false, false_implies, true_implies, implies_true, ne_eq, and_self, ok1]
  exact next g2 hL2
theorem lc_audit (h : LV g xs L u) (hu : u + 9 ≤ 6000) (hi : 4 * i + 4 ≤ L) (hL : L ≤ 2048) (next : ∀ g', LV g' xs L (u + 9) → WP m_L_law Q 739 [.ref 2, .ref 20, .ref 40, .int (nI (4 * i))] [] g') : WP m_L_law Q 208 [.ref 2, .ref 20, .ref 40, .int (nI (4 * i))] [] g := by
  obtain ⟨k20, k40⟩ := h.k20
  obtain ⟨k2, n2, r2⟩ := h.1
  simp (disch := omega) only [e_L_law_208, e_L_law_208n, e_L_law_209, e_L_law_209n, e_L_law_210, e_L_law_211, e_L_law_212, e_L_law_213, e_L_law_214, tand, true_and, and_true, nl1_int, nl1_ref, nl1_null, nl1_ra, cat1_int, cat1_ref, cat1_null, stbs_nil, stbs_cons, stb_int, stb_long, stb_ref, stb_null, stb_ra, alv_nil, alv_cons, alv1_int, alv1_ref, alv1_null, alv1_ra, List.length_nil, List.length_cons, Nat.reduceAdd, Nat.reduceLeDiff, Nat.zero_le, Option.toList_some, Option.toList_none, List.cons_append, List.nil_append, or_true, true_or, or_false, false_or, Nat.reduceEqDiff, not_true_eq_false, not_false_eq_true, false_and, and_false, false_implies, true_implies, implies_true, ne_eq, and_self, ok1, k2, n2, k20, k40, isIA, vpT, nI_clamp, nI_add, r2]
  refine wm_up lo_X6_audit (pr_audit h hu) fun r g1 ⟨a, er, ⟨hk, hS1⟩, h7⟩ => ?_
  subst er
  obtain ⟨k2', n2', r2'⟩ := hS1
  have k20' := (hk 20).trans k20
  have k40' := (hk 40).trans k40
  simp (disch := omega) only [e_L_law_217, e_L_law_217n, e_L_law_218, e_L_law_218n, e_L_law_219, e_L_law_220, e_L_law_221, e_L_law_222, e_L_law_223, tand, true_and, and_true, nl1_int, nl1_ref, nl1_null, nl1_ra, cat1_int, cat1_ref, cat1_null, stbs_nil, stbs_cons, stb_int, stb_long, stb_ref, stb_null, stb_ra, alv_nil, alv_cons, alv1_int, alv1_ref, alv1_null, alv1_ra, List.length_nil, List.length_cons, Nat.reduceAdd, Nat.reduceLeDiff, Nat.zero_le, Option.toList_some, Option.toList_none, List.cons_append, List.nil_append, or_true, true_or, or_false, false_or, Nat.reduceEqDiff, not_true_eq_false, not_false_eq_true, false_and, and_false, false_implies, true_implies, implies_true, ne_eq, and_self, ok1, k2', n2', k20', k40', isIA, vpT, nI_clamp, nI_add, r2']
  refine wm_up lo_X7_audit h7 fun r' g2 ⟨er, hL2⟩ => ?_
  subst er
  simp only [e_L_law_226, tand, true_and, and_true, nl1_int, nl1_ref, nl1_null, nl1_ra, cat1_int, cat1_ref, cat1_null, stbs_nil, stbs_cons, stb_int, stb_long, stb_ref, stb_null, stb_ra, alv_nil, alv_cons, alv1_int, alv1_ref, alv1_null, alv1_ra, List.length_nil, List.length_cons, Nat.reduceAdd, Nat.reduceLeDiff, Nat.zero_le, Option.toList_some, Option.toList_none, List.cons_append, List.nil_append, or_true, true_or, or_false, false_or, Nat.reduceEqDiff, not_true_eq_false, not_false_eq_true, false_and, and_false, false_implies, true_implies, implies_true, ne_eq, and_self, ok1]
  exact next g2 hL2
theorem lc_bid (h : LV g xs L u) (hu : u + 9 ≤ 6000) (hi : 4 * i + 4 ≤ L) (hL : L ≤ 2048) (next : ∀ g', LV g' xs L (u + 9) → WP m_L_law Q 739 [.ref 2, .ref 20, .ref 40, .int (nI (4 * i))] [] g') : WP m_L_law Q 231 [.ref 2, .ref 20, .ref 40, .int (nI (4 * i))] [] g := by
  obtain ⟨k20, k40⟩ := h.k20
  obtain ⟨k2, n2, r2⟩ := h.1
  simp (disch := omega) only [e_L_law_231, e_L_law_231n, e_L_law_232, e_L_law_232n, e_L_law_233, e_L_law_234, e_L_law_235, e_L_law_236, e_L_law_237, e_L_law_237n, e_L_law_238, e_L_law_239, e_L_law_240, e_L_law_241, e_L_law_242, e_L_law_242n, e_L_law_243, e_L_law_244, e_L_law_245, e_L_law_246, e_L_law_247, tand, true_and, and_true, nl1_int, nl1_ref, nl1_null, nl1_ra, cat1_int, cat1_ref, cat1_null, stbs_nil, stbs_cons, stb_int, stb_long, stb_ref, stb_null, stb_ra, alv_nil, alv_cons, alv1_int, alv1_ref, alv1_null, alv1_ra, List.length_nil, List.length_cons, Nat.reduceAdd, Nat.reduceLeDiff, Nat.zero_le, Option.toList_some, Option.toList_none, List.cons_append, List.nil_append, or_true, true_or, or_false, false_or, Nat.reduceEqDiff, not_true_eq_false, not_false_eq_true, false_and, and_false, false_implies, true_implies, implies_true, ne_eq, and_self, ok1, k2, n2, k20, k40, isIA, vpT, nI_clamp, nI_add, r2]
  refine wm_up lo_X6_bid (pr_bid h hu) fun r g1 ⟨a, er, ⟨hk, hS1⟩, h7⟩ => ?_
  subst er
  obtain ⟨k2', n2', r2'⟩ := hS1
  have k20' := (hk 20).trans k20
  have k40' := (hk 40).trans k40
  simp (disch := omega) only [e_L_law_250, e_L_law_250n, e_L_law_251, e_L_law_251n, e_L_law_252, e_L_law_253, e_L_law_254, e_L_law_255, e_L_law_256, e_L_law_256n, e_L_law_257, e_L_law_258, e_L_law_259, e_L_law_260, e_L_law_261, e_L_law_261n, e_L_law_262, e_L_law_263, e_L_law_264, e_L_law_265, e_L_law_266, tand, true_and, and_true, nl1_int, nl1_ref, nl1_null, nl1_ra, cat1_int, cat1_ref, cat1_null, stbs_nil, stbs_cons, stb_int, stb_long, stb_ref, stb_null, stb_ra, alv_nil, alv_cons, alv1_int, alv1_ref, alv1_null, alv1_ra, List.length_nil, List.length_cons, Nat.reduceAdd, Nat.reduceLeDiff, Nat.zero_le, Option.toList_some, Option.toList_none, List.cons_append, List.nil_append, or_true, true_or, or_false, false_or, Nat.reduceEqDiff, not_true_eq_false, not_false_eq_true, false_and, and_false, false_implies, true_implies, implies_true, ne_eq, and_self, ok1, k2', n2', k20', k40', isIA, vpT, nI_clamp, nI_add, r2']
  refine wm_up lo_X7_bid h7 fun r' g2 ⟨er, hL2⟩ => ?_
  subst er
  simp only [e_L_law_269, tand, true_and, and_true, nl1_int, nl1_ref, nl1_null, nl1_ra, cat1_int, cat1_ref, cat1_null, stbs_nil, stbs_cons, stb_int, stb_long, stb_ref, stb_null, stb_ra, alv_nil, alv_cons, alv1_int, alv1_ref, alv1_null, alv1_ra, List.length_nil, List.length_cons, Nat.reduceAdd, Nat.reduceLeDiff, Nat.zero_le, Option.toList_some, Option.toList_none, List.cons_append, List.nil_append, or_true, true_or, or_false, false_or, Nat.reduceEqDiff, not_true_eq_false, not_false_eq_true, false_and, and_false, false_implies, true_implies, implies_true, ne_eq, and_self, ok1]
  exact next g2 hL2
theorem lc_ask (h : LV g xs L u) (hu : u + 9 ≤ 6000) (hi : 4 * i + 4 ≤ L) (hL : L ≤ 2048) (next : ∀ g', LV g' xs L (u + 9) → WP m_L_law Q 739 [.ref 2, .ref 20, .ref 40, .int (nI (4 * i))] [] g') : WP m_L_law Q 274 [.ref 2, .ref 20, .ref 40, .int (nI (4 * i))] [] g := by
  obtain ⟨k20, k40⟩ := h.k20
  obtain ⟨k2, n2, r2⟩ := h.1
  simp (disch := omega) only [e_L_law_274, e_L_law_274n, e_L_law_275, e_L_law_275n, e_L_law_276, e_L_law_277, e_L_law_278, e_L_law_279, e_L_law_280, e_L_law_280n, e_L_law_281, e_L_law_282, e_L_law_283, e_L_law_284, e_L_law_285, e_L_law_285n, e_L_law_286, e_L_law_287, e_L_law_288, e_L_law_289, e_L_law_290, tand, true_and, and_true, nl1_int, nl1_ref, nl1_null, nl1_ra, cat1_int, cat1_ref, cat1_null, stbs_nil, stbs_cons, stb_int, stb_long, stb_ref, stb_null, stb_ra, alv_nil, alv_cons, alv1_int, alv1_ref, alv1_null, alv1_ra, List.length_nil, List.length_cons, Nat.reduceAdd, Nat.reduceLeDiff, Nat.zero_le, Option.toList_some, Option.toList_none, List.cons_append, List.nil_append, or_true, true_or, or_false, false_or, Nat.reduceEqDiff, not_true_eq_false, not_false_eq_true, false_and, and_false, false_implies, true_implies, implies_true, ne_eq, and_self, ok1, k2, n2, k20, k40, isIA, vpT, nI_clamp, nI_add, r2]
  refine wm_up lo_X6_ask (pr_ask h hu) fun r g1 ⟨a, er, ⟨hk, hS1⟩, h7⟩ => ?_
  subst er
  obtain ⟨k2', n2', r2'⟩ := hS1
  have k20' := (hk 20).trans k20
  have k40' := (hk 40).trans k40
  simp (disch := omega) only [e_L_law_293, e_L_law_293n, e_L_law_294, e_L_law_294n, e_L_law_295, e_L_law_296, e_L_law_297, e_L_law_298, e_L_law_299, e_L_law_299n, e_L_law_300, e_L_law_301, e_L_law_302, e_L_law_303, e_L_law_304, e_L_law_304n, e_L_law_305, e_L_law_306, e_L_law_307, e_L_law_308, e_L_law_309, tand, true_and, and_true, nl1_int, nl1_ref, nl1_null, nl1_ra, cat1_int, cat1_ref, cat1_null, stbs_nil, stbs_cons, stb_int, stb_long, stb_ref, stb_null, stb_ra, alv_nil, alv_cons, alv1_int, alv1_ref, alv1_null, alv1_ra, List.length_nil, List.length_cons, Nat.reduceAdd, Nat.reduceLeDiff, Nat.zero_le, Option.toList_some, Option.toList_none, List.cons_append, List.nil_append, or_true, true_or, or_false, false_or, Nat.reduceEqDiff, not_true_eq_false, not_false_eq_true, false_and, and_false, false_implies, true_implies, implies_true, ne_eq, and_self, ok1, k2', n2', k20', k40', isIA, vpT, nI_clamp, nI_add, r2']
  refine wm_up lo_X7_ask h7 fun r' g2 ⟨er, hL2⟩ => ?_
  subst er
  simp only [e_L_law_312, tand, true_and, and_true, nl1_int, nl1_ref, nl1_null, nl1_ra, cat1_int, cat1_ref, cat1_null, stbs_nil, stbs_cons, stb_int, stb_long, stb_ref, stb_null, stb_ra, alv_nil, alv_cons, alv1_int, alv1_ref, alv1_null, alv1_ra, List.length_nil, List.length_cons, Nat.reduceAdd, Nat.reduceLeDiff, Nat.zero_le, Option.toList_some, Option.toList_none, List.cons_append, List.nil_append, or_true, true_or, or_false, false_or, Nat.reduceEqDiff, not_true_eq_false, not_false_eq_true, false_and, and_false, false_implies, true_implies, implies_true, ne_eq, and_self, ok1]
  exact next g2 hL2
theorem lc_orderAll (h : LV g xs L u) (hu : u + 9 ≤ 6000) (hi : 4 * i + 4 ≤ L) (hL : L ≤ 2048) (next : ∀ g', LV g' xs L (u + 9) → WP m_L_law Q 739 [.ref 2, .ref 20, .ref 40, .int (nI (4 * i))] [] g') : WP m_L_law Q 317 [.ref 2, .ref 20, .ref 40, .int (nI (4 * i))] [] g := by
  obtain ⟨k20, k40⟩ := h.k20
  obtain ⟨k2, n2, r2⟩ := h.1
  simp (disch := omega) only [e_L_law_317, e_L_law_317n, e_L_law_318, tand, true_and, and_true, nl1_int, nl1_ref, nl1_null, nl1_ra, cat1_int, cat1_ref, cat1_null, stbs_nil, stbs_cons, stb_int, stb_long, stb_ref, stb_null, stb_ra, alv_nil, alv_cons, alv1_int, alv1_ref, alv1_null, alv1_ra, List.length_nil, List.length_cons, Nat.reduceAdd, Nat.reduceLeDiff, Nat.zero_le, Option.toList_some, Option.toList_none, List.cons_append, List.nil_append, or_true, true_or, or_false, false_or, Nat.reduceEqDiff, not_true_eq_false, not_false_eq_true, false_and, and_false, false_implies, true_implies, implies_true, ne_eq, and_self, ok1, k2, n2, k20, k40, isIA, vpT, nI_clamp, nI_add, r2]
  refine wm_up lo_X6_orderAll (pr_orderAll h hu) fun r g1 ⟨a, er, ⟨hk, hS1⟩, h7⟩ => ?_
  subst er
  obtain ⟨k2', n2', r2'⟩ := hS1
  have k20' := (hk 20).trans k20
  have k40' := (hk 40).trans k40
  simp (disch := omega) only [e_L_law_321, e_L_law_321n, e_L_law_322, tand, true_and, and_true, nl1_int, nl1_ref, nl1_null, nl1_ra, cat1_int, cat1_ref, cat1_null, stbs_nil, stbs_cons, stb_int, stb_long, stb_ref, stb_null, stb_ra, alv_nil, alv_cons, alv1_int, alv1_ref, alv1_null, alv1_ra, List.length_nil, List.length_cons, Nat.reduceAdd, Nat.reduceLeDiff, Nat.zero_le, Option.toList_some, Option.toList_none, List.cons_append, List.nil_append, or_true, true_or, or_false, false_or, Nat.reduceEqDiff, not_true_eq_false, not_false_eq_true, false_and, and_false, false_implies, true_implies, implies_true, ne_eq, and_self, ok1, k2', n2', k20', k40', isIA, vpT, nI_clamp, nI_add, r2']
  refine wm_up lo_X7_orderAll h7 fun r' g2 ⟨er, hL2⟩ => ?_
  subst er
  simp only [e_L_law_325, tand, true_and, and_true, nl1_int, nl1_ref, nl1_null, nl1_ra, cat1_int, cat1_ref, cat1_null, stbs_nil, stbs_cons, stb_int, stb_long, stb_ref, stb_null, stb_ra, alv_nil, alv_cons, alv1_int, alv1_ref, alv1_null, alv1_ra, List.length_nil, List.length_cons, Nat.reduceAdd, Nat.reduceLeDiff, Nat.zero_le, Option.toList_some, Option.toList_none, List.cons_append, List.nil_append, or_true, true_or, or_false, false_or, Nat.reduceEqDiff, not_true_eq_false, not_false_eq_true, false_and, and_false, false_implies, true_implies, implies_true, ne_eq, and_self, ok1]
  exact next g2 hL2
theorem lc_takeBack (h : LV g xs L u) (hu : u + 9 ≤ 6000) (hi : 4 * i + 4 ≤ L) (hL : L ≤ 2048) (next : ∀ g', LV g' xs L (u + 9) → WP m_L_law Q 739 [.ref 2, .ref 20, .ref 40, .int (nI (4 * i))] [] g') : WP m_L_law Q 330 [.ref 2, .ref 20, .ref 40, .int (nI (4 * i))] [] g := by
  obtain ⟨k20, k40⟩ := h.k20
  obtain ⟨k2, n2, r2⟩ := h.1
  simp (disch := omega) only [e_L_law_330, e_L_law_330n, e_L_law_331, e_L_law_331n, e_L_law_332, e_L_law_333, e_L_law_334, e_L_law_335, e_L_law_336, tand, true_and, and_true, nl1_int, nl1_ref, nl1_null, nl1_ra, cat1_int, cat1_ref, cat1_null, stbs_nil, stbs_cons, stb_int, stb_long, stb_ref, stb_null, stb_ra, alv_nil, alv_cons, alv1_int, alv1_ref, alv1_null, alv1_ra, List.length_nil, List.length_cons, Nat.reduceAdd, Nat.reduceLeDiff, Nat.zero_le, Option.toList_some, Option.toList_none, List.cons_append, List.nil_append, or_true, true_or, or_false, false_or, Nat.reduceEqDiff, not_true_eq_false, not_false_eq_true, false_and, and_false, false_implies, true_implies, implies_true, ne_eq, and_self, ok1, k2, n2, k20, k40, isIA, vpT, nI_clamp, nI_add, r2]
  refine wm_up lo_X6_takeBack (pr_takeBack h hu) fun r g1 ⟨a, er, ⟨hk, hS1⟩, h7⟩ => ?_
  subst er
  obtain ⟨k2', n2', r2'⟩ := hS1
  have k20' := (hk 20).trans k20
  have k40' := (hk 40).trans k40
  simp (disch := omega) only [e_L_law_339, e_L_law_339n, e_L_law_340, e_L_law_340n, e_L_law_341, e_L_law_342, e_L_law_343, e_L_law_344, e_L_law_345, tand, true_and, and_true, nl1_int, nl1_ref, nl1_null, nl1_ra, cat1_int, cat1_ref, cat1_null, stbs_nil, stbs_cons, stb_int, stb_long, stb_ref, stb_null, stb_ra, alv_nil, alv_cons, alv1_int, alv1_ref, alv1_null, alv1_ra, List.length_nil, List.length_cons, Nat.reduceAdd, Nat.reduceLeDiff, Nat.zero_le, Option.toList_some, Option.toList_none, List.cons_append, List.nil_append, or_true, true_or, or_false, false_or, Nat.reduceEqDiff, not_true_eq_false, not_false_eq_true, false_and, and_false, false_implies, true_implies, implies_true, ne_eq, and_self, ok1, k2', n2', k20', k40', isIA, vpT, nI_clamp, nI_add, r2']
  refine wm_up lo_X7_takeBack h7 fun r' g2 ⟨er, hL2⟩ => ?_
  subst er
  simp only [e_L_law_348, tand, true_and, and_true, nl1_int, nl1_ref, nl1_null, nl1_ra, cat1_int, cat1_ref, cat1_null, stbs_nil, stbs_cons, stb_int, stb_long, stb_ref, stb_null, stb_ra, alv_nil, alv_cons, alv1_int, alv1_ref, alv1_null, alv1_ra, List.length_nil, List.length_cons, Nat.reduceAdd, Nat.reduceLeDiff, Nat.zero_le, Option.toList_some, Option.toList_none, List.cons_append, List.nil_append, or_true, true_or, or_false, false_or, Nat.reduceEqDiff, not_true_eq_false, not_false_eq_true, false_and, and_false, false_implies, true_implies, implies_true, ne_eq, and_self, ok1]
  exact next g2 hL2
theorem lc_buyReserve (h : LV g xs L u) (hu : u + 9 ≤ 6000) (hi : 4 * i + 4 ≤ L) (hL : L ≤ 2048) (next : ∀ g', LV g' xs L (u + 9) → WP m_L_law Q 739 [.ref 2, .ref 20, .ref 40, .int (nI (4 * i))] [] g') : WP m_L_law Q 353 [.ref 2, .ref 20, .ref 40, .int (nI (4 * i))] [] g := by
  obtain ⟨k20, k40⟩ := h.k20
  obtain ⟨k2, n2, r2⟩ := h.1
  simp (disch := omega) only [e_L_law_353, e_L_law_353n, e_L_law_354, e_L_law_354n, e_L_law_355, e_L_law_356, e_L_law_357, e_L_law_358, e_L_law_359, e_L_law_359n, e_L_law_360, e_L_law_361, e_L_law_362, e_L_law_363, e_L_law_364, tand, true_and, and_true, nl1_int, nl1_ref, nl1_null, nl1_ra, cat1_int, cat1_ref, cat1_null, stbs_nil, stbs_cons, stb_int, stb_long, stb_ref, stb_null, stb_ra, alv_nil, alv_cons, alv1_int, alv1_ref, alv1_null, alv1_ra, List.length_nil, List.length_cons, Nat.reduceAdd, Nat.reduceLeDiff, Nat.zero_le, Option.toList_some, Option.toList_none, List.cons_append, List.nil_append, or_true, true_or, or_false, false_or, Nat.reduceEqDiff, not_true_eq_false, not_false_eq_true, false_and, and_false, false_implies, true_implies, implies_true, ne_eq, and_self, ok1, k2, n2, k20, k40, isIA, vpT, nI_clamp, nI_add, r2]
  refine wm_up lo_X6_buyReserve (pr_buyReserve h hu) fun r g1 ⟨a, er, ⟨hk, hS1⟩, h7⟩ => ?_
  subst er
  obtain ⟨k2', n2', r2'⟩ := hS1
  have k20' := (hk 20).trans k20
  have k40' := (hk 40).trans k40
  simp (disch := omega) only [e_L_law_367, e_L_law_367n, e_L_law_368, e_L_law_368n, e_L_law_369, e_L_law_370, e_L_law_371, e_L_law_372, e_L_law_373, e_L_law_373n, e_L_law_374, e_L_law_375, e_L_law_376, e_L_law_377, e_L_law_378, tand, true_and, and_true, nl1_int, nl1_ref, nl1_null, nl1_ra, cat1_int, cat1_ref, cat1_null, stbs_nil, stbs_cons, stb_int, stb_long, stb_ref, stb_null, stb_ra, alv_nil, alv_cons, alv1_int, alv1_ref, alv1_null, alv1_ra, List.length_nil, List.length_cons, Nat.reduceAdd, Nat.reduceLeDiff, Nat.zero_le, Option.toList_some, Option.toList_none, List.cons_append, List.nil_append, or_true, true_or, or_false, false_or, Nat.reduceEqDiff, not_true_eq_false, not_false_eq_true, false_and, and_false, false_implies, true_implies, implies_true, ne_eq, and_self, ok1, k2', n2', k20', k40', isIA, vpT, nI_clamp, nI_add, r2']
  refine wm_up lo_X7_buyReserve h7 fun r' g2 ⟨er, hL2⟩ => ?_
  subst er
  simp only [e_L_law_381, tand, true_and, and_true, nl1_int, nl1_ref, nl1_null, nl1_ra, cat1_int, cat1_ref, cat1_null, stbs_nil, stbs_cons, stb_int, stb_long, stb_ref, stb_null, stb_ra, alv_nil, alv_cons, alv1_int, alv1_ref, alv1_null, alv1_ra, List.length_nil, List.length_cons, Nat.reduceAdd, Nat.reduceLeDiff, Nat.zero_le, Option.toList_some, Option.toList_none, List.cons_append, List.nil_append, or_true, true_or, or_false, false_or, Nat.reduceEqDiff, not_true_eq_false, not_false_eq_true, false_and, and_false, false_implies, true_implies, implies_true, ne_eq, and_self, ok1]
  exact next g2 hL2
theorem lc_borrow (h : LV g xs L u) (hu : u + 9 ≤ 6000) (hi : 4 * i + 4 ≤ L) (hL : L ≤ 2048) (next : ∀ g', LV g' xs L (u + 9) → WP m_L_law Q 739 [.ref 2, .ref 20, .ref 40, .int (nI (4 * i))] [] g') : WP m_L_law Q 386 [.ref 2, .ref 20, .ref 40, .int (nI (4 * i))] [] g := by
  obtain ⟨k20, k40⟩ := h.k20
  obtain ⟨k2, n2, r2⟩ := h.1
  simp (disch := omega) only [e_L_law_386, e_L_law_386n, e_L_law_387, e_L_law_387n, e_L_law_388, e_L_law_389, e_L_law_390, e_L_law_391, e_L_law_392, e_L_law_392n, e_L_law_393, e_L_law_394, e_L_law_395, e_L_law_396, e_L_law_397, tand, true_and, and_true, nl1_int, nl1_ref, nl1_null, nl1_ra, cat1_int, cat1_ref, cat1_null, stbs_nil, stbs_cons, stb_int, stb_long, stb_ref, stb_null, stb_ra, alv_nil, alv_cons, alv1_int, alv1_ref, alv1_null, alv1_ra, List.length_nil, List.length_cons, Nat.reduceAdd, Nat.reduceLeDiff, Nat.zero_le, Option.toList_some, Option.toList_none, List.cons_append, List.nil_append, or_true, true_or, or_false, false_or, Nat.reduceEqDiff, not_true_eq_false, not_false_eq_true, false_and, and_false, false_implies, true_implies, implies_true, ne_eq, and_self, ok1, k2, n2, k20, k40, isIA, vpT, nI_clamp, nI_add, r2]
  refine wm_up lo_X6_borrow (pr_borrow h hu) fun r g1 ⟨a, er, ⟨hk, hS1⟩, h7⟩ => ?_
  subst er
  obtain ⟨k2', n2', r2'⟩ := hS1
  have k20' := (hk 20).trans k20
  have k40' := (hk 40).trans k40
  simp (disch := omega) only [e_L_law_400, e_L_law_400n, e_L_law_401, e_L_law_401n, e_L_law_402, e_L_law_403, e_L_law_404, e_L_law_405, e_L_law_406, e_L_law_406n, e_L_law_407, e_L_law_408, e_L_law_409, e_L_law_410, e_L_law_411, tand, true_and, and_true, nl1_int, nl1_ref, nl1_null, nl1_ra, cat1_int, cat1_ref, cat1_null, stbs_nil, stbs_cons, stb_int, stb_long, stb_ref, stb_null, stb_ra, alv_nil, alv_cons, alv1_int, alv1_ref, alv1_null, alv1_ra, List.length_nil, List.length_cons, Nat.reduceAdd, Nat.reduceLeDiff, Nat.zero_le, Option.toList_some, Option.toList_none, List.cons_append, List.nil_append, or_true, true_or, or_false, false_or, Nat.reduceEqDiff, not_true_eq_false, not_false_eq_true, false_and, and_false, false_implies, true_implies, implies_true, ne_eq, and_self, ok1, k2', n2', k20', k40', isIA, vpT, nI_clamp, nI_add, r2']
  refine wm_up lo_X7_borrow h7 fun r' g2 ⟨er, hL2⟩ => ?_
  subst er
  simp only [e_L_law_414, tand, true_and, and_true, nl1_int, nl1_ref, nl1_null, nl1_ra, cat1_int, cat1_ref, cat1_null, stbs_nil, stbs_cons, stb_int, stb_long, stb_ref, stb_null, stb_ra, alv_nil, alv_cons, alv1_int, alv1_ref, alv1_null, alv1_ra, List.length_nil, List.length_cons, Nat.reduceAdd, Nat.reduceLeDiff, Nat.zero_le, Option.toList_some, Option.toList_none, List.cons_append, List.nil_append, or_true, true_or, or_false, false_or, Nat.reduceEqDiff, not_true_eq_false, not_false_eq_true, false_and, and_false, false_implies, true_implies, implies_true, ne_eq, and_self, ok1]
  exact next g2 hL2
theorem lc_set (h : LV g xs L u) (hu : u + 9 ≤ 6000) (hi : 4 * i + 4 ≤ L) (hL : L ≤ 2048) (next : ∀ g', LV g' xs L (u + 9) → WP m_L_law Q 739 [.ref 2, .ref 20, .ref 40, .int (nI (4 * i))] [] g') : WP m_L_law Q 419 [.ref 2, .ref 20, .ref 40, .int (nI (4 * i))] [] g := by
  obtain ⟨k20, k40⟩ := h.k20
  obtain ⟨k2, n2, r2⟩ := h.1
  simp (disch := omega) only [e_L_law_419, e_L_law_419n, e_L_law_420, e_L_law_420n, e_L_law_421, e_L_law_422, e_L_law_423, e_L_law_424, e_L_law_425, e_L_law_425n, e_L_law_426, e_L_law_427, e_L_law_428, e_L_law_429, e_L_law_430, tand, true_and, and_true, nl1_int, nl1_ref, nl1_null, nl1_ra, cat1_int, cat1_ref, cat1_null, stbs_nil, stbs_cons, stb_int, stb_long, stb_ref, stb_null, stb_ra, alv_nil, alv_cons, alv1_int, alv1_ref, alv1_null, alv1_ra, List.length_nil, List.length_cons, Nat.reduceAdd, Nat.reduceLeDiff, Nat.zero_le, Option.toList_some, Option.toList_none, List.cons_append, List.nil_append, or_true, true_or, or_false, false_or, Nat.reduceEqDiff, not_true_eq_false, not_false_eq_true, false_and, and_false, false_implies, true_implies, implies_true, ne_eq, and_self, ok1, k2, n2, k20, k40, isIA, vpT, nI_clamp, nI_add, r2]
  refine wm_up lo_X6_set (pr_set h hu) fun r g1 ⟨a, er, ⟨hk, hS1⟩, h7⟩ => ?_
  subst er
  obtain ⟨k2', n2', r2'⟩ := hS1
  have k20' := (hk 20).trans k20
  have k40' := (hk 40).trans k40
  simp (disch := omega) only [e_L_law_433, e_L_law_433n, e_L_law_434, e_L_law_434n, e_L_law_435, e_L_law_436, e_L_law_437, e_L_law_438, e_L_law_439, e_L_law_439n, e_L_law_440, e_L_law_441, e_L_law_442, e_L_law_443, e_L_law_444, tand, true_and, and_true, nl1_int, nl1_ref, nl1_null, nl1_ra, cat1_int, cat1_ref, cat1_null, stbs_nil, stbs_cons, stb_int, stb_long, stb_ref, stb_null, stb_ra, alv_nil, alv_cons, alv1_int, alv1_ref, alv1_null, alv1_ra, List.length_nil, List.length_cons, Nat.reduceAdd, Nat.reduceLeDiff, Nat.zero_le, Option.toList_some, Option.toList_none, List.cons_append, List.nil_append, or_true, true_or, or_false, false_or, Nat.reduceEqDiff, not_true_eq_false, not_false_eq_true, false_and, and_false, false_implies, true_implies, implies_true, ne_eq, and_self, ok1, k2', n2', k20', k40', isIA, vpT, nI_clamp, nI_add, r2']
  refine wm_up lo_X7_set h7 fun r' g2 ⟨er, hL2⟩ => ?_
  subst er
  simp only [e_L_law_447, tand, true_and, and_true, nl1_int, nl1_ref, nl1_null, nl1_ra, cat1_int, cat1_ref, cat1_null, stbs_nil, stbs_cons, stb_int, stb_long, stb_ref, stb_null, stb_ra, alv_nil, alv_cons, alv1_int, alv1_ref, alv1_null, alv1_ra, List.length_nil, List.length_cons, Nat.reduceAdd, Nat.reduceLeDiff, Nat.zero_le, Option.toList_some, Option.toList_none, List.cons_append, List.nil_append, or_true, true_or, or_false, false_or, Nat.reduceEqDiff, not_true_eq_false, not_false_eq_true, false_and, and_false, false_implies, true_implies, implies_true, ne_eq, and_self, ok1]
  exact next g2 hL2
theorem lc_endYear (h : LV g xs L u) (hu : u + 9 ≤ 6000) (hi : 4 * i + 4 ≤ L) (hL : L ≤ 2048) (next : ∀ g', LV g' xs L (u + 9) → WP m_L_law Q 739 [.ref 2, .ref 20, .ref 40, .int (nI (4 * i))] [] g') : WP m_L_law Q 452 [.ref 2, .ref 20, .ref 40, .int (nI (4 * i))] [] g := by
  obtain ⟨k20, k40⟩ := h.k20
  obtain ⟨k2, n2, r2⟩ := h.1
  simp (disch := omega) only [e_L_law_452, e_L_law_452n, e_L_law_453, tand, true_and, and_true, nl1_int, nl1_ref, nl1_null, nl1_ra, cat1_int, cat1_ref, cat1_null, stbs_nil, stbs_cons, stb_int, stb_long, stb_ref, stb_null, stb_ra, alv_nil, alv_cons, alv1_int, alv1_ref, alv1_null, alv1_ra, List.length_nil, List.length_cons, Nat.reduceAdd, Nat.reduceLeDiff, Nat.zero_le, Option.toList_some, Option.toList_none, List.cons_append, List.nil_append, or_true, true_or, or_false, false_or, Nat.reduceEqDiff, not_true_eq_false, not_false_eq_true, false_and, and_false, false_implies, true_implies, implies_true, ne_eq, and_self, ok1, k2, n2, k20, k40, isIA, vpT, nI_clamp, nI_add, r2]
  refine wm_up lo_X6_endYear (pr_endYear h hu) fun r g1 ⟨a, er, ⟨hk, hS1⟩, h7⟩ => ?_
  subst er
  obtain ⟨k2', n2', r2'⟩ := hS1
  have k20' := (hk 20).trans k20
  have k40' := (hk 40).trans k40
  simp (disch := omega) only [e_L_law_456, e_L_law_456n, e_L_law_457, tand, true_and, and_true, nl1_int, nl1_ref, nl1_null, nl1_ra, cat1_int, cat1_ref, cat1_null, stbs_nil, stbs_cons, stb_int, stb_long, stb_ref, stb_null, stb_ra, alv_nil, alv_cons, alv1_int, alv1_ref, alv1_null, alv1_ra, List.length_nil, List.length_cons, Nat.reduceAdd, Nat.reduceLeDiff, Nat.zero_le, Option.toList_some, Option.toList_none, List.cons_append, List.nil_append, or_true, true_or, or_false, false_or, Nat.reduceEqDiff, not_true_eq_false, not_false_eq_true, false_and, and_false, false_implies, true_implies, implies_true, ne_eq, and_self, ok1, k2', n2', k20', k40', isIA, vpT, nI_clamp, nI_add, r2']
  refine wm_up lo_X7_endYear h7 fun r' g2 ⟨er, hL2⟩ => ?_
  subst er
  simp only [e_L_law_460, tand, true_and, and_true, nl1_int, nl1_ref, nl1_null, nl1_ra, cat1_int, cat1_ref, cat1_null, stbs_nil, stbs_cons, stb_int, stb_long, stb_ref, stb_null, stb_ra, alv_nil, alv_cons, alv1_int, alv1_ref, alv1_null, alv1_ra, List.length_nil, List.length_cons, Nat.reduceAdd, Nat.reduceLeDiff, Nat.zero_le, Option.toList_some, Option.toList_none, List.cons_append, List.nil_append, or_true, true_or, or_false, false_or, Nat.reduceEqDiff, not_true_eq_false, not_false_eq_true, false_and, and_false, false_implies, true_implies, implies_true, ne_eq, and_self, ok1]
  exact next g2 hL2
theorem lc_clearText (h : LV g xs L u) (hu : u + 9 ≤ 6000) (hi : 4 * i + 4 ≤ L) (hL : L ≤ 2048) (next : ∀ g', LV g' xs L (u + 9) → WP m_L_law Q 739 [.ref 2, .ref 20, .ref 40, .int (nI (4 * i))] [] g') : WP m_L_law Q 490 [.ref 2, .ref 20, .ref 40, .int (nI (4 * i))] [] g := by
  obtain ⟨k20, k40⟩ := h.k20
  obtain ⟨k2, n2, r2⟩ := h.1
  simp (disch := omega) only [e_L_law_490, e_L_law_490n, e_L_law_491, tand, true_and, and_true, nl1_int, nl1_ref, nl1_null, nl1_ra, cat1_int, cat1_ref, cat1_null, stbs_nil, stbs_cons, stb_int, stb_long, stb_ref, stb_null, stb_ra, alv_nil, alv_cons, alv1_int, alv1_ref, alv1_null, alv1_ra, List.length_nil, List.length_cons, Nat.reduceAdd, Nat.reduceLeDiff, Nat.zero_le, Option.toList_some, Option.toList_none, List.cons_append, List.nil_append, or_true, true_or, or_false, false_or, Nat.reduceEqDiff, not_true_eq_false, not_false_eq_true, false_and, and_false, false_implies, true_implies, implies_true, ne_eq, and_self, ok1, k2, n2, k20, k40, isIA, vpT, nI_clamp, nI_add, r2]
  refine wm_up lo_X6_clearText (pr_clearText h hu) fun r g1 ⟨a, er, ⟨hk, hS1⟩, h7⟩ => ?_
  subst er
  obtain ⟨k2', n2', r2'⟩ := hS1
  have k20' := (hk 20).trans k20
  have k40' := (hk 40).trans k40
  simp (disch := omega) only [e_L_law_494, e_L_law_494n, e_L_law_495, tand, true_and, and_true, nl1_int, nl1_ref, nl1_null, nl1_ra, cat1_int, cat1_ref, cat1_null, stbs_nil, stbs_cons, stb_int, stb_long, stb_ref, stb_null, stb_ra, alv_nil, alv_cons, alv1_int, alv1_ref, alv1_null, alv1_ra, List.length_nil, List.length_cons, Nat.reduceAdd, Nat.reduceLeDiff, Nat.zero_le, Option.toList_some, Option.toList_none, List.cons_append, List.nil_append, or_true, true_or, or_false, false_or, Nat.reduceEqDiff, not_true_eq_false, not_false_eq_true, false_and, and_false, false_implies, true_implies, implies_true, ne_eq, and_self, ok1, k2', n2', k20', k40', isIA, vpT, nI_clamp, nI_add, r2']
  refine wm_up lo_X7_clearText h7 fun r' g2 ⟨er, hL2⟩ => ?_
  subst er
  simp only [e_L_law_498, tand, true_and, and_true, nl1_int, nl1_ref, nl1_null, nl1_ra, cat1_int, cat1_ref, cat1_null, stbs_nil, stbs_cons, stb_int, stb_long, stb_ref, stb_null, stb_ra, alv_nil, alv_cons, alv1_int, alv1_ref, alv1_null, alv1_ra, List.length_nil, List.length_cons, Nat.reduceAdd, Nat.reduceLeDiff, Nat.zero_le, Option.toList_some, Option.toList_none, List.cons_append, List.nil_append, or_true, true_or, or_false, false_or, Nat.reduceEqDiff, not_true_eq_false, not_false_eq_true, false_and, and_false, false_implies, true_implies, implies_true, ne_eq, and_self, ok1]
  exact next g2 hL2
theorem lc_undo (h : LV g xs L u) (hu : u + 9 ≤ 6000) (hi : 4 * i + 4 ≤ L) (hL : L ≤ 2048) (next : ∀ g', LV g' xs L (u + 9) → WP m_L_law Q 739 [.ref 2, .ref 20, .ref 40, .int (nI (4 * i))] [] g') : WP m_L_law Q 503 [.ref 2, .ref 20, .ref 40, .int (nI (4 * i))] [] g := by
  obtain ⟨k20, k40⟩ := h.k20
  obtain ⟨k2, n2, r2⟩ := h.1
  simp (disch := omega) only [e_L_law_503, e_L_law_503n, e_L_law_504, tand, true_and, and_true, nl1_int, nl1_ref, nl1_null, nl1_ra, cat1_int, cat1_ref, cat1_null, stbs_nil, stbs_cons, stb_int, stb_long, stb_ref, stb_null, stb_ra, alv_nil, alv_cons, alv1_int, alv1_ref, alv1_null, alv1_ra, List.length_nil, List.length_cons, Nat.reduceAdd, Nat.reduceLeDiff, Nat.zero_le, Option.toList_some, Option.toList_none, List.cons_append, List.nil_append, or_true, true_or, or_false, false_or, Nat.reduceEqDiff, not_true_eq_false, not_false_eq_true, false_and, and_false, false_implies, true_implies, implies_true, ne_eq, and_self, ok1, k2, n2, k20, k40, isIA, vpT, nI_clamp, nI_add, r2]
  refine wm_up lo_X6_undo (pr_undo h hu) fun r g1 ⟨a, er, ⟨hk, hS1⟩, h7⟩ => ?_
  subst er
  obtain ⟨k2', n2', r2'⟩ := hS1
  have k20' := (hk 20).trans k20
  have k40' := (hk 40).trans k40
  simp (disch := omega) only [e_L_law_507, e_L_law_507n, e_L_law_508, tand, true_and, and_true, nl1_int, nl1_ref, nl1_null, nl1_ra, cat1_int, cat1_ref, cat1_null, stbs_nil, stbs_cons, stb_int, stb_long, stb_ref, stb_null, stb_ra, alv_nil, alv_cons, alv1_int, alv1_ref, alv1_null, alv1_ra, List.length_nil, List.length_cons, Nat.reduceAdd, Nat.reduceLeDiff, Nat.zero_le, Option.toList_some, Option.toList_none, List.cons_append, List.nil_append, or_true, true_or, or_false, false_or, Nat.reduceEqDiff, not_true_eq_false, not_false_eq_true, false_and, and_false, false_implies, true_implies, implies_true, ne_eq, and_self, ok1, k2', n2', k20', k40', isIA, vpT, nI_clamp, nI_add, r2']
  refine wm_up lo_X7_undo h7 fun r' g2 ⟨er, hL2⟩ => ?_
  subst er
  simp only [e_L_law_511, tand, true_and, and_true, nl1_int, nl1_ref, nl1_null, nl1_ra, cat1_int, cat1_ref, cat1_null, stbs_nil, stbs_cons, stb_int, stb_long, stb_ref, stb_null, stb_ra, alv_nil, alv_cons, alv1_int, alv1_ref, alv1_null, alv1_ra, List.length_nil, List.length_cons, Nat.reduceAdd, Nat.reduceLeDiff, Nat.zero_le, Option.toList_some, Option.toList_none, List.cons_append, List.nil_append, or_true, true_or, or_false, false_or, Nat.reduceEqDiff, not_true_eq_false, not_false_eq_true, false_and, and_false, false_implies, true_implies, implies_true, ne_eq, and_self, ok1]
  exact next g2 hL2
theorem lc_keep (h : LV g xs L u) (hu : u + 9 ≤ 6000) (hi : 4 * i + 4 ≤ L) (hL : L ≤ 2048) (next : ∀ g', LV g' xs L (u + 9) → WP m_L_law Q 739 [.ref 2, .ref 20, .ref 40, .int (nI (4 * i))] [] g') : WP m_L_law Q 516 [.ref 2, .ref 20, .ref 40, .int (nI (4 * i))] [] g := by
  obtain ⟨k20, k40⟩ := h.k20
  obtain ⟨k2, n2, r2⟩ := h.1
  simp (disch := omega) only [e_L_law_516, e_L_law_516n, e_L_law_517, tand, true_and, and_true, nl1_int, nl1_ref, nl1_null, nl1_ra, cat1_int, cat1_ref, cat1_null, stbs_nil, stbs_cons, stb_int, stb_long, stb_ref, stb_null, stb_ra, alv_nil, alv_cons, alv1_int, alv1_ref, alv1_null, alv1_ra, List.length_nil, List.length_cons, Nat.reduceAdd, Nat.reduceLeDiff, Nat.zero_le, Option.toList_some, Option.toList_none, List.cons_append, List.nil_append, or_true, true_or, or_false, false_or, Nat.reduceEqDiff, not_true_eq_false, not_false_eq_true, false_and, and_false, false_implies, true_implies, implies_true, ne_eq, and_self, ok1, k2, n2, k20, k40, isIA, vpT, nI_clamp, nI_add, r2]
  refine wm_up lo_X6_keep (pr_keep h hu) fun r g1 ⟨a, er, ⟨hk, hS1⟩, h7⟩ => ?_
  subst er
  obtain ⟨k2', n2', r2'⟩ := hS1
  have k20' := (hk 20).trans k20
  have k40' := (hk 40).trans k40
  simp (disch := omega) only [e_L_law_520, e_L_law_520n, e_L_law_521, tand, true_and, and_true, nl1_int, nl1_ref, nl1_null, nl1_ra, cat1_int, cat1_ref, cat1_null, stbs_nil, stbs_cons, stb_int, stb_long, stb_ref, stb_null, stb_ra, alv_nil, alv_cons, alv1_int, alv1_ref, alv1_null, alv1_ra, List.length_nil, List.length_cons, Nat.reduceAdd, Nat.reduceLeDiff, Nat.zero_le, Option.toList_some, Option.toList_none, List.cons_append, List.nil_append, or_true, true_or, or_false, false_or, Nat.reduceEqDiff, not_true_eq_false, not_false_eq_true, false_and, and_false, false_implies, true_implies, implies_true, ne_eq, and_self, ok1, k2', n2', k20', k40', isIA, vpT, nI_clamp, nI_add, r2']
  refine wm_up lo_X7_keep h7 fun r' g2 ⟨er, hL2⟩ => ?_
  subst er
  simp only [e_L_law_524, tand, true_and, and_true, nl1_int, nl1_ref, nl1_null, nl1_ra, cat1_int, cat1_ref, cat1_null, stbs_nil, stbs_cons, stb_int, stb_long, stb_ref, stb_null, stb_ra, alv_nil, alv_cons, alv1_int, alv1_ref, alv1_null, alv1_ra, List.length_nil, List.length_cons, Nat.reduceAdd, Nat.reduceLeDiff, Nat.zero_le, Option.toList_some, Option.toList_none, List.cons_append, List.nil_append, or_true, true_or, or_false, false_or, Nat.reduceEqDiff, not_true_eq_false, not_false_eq_true, false_and, and_false, false_implies, true_implies, implies_true, ne_eq, and_self, ok1]
  exact next g2 hL2
theorem lc_restore (h : LV g xs L u) (hu : u + 9 ≤ 6000) (hi : 4 * i + 4 ≤ L) (hL : L ≤ 2048) (next : ∀ g', LV g' xs L (u + 9) → WP m_L_law Q 739 [.ref 2, .ref 20, .ref 40, .int (nI (4 * i))] [] g') : WP m_L_law Q 529 [.ref 2, .ref 20, .ref 40, .int (nI (4 * i))] [] g := by
  obtain ⟨k20, k40⟩ := h.k20
  obtain ⟨k2, n2, r2⟩ := h.1
  simp (disch := omega) only [e_L_law_529, e_L_law_529n, e_L_law_530, tand, true_and, and_true, nl1_int, nl1_ref, nl1_null, nl1_ra, cat1_int, cat1_ref, cat1_null, stbs_nil, stbs_cons, stb_int, stb_long, stb_ref, stb_null, stb_ra, alv_nil, alv_cons, alv1_int, alv1_ref, alv1_null, alv1_ra, List.length_nil, List.length_cons, Nat.reduceAdd, Nat.reduceLeDiff, Nat.zero_le, Option.toList_some, Option.toList_none, List.cons_append, List.nil_append, or_true, true_or, or_false, false_or, Nat.reduceEqDiff, not_true_eq_false, not_false_eq_true, false_and, and_false, false_implies, true_implies, implies_true, ne_eq, and_self, ok1, k2, n2, k20, k40, isIA, vpT, nI_clamp, nI_add, r2]
  refine wm_up lo_X6_restore (pr_restore h hu) fun r g1 ⟨a, er, ⟨hk, hS1⟩, h7⟩ => ?_
  subst er
  obtain ⟨k2', n2', r2'⟩ := hS1
  have k20' := (hk 20).trans k20
  have k40' := (hk 40).trans k40
  simp (disch := omega) only [e_L_law_533, e_L_law_533n, e_L_law_534, tand, true_and, and_true, nl1_int, nl1_ref, nl1_null, nl1_ra, cat1_int, cat1_ref, cat1_null, stbs_nil, stbs_cons, stb_int, stb_long, stb_ref, stb_null, stb_ra, alv_nil, alv_cons, alv1_int, alv1_ref, alv1_null, alv1_ra, List.length_nil, List.length_cons, Nat.reduceAdd, Nat.reduceLeDiff, Nat.zero_le, Option.toList_some, Option.toList_none, List.cons_append, List.nil_append, or_true, true_or, or_false, false_or, Nat.reduceEqDiff, not_true_eq_false, not_false_eq_true, false_and, and_false, false_implies, true_implies, implies_true, ne_eq, and_self, ok1, k2', n2', k20', k40', isIA, vpT, nI_clamp, nI_add, r2']
  refine wm_up lo_X7_restore h7 fun r' g2 ⟨er, hL2⟩ => ?_
  subst er
  simp only [e_L_law_537, tand, true_and, and_true, nl1_int, nl1_ref, nl1_null, nl1_ra, cat1_int, cat1_ref, cat1_null, stbs_nil, stbs_cons, stb_int, stb_long, stb_ref, stb_null, stb_ra, alv_nil, alv_cons, alv1_int, alv1_ref, alv1_null, alv1_ra, List.length_nil, List.length_cons, Nat.reduceAdd, Nat.reduceLeDiff, Nat.zero_le, Option.toList_some, Option.toList_none, List.cons_append, List.nil_append, or_true, true_or, or_false, false_or, Nat.reduceEqDiff, not_true_eq_false, not_false_eq_true, false_and, and_false, false_implies, true_implies, implies_true, ne_eq, and_self, ok1]
  exact next g2 hL2
theorem lc_kiln (h : LV g xs L u) (hu : u + 9 ≤ 6000) (hi : 4 * i + 4 ≤ L) (hL : L ≤ 2048) (next : ∀ g', LV g' xs L (u + 9) → WP m_L_law Q 739 [.ref 2, .ref 20, .ref 40, .int (nI (4 * i))] [] g') : WP m_L_law Q 542 [.ref 2, .ref 20, .ref 40, .int (nI (4 * i))] [] g := by
  obtain ⟨k20, k40⟩ := h.k20
  obtain ⟨k2, n2, r2⟩ := h.1
  simp (disch := omega) only [e_L_law_542, e_L_law_542n, e_L_law_543, e_L_law_543n, e_L_law_544, e_L_law_545, e_L_law_546, e_L_law_547, e_L_law_548, e_L_law_548n, e_L_law_549, e_L_law_550, e_L_law_551, e_L_law_552, e_L_law_553, tand, true_and, and_true, nl1_int, nl1_ref, nl1_null, nl1_ra, cat1_int, cat1_ref, cat1_null, stbs_nil, stbs_cons, stb_int, stb_long, stb_ref, stb_null, stb_ra, alv_nil, alv_cons, alv1_int, alv1_ref, alv1_null, alv1_ra, List.length_nil, List.length_cons, Nat.reduceAdd, Nat.reduceLeDiff, Nat.zero_le, Option.toList_some, Option.toList_none, List.cons_append, List.nil_append, or_true, true_or, or_false, false_or, Nat.reduceEqDiff, not_true_eq_false, not_false_eq_true, false_and, and_false, false_implies, true_implies, implies_true, ne_eq, and_self, ok1, k2, n2, k20, k40, isIA, vpT, nI_clamp, nI_add, r2]
  refine wm_up lo_X6_kiln (pr_kiln h hu) fun r g1 ⟨a, er, ⟨hk, hS1⟩, h7⟩ => ?_
  subst er
  obtain ⟨k2', n2', r2'⟩ := hS1
  have k20' := (hk 20).trans k20
  have k40' := (hk 40).trans k40
  simp (disch := omega) only [e_L_law_556, e_L_law_556n, e_L_law_557, e_L_law_557n, e_L_law_558, e_L_law_559, e_L_law_560, e_L_law_561, e_L_law_562, e_L_law_562n, e_L_law_563, e_L_law_564, e_L_law_565, e_L_law_566, e_L_law_567, tand, true_and, and_true, nl1_int, nl1_ref, nl1_null, nl1_ra, cat1_int, cat1_ref, cat1_null, stbs_nil, stbs_cons, stb_int, stb_long, stb_ref, stb_null, stb_ra, alv_nil, alv_cons, alv1_int, alv1_ref, alv1_null, alv1_ra, List.length_nil, List.length_cons, Nat.reduceAdd, Nat.reduceLeDiff, Nat.zero_le, Option.toList_some, Option.toList_none, List.cons_append, List.nil_append, or_true, true_or, or_false, false_or, Nat.reduceEqDiff, not_true_eq_false, not_false_eq_true, false_and, and_false, false_implies, true_implies, implies_true, ne_eq, and_self, ok1, k2', n2', k20', k40', isIA, vpT, nI_clamp, nI_add, r2']
  refine wm_up lo_X7_kiln h7 fun r' g2 ⟨er, hL2⟩ => ?_
  subst er
  simp only [e_L_law_570, tand, true_and, and_true, nl1_int, nl1_ref, nl1_null, nl1_ra, cat1_int, cat1_ref, cat1_null, stbs_nil, stbs_cons, stb_int, stb_long, stb_ref, stb_null, stb_ra, alv_nil, alv_cons, alv1_int, alv1_ref, alv1_null, alv1_ra, List.length_nil, List.length_cons, Nat.reduceAdd, Nat.reduceLeDiff, Nat.zero_le, Option.toList_some, Option.toList_none, List.cons_append, List.nil_append, or_true, true_or, or_false, false_or, Nat.reduceEqDiff, not_true_eq_false, not_false_eq_true, false_and, and_false, false_implies, true_implies, implies_true, ne_eq, and_self, ok1]
  exact next g2 hL2
theorem lc_ofYear (h : LV g xs L u) (hu : u + 9 ≤ 6000) (hi : 4 * i + 4 ≤ L) (hL : L ≤ 2048) (next : ∀ g', LV g' xs L (u + 9) → WP m_L_law Q 739 [.ref 2, .ref 20, .ref 40, .int (nI (4 * i))] [] g') : WP m_L_law Q 575 [.ref 2, .ref 20, .ref 40, .int (nI (4 * i))] [] g := by
  obtain ⟨k20, k40⟩ := h.k20
  obtain ⟨k2, n2, r2⟩ := h.1
  simp (disch := omega) only [e_L_law_575, e_L_law_575n, e_L_law_576, e_L_law_576n, e_L_law_577, e_L_law_578, e_L_law_579, e_L_law_580, e_L_law_581, e_L_law_581n, e_L_law_582, e_L_law_583, e_L_law_584, e_L_law_585, e_L_law_586, tand, true_and, and_true, nl1_int, nl1_ref, nl1_null, nl1_ra, cat1_int, cat1_ref, cat1_null, stbs_nil, stbs_cons, stb_int, stb_long, stb_ref, stb_null, stb_ra, alv_nil, alv_cons, alv1_int, alv1_ref, alv1_null, alv1_ra, List.length_nil, List.length_cons, Nat.reduceAdd, Nat.reduceLeDiff, Nat.zero_le, Option.toList_some, Option.toList_none, List.cons_append, List.nil_append, or_true, true_or, or_false, false_or, Nat.reduceEqDiff, not_true_eq_false, not_false_eq_true, false_and, and_false, false_implies, true_implies, implies_true, ne_eq, and_self, ok1, k2, n2, k20, k40, isIA, vpT, nI_clamp, nI_add, r2]
  refine wm_up lo_X6_ofYear (pr_ofYear h hu) fun r g1 ⟨a, er, ⟨hk, hS1⟩, h7⟩ => ?_
  subst er
  obtain ⟨k2', n2', r2'⟩ := hS1
  have k20' := (hk 20).trans k20
  have k40' := (hk 40).trans k40
  simp (disch := omega) only [e_L_law_589, e_L_law_589n, e_L_law_590, e_L_law_590n, e_L_law_591, e_L_law_592, e_L_law_593, e_L_law_594, e_L_law_595, e_L_law_595n, e_L_law_596, e_L_law_597, e_L_law_598, e_L_law_599, e_L_law_600, tand, true_and, and_true, nl1_int, nl1_ref, nl1_null, nl1_ra, cat1_int, cat1_ref, cat1_null, stbs_nil, stbs_cons, stb_int, stb_long, stb_ref, stb_null, stb_ra, alv_nil, alv_cons, alv1_int, alv1_ref, alv1_null, alv1_ra, List.length_nil, List.length_cons, Nat.reduceAdd, Nat.reduceLeDiff, Nat.zero_le, Option.toList_some, Option.toList_none, List.cons_append, List.nil_append, or_true, true_or, or_false, false_or, Nat.reduceEqDiff, not_true_eq_false, not_false_eq_true, false_and, and_false, false_implies, true_implies, implies_true, ne_eq, and_self, ok1, k2', n2', k20', k40', isIA, vpT, nI_clamp, nI_add, r2']
  refine wm_up lo_X7_ofYear h7 fun r' g2 ⟨er, hL2⟩ => ?_
  subst er
  simp only [e_L_law_603, tand, true_and, and_true, nl1_int, nl1_ref, nl1_null, nl1_ra, cat1_int, cat1_ref, cat1_null, stbs_nil, stbs_cons, stb_int, stb_long, stb_ref, stb_null, stb_ra, alv_nil, alv_cons, alv1_int, alv1_ref, alv1_null, alv1_ra, List.length_nil, List.length_cons, Nat.reduceAdd, Nat.reduceLeDiff, Nat.zero_le, Option.toList_some, Option.toList_none, List.cons_append, List.nil_append, or_true, true_or, or_false, false_or, Nat.reduceEqDiff, not_true_eq_false, not_false_eq_true, false_and, and_false, false_implies, true_implies, implies_true, ne_eq, and_self, ok1]
  exact next g2 hL2
theorem lc_count (h : LV g xs L u) (hu : u + 9 ≤ 6000) (hi : 4 * i + 4 ≤ L) (hL : L ≤ 2048) (next : ∀ g', LV g' xs L (u + 9) → WP m_L_law Q 739 [.ref 2, .ref 20, .ref 40, .int (nI (4 * i))] [] g') : WP m_L_law Q 716 [.ref 2, .ref 20, .ref 40, .int (nI (4 * i))] [] g := by
  obtain ⟨k20, k40⟩ := h.k20
  obtain ⟨k2, n2, r2⟩ := h.1
  simp (disch := omega) only [e_L_law_716, e_L_law_716n, e_L_law_717, e_L_law_717n, e_L_law_718, e_L_law_719, e_L_law_720, e_L_law_721, e_L_law_722, tand, true_and, and_true, nl1_int, nl1_ref, nl1_null, nl1_ra, cat1_int, cat1_ref, cat1_null, stbs_nil, stbs_cons, stb_int, stb_long, stb_ref, stb_null, stb_ra, alv_nil, alv_cons, alv1_int, alv1_ref, alv1_null, alv1_ra, List.length_nil, List.length_cons, Nat.reduceAdd, Nat.reduceLeDiff, Nat.zero_le, Option.toList_some, Option.toList_none, List.cons_append, List.nil_append, or_true, true_or, or_false, false_or, Nat.reduceEqDiff, not_true_eq_false, not_false_eq_true, false_and, and_false, false_implies, true_implies, implies_true, ne_eq, and_self, ok1, k2, n2, k20, k40, isIA, vpT, nI_clamp, nI_add, r2]
  refine wm_up lo_X6_count (pr_count h hu) fun r g1 ⟨a, er, ⟨hk, hS1⟩, h7⟩ => ?_
  subst er
  obtain ⟨k2', n2', r2'⟩ := hS1
  have k20' := (hk 20).trans k20
  have k40' := (hk 40).trans k40
  simp (disch := omega) only [e_L_law_725, e_L_law_725n, e_L_law_726, e_L_law_726n, e_L_law_727, e_L_law_728, e_L_law_729, e_L_law_730, e_L_law_731, tand, true_and, and_true, nl1_int, nl1_ref, nl1_null, nl1_ra, cat1_int, cat1_ref, cat1_null, stbs_nil, stbs_cons, stb_int, stb_long, stb_ref, stb_null, stb_ra, alv_nil, alv_cons, alv1_int, alv1_ref, alv1_null, alv1_ra, List.length_nil, List.length_cons, Nat.reduceAdd, Nat.reduceLeDiff, Nat.zero_le, Option.toList_some, Option.toList_none, List.cons_append, List.nil_append, or_true, true_or, or_false, false_or, Nat.reduceEqDiff, not_true_eq_false, not_false_eq_true, false_and, and_false, false_implies, true_implies, implies_true, ne_eq, and_self, ok1, k2', n2', k20', k40', isIA, vpT, nI_clamp, nI_add, r2']
  refine wm_up lo_X7_count h7 fun r' g2 ⟨er, hL2⟩ => ?_
  subst er
  simp only [e_L_law_734, tand, true_and, and_true, nl1_int, nl1_ref, nl1_null, nl1_ra, cat1_int, cat1_ref, cat1_null, stbs_nil, stbs_cons, stb_int, stb_long, stb_ref, stb_null, stb_ra, alv_nil, alv_cons, alv1_int, alv1_ref, alv1_null, alv1_ra, List.length_nil, List.length_cons, Nat.reduceAdd, Nat.reduceLeDiff, Nat.zero_le, Option.toList_some, Option.toList_none, List.cons_append, List.nil_append, or_true, true_or, or_false, false_or, Nat.reduceEqDiff, not_true_eq_false, not_false_eq_true, false_and, and_false, false_implies, true_implies, implies_true, ne_eq, and_self, ok1]
  exact next g2 hL2
theorem lc_type (h : LV g xs L u) (hu : u + 9 ≤ 6000) (hi : 4 * i + 4 ≤ L) (hL : L ≤ 2048) (next : ∀ g', LV g' xs L (u + 9) → WP m_L_law Q 739 [.ref 2, .ref 20, .ref 40, .int (nI (4 * i))] [] g') : WP m_L_law Q 465 [.ref 2, .ref 20, .ref 40, .int (nI (4 * i))] [] g := by
  obtain ⟨k20, k40⟩ := h.k20
  obtain ⟨k2, n2, r2⟩ := h.1
  have hc : (xs (4 * i + 1)).toBitVec.toNat % 65536 < 65536 := Nat.mod_lt _ (by decide)
  have hch := pk_char (xs (4 * i + 1))
  generalize (xs (4 * i + 1)).toBitVec.toNat % 65536 = c at *
  simp (disch := omega) only [e_L_law_465, e_L_law_465n, e_L_law_466, e_L_law_466n, e_L_law_467, e_L_law_468, e_L_law_469, e_L_law_470, e_L_law_471, e_L_law_472, tand, true_and, and_true, nl1_int, nl1_ref, nl1_null, nl1_ra, cat1_int, cat1_ref, cat1_null, stbs_nil, stbs_cons, stb_int, stb_long, stb_ref, stb_null, stb_ra, alv_nil, alv_cons, alv1_int, alv1_ref, alv1_null, alv1_ra, List.length_nil, List.length_cons, Nat.reduceAdd, Nat.reduceLeDiff, Nat.zero_le, Option.toList_some, Option.toList_none, List.cons_append, List.nil_append, or_true, true_or, or_false, false_or, Nat.reduceEqDiff, not_true_eq_false, not_false_eq_true, false_and, and_false, false_implies, true_implies, implies_true, ne_eq, and_self, ok1, k2, n2, k20, k40, isIA, vpT, nI_clamp, nI_add, r2, hch]
  refine wm_up lo_X6_type (pr_type h hu hc (pk_charN hc).1) fun r g1 ⟨a, er, ⟨hk, hS1⟩, h7⟩ => ?_
  subst er
  obtain ⟨k2', n2', r2'⟩ := hS1
  have k20' := (hk 20).trans k20
  have k40' := (hk 40).trans k40
  simp (disch := omega) only [e_L_law_475, e_L_law_475n, e_L_law_476, e_L_law_476n, e_L_law_477, e_L_law_478, e_L_law_479, e_L_law_480, e_L_law_481, e_L_law_482, tand, true_and, and_true, nl1_int, nl1_ref, nl1_null, nl1_ra, cat1_int, cat1_ref, cat1_null, stbs_nil, stbs_cons, stb_int, stb_long, stb_ref, stb_null, stb_ra, alv_nil, alv_cons, alv1_int, alv1_ref, alv1_null, alv1_ra, List.length_nil, List.length_cons, Nat.reduceAdd, Nat.reduceLeDiff, Nat.zero_le, Option.toList_some, Option.toList_none, List.cons_append, List.nil_append, or_true, true_or, or_false, false_or, Nat.reduceEqDiff, not_true_eq_false, not_false_eq_true, false_and, and_false, false_implies, true_implies, implies_true, ne_eq, and_self, ok1, k2', n2', k20', k40', isIA, vpT, nI_clamp, nI_add, r2', hch]
  refine wm_up lo_X7_type h7 fun r' g2 ⟨er, hL2⟩ => ?_
  subst er
  simp only [e_L_law_485, tand, true_and, and_true, nl1_int, nl1_ref, nl1_null, nl1_ra, cat1_int, cat1_ref, cat1_null, stbs_nil, stbs_cons, stb_int, stb_long, stb_ref, stb_null, stb_ra, alv_nil, alv_cons, alv1_int, alv1_ref, alv1_null, alv1_ra, List.length_nil, List.length_cons, Nat.reduceAdd, Nat.reduceLeDiff, Nat.zero_le, Option.toList_some, Option.toList_none, List.cons_append, List.nil_append, or_true, true_or, or_false, false_or, Nat.reduceEqDiff, not_true_eq_false, not_false_eq_true, false_and, and_false, false_implies, true_implies, implies_true, ne_eq, and_self, ok1]
  exact next g2 hL2
theorem lc_order (h : LV g xs L u) (hu : u + 9 ≤ 6000) (hi : 4 * i + 4 ≤ L) (hL : L ≤ 2048) (next : ∀ g', LV g' xs L (u + 9) → WP m_L_law Q 739 [.ref 2, .ref 20, .ref 40, .int (nI (4 * i))] [] g') : WP m_L_law Q 608 [.ref 2, .ref 20, .ref 40, .int (nI (4 * i))] [] g := by
  obtain ⟨k20, k40⟩ := h.k20
  obtain ⟨k2, n2, r2⟩ := h.1
  by_cases hz : xs (4 * i + 1) = 0
  · simp (disch := omega) only [e_L_law_608, e_L_law_608n, e_L_law_609, e_L_law_609n, e_L_law_610, e_L_law_611, e_L_law_612, e_L_law_613, e_L_law_614, e_L_law_617, e_L_law_618, e_L_law_621, e_L_law_622, e_L_law_622n, e_L_law_623, e_L_law_624, e_L_law_625, e_L_law_626, e_L_law_627, e_L_law_627n, e_L_law_628, e_L_law_629, e_L_law_630, e_L_law_631, e_L_law_632, tand, true_and, and_true, nl1_int, nl1_ref, nl1_null, nl1_ra, cat1_int, cat1_ref, cat1_null, stbs_nil, stbs_cons, stb_int, stb_long, stb_ref, stb_null, stb_ra, alv_nil, alv_cons, alv1_int, alv1_ref, alv1_null, alv1_ra, List.length_nil, List.length_cons, Nat.reduceAdd, Nat.reduceLeDiff, Nat.zero_le, Option.toList_some, Option.toList_none, List.cons_append, List.nil_append, or_true, true_or, or_false, false_or, Nat.reduceEqDiff, not_true_eq_false, not_false_eq_true, false_and, and_false, false_implies, true_implies, implies_true, ne_eq, and_self, ok1, k2, n2, k20, k40, isIA, vpT, nI_clamp, nI_add, r2, hz]
    refine wm_up lo_X6_order (pr_order (b := 0) (by decide) h hu) fun r g1 ⟨a, er, ⟨hk, hS1⟩, h7⟩ => ?_
    subst er
    obtain ⟨k2', n2', r2'⟩ := hS1
    have k20' := (hk 20).trans k20
    have k40' := (hk 40).trans k40
    simp (disch := omega) only [e_L_law_635, e_L_law_635n, e_L_law_636, e_L_law_636n, e_L_law_637, e_L_law_638, e_L_law_639, e_L_law_640, e_L_law_641, e_L_law_644, e_L_law_645, e_L_law_648, e_L_law_649, e_L_law_649n, e_L_law_650, e_L_law_651, e_L_law_652, e_L_law_653, e_L_law_654, e_L_law_654n, e_L_law_655, e_L_law_656, e_L_law_657, e_L_law_658, e_L_law_659, tand, true_and, and_true, nl1_int, nl1_ref, nl1_null, nl1_ra, cat1_int, cat1_ref, cat1_null, stbs_nil, stbs_cons, stb_int, stb_long, stb_ref, stb_null, stb_ra, alv_nil, alv_cons, alv1_int, alv1_ref, alv1_null, alv1_ra, List.length_nil, List.length_cons, Nat.reduceAdd, Nat.reduceLeDiff, Nat.zero_le, Option.toList_some, Option.toList_none, List.cons_append, List.nil_append, or_true, true_or, or_false, false_or, Nat.reduceEqDiff, not_true_eq_false, not_false_eq_true, false_and, and_false, false_implies, true_implies, implies_true, ne_eq, and_self, ok1, k2', n2', k20', k40', isIA, vpT, nI_clamp, nI_add, r2', hz]
    refine wm_up lo_X7_order h7 fun r' g2 ⟨er, hL2⟩ => ?_
    subst er
    simp only [e_L_law_662, tand, true_and, and_true, nl1_int, nl1_ref, nl1_null, nl1_ra, cat1_int, cat1_ref, cat1_null, stbs_nil, stbs_cons, stb_int, stb_long, stb_ref, stb_null, stb_ra, alv_nil, alv_cons, alv1_int, alv1_ref, alv1_null, alv1_ra, List.length_nil, List.length_cons, Nat.reduceAdd, Nat.reduceLeDiff, Nat.zero_le, Option.toList_some, Option.toList_none, List.cons_append, List.nil_append, or_true, true_or, or_false, false_or, Nat.reduceEqDiff, not_true_eq_false, not_false_eq_true, false_and, and_false, false_implies, true_implies, implies_true, ne_eq, and_self, ok1]
    exact next g2 hL2
  · simp (disch := omega) only [e_L_law_608, e_L_law_608n, e_L_law_609, e_L_law_609n, e_L_law_610, e_L_law_611, e_L_law_612, e_L_law_613, e_L_law_614, e_L_law_617, e_L_law_618, e_L_law_621, e_L_law_622, e_L_law_622n, e_L_law_623, e_L_law_624, e_L_law_625, e_L_law_626, e_L_law_627, e_L_law_627n, e_L_law_628, e_L_law_629, e_L_law_630, e_L_law_631, e_L_law_632, tand, true_and, and_true, nl1_int, nl1_ref, nl1_null, nl1_ra, cat1_int, cat1_ref, cat1_null, stbs_nil, stbs_cons, stb_int, stb_long, stb_ref, stb_null, stb_ra, alv_nil, alv_cons, alv1_int, alv1_ref, alv1_null, alv1_ra, List.length_nil, List.length_cons, Nat.reduceAdd, Nat.reduceLeDiff, Nat.zero_le, Option.toList_some, Option.toList_none, List.cons_append, List.nil_append, or_true, true_or, or_false, false_or, Nat.reduceEqDiff, not_true_eq_false, not_false_eq_true, false_and, and_false, false_implies, true_implies, implies_true, ne_eq, and_self, ok1, k2, n2, k20, k40, isIA, vpT, nI_clamp, nI_add, r2, hz]
    refine wm_up lo_X6_order (pr_order (b := 1) (by decide) h hu) fun r g1 ⟨a, er, ⟨hk, hS1⟩, h7⟩ => ?_
    subst er
    obtain ⟨k2', n2', r2'⟩ := hS1
    have k20' := (hk 20).trans k20
    have k40' := (hk 40).trans k40
    simp (disch := omega) only [e_L_law_635, e_L_law_635n, e_L_law_636, e_L_law_636n, e_L_law_637, e_L_law_638, e_L_law_639, e_L_law_640, e_L_law_641, e_L_law_644, e_L_law_645, e_L_law_648, e_L_law_649, e_L_law_649n, e_L_law_650, e_L_law_651, e_L_law_652, e_L_law_653, e_L_law_654, e_L_law_654n, e_L_law_655, e_L_law_656, e_L_law_657, e_L_law_658, e_L_law_659, tand, true_and, and_true, nl1_int, nl1_ref, nl1_null, nl1_ra, cat1_int, cat1_ref, cat1_null, stbs_nil, stbs_cons, stb_int, stb_long, stb_ref, stb_null, stb_ra, alv_nil, alv_cons, alv1_int, alv1_ref, alv1_null, alv1_ra, List.length_nil, List.length_cons, Nat.reduceAdd, Nat.reduceLeDiff, Nat.zero_le, Option.toList_some, Option.toList_none, List.cons_append, List.nil_append, or_true, true_or, or_false, false_or, Nat.reduceEqDiff, not_true_eq_false, not_false_eq_true, false_and, and_false, false_implies, true_implies, implies_true, ne_eq, and_self, ok1, k2', n2', k20', k40', isIA, vpT, nI_clamp, nI_add, r2', hz]
    refine wm_up lo_X7_order h7 fun r' g2 ⟨er, hL2⟩ => ?_
    subst er
    simp only [e_L_law_662, tand, true_and, and_true, nl1_int, nl1_ref, nl1_null, nl1_ra, cat1_int, cat1_ref, cat1_null, stbs_nil, stbs_cons, stb_int, stb_long, stb_ref, stb_null, stb_ra, alv_nil, alv_cons, alv1_int, alv1_ref, alv1_null, alv1_ra, List.length_nil, List.length_cons, Nat.reduceAdd, Nat.reduceLeDiff, Nat.zero_le, Option.toList_some, Option.toList_none, List.cons_append, List.nil_append, or_true, true_or, or_false, false_or, Nat.reduceEqDiff, not_true_eq_false, not_false_eq_true, false_and, and_false, false_implies, true_implies, implies_true, ne_eq, and_self, ok1]
    exact next g2 hL2
theorem lc_depth (h : LV g xs L u) (hu : u + 9 ≤ 6000) (hi : 4 * i + 4 ≤ L) (hL : L ≤ 2048) (next : ∀ g', LV g' xs L (u + 9) → WP m_L_law Q 739 [.ref 2, .ref 20, .ref 40, .int (nI (4 * i))] [] g') : WP m_L_law Q 667 [.ref 2, .ref 20, .ref 40, .int (nI (4 * i))] [] g := by
  obtain ⟨k20, k40⟩ := h.k20
  obtain ⟨k2, n2, r2⟩ := h.1
  by_cases hz : xs (4 * i + 1) = 0
  · simp (disch := omega) only [e_L_law_667, e_L_law_667n, e_L_law_668, e_L_law_668n, e_L_law_669, e_L_law_670, e_L_law_671, e_L_law_672, e_L_law_673, e_L_law_676, e_L_law_677, e_L_law_680, e_L_law_681, e_L_law_681n, e_L_law_682, e_L_law_683, e_L_law_684, e_L_law_685, e_L_law_686, tand, true_and, and_true, nl1_int, nl1_ref, nl1_null, nl1_ra, cat1_int, cat1_ref, cat1_null, stbs_nil, stbs_cons, stb_int, stb_long, stb_ref, stb_null, stb_ra, alv_nil, alv_cons, alv1_int, alv1_ref, alv1_null, alv1_ra, List.length_nil, List.length_cons, Nat.reduceAdd, Nat.reduceLeDiff, Nat.zero_le, Option.toList_some, Option.toList_none, List.cons_append, List.nil_append, or_true, true_or, or_false, false_or, Nat.reduceEqDiff, not_true_eq_false, not_false_eq_true, false_and, and_false, false_implies, true_implies, implies_true, ne_eq, and_self, ok1, k2, n2, k20, k40, isIA, vpT, nI_clamp, nI_add, r2, hz]
    refine wm_up lo_X6_depth (pr_depth (b := 0) (by decide) h hu) fun r g1 ⟨a, er, ⟨hk, hS1⟩, h7⟩ => ?_
    subst er
    obtain ⟨k2', n2', r2'⟩ := hS1
    have k20' := (hk 20).trans k20
    have k40' := (hk 40).trans k40
    simp (disch := omega) only [e_L_law_689, e_L_law_689n, e_L_law_690, e_L_law_690n, e_L_law_691, e_L_law_692, e_L_law_693, e_L_law_694, e_L_law_695, e_L_law_698, e_L_law_699, e_L_law_702, e_L_law_703, e_L_law_703n, e_L_law_704, e_L_law_705, e_L_law_706, e_L_law_707, e_L_law_708, tand, true_and, and_true, nl1_int, nl1_ref, nl1_null, nl1_ra, cat1_int, cat1_ref, cat1_null, stbs_nil, stbs_cons, stb_int, stb_long, stb_ref, stb_null, stb_ra, alv_nil, alv_cons, alv1_int, alv1_ref, alv1_null, alv1_ra, List.length_nil, List.length_cons, Nat.reduceAdd, Nat.reduceLeDiff, Nat.zero_le, Option.toList_some, Option.toList_none, List.cons_append, List.nil_append, or_true, true_or, or_false, false_or, Nat.reduceEqDiff, not_true_eq_false, not_false_eq_true, false_and, and_false, false_implies, true_implies, implies_true, ne_eq, and_self, ok1, k2', n2', k20', k40', isIA, vpT, nI_clamp, nI_add, r2', hz]
    refine wm_up lo_X7_depth h7 fun r' g2 ⟨er, hL2⟩ => ?_
    subst er
    simp only [e_L_law_711, tand, true_and, and_true, nl1_int, nl1_ref, nl1_null, nl1_ra, cat1_int, cat1_ref, cat1_null, stbs_nil, stbs_cons, stb_int, stb_long, stb_ref, stb_null, stb_ra, alv_nil, alv_cons, alv1_int, alv1_ref, alv1_null, alv1_ra, List.length_nil, List.length_cons, Nat.reduceAdd, Nat.reduceLeDiff, Nat.zero_le, Option.toList_some, Option.toList_none, List.cons_append, List.nil_append, or_true, true_or, or_false, false_or, Nat.reduceEqDiff, not_true_eq_false, not_false_eq_true, false_and, and_false, false_implies, true_implies, implies_true, ne_eq, and_self, ok1]
    exact next g2 hL2
  · simp (disch := omega) only [e_L_law_667, e_L_law_667n, e_L_law_668, e_L_law_668n, e_L_law_669, e_L_law_670, e_L_law_671, e_L_law_672, e_L_law_673, e_L_law_676, e_L_law_677, e_L_law_680, e_L_law_681, e_L_law_681n, e_L_law_682, e_L_law_683, e_L_law_684, e_L_law_685, e_L_law_686, tand, true_and, and_true, nl1_int, nl1_ref, nl1_null, nl1_ra, cat1_int, cat1_ref, cat1_null, stbs_nil, stbs_cons, stb_int, stb_long, stb_ref, stb_null, stb_ra, alv_nil, alv_cons, alv1_int, alv1_ref, alv1_null, alv1_ra, List.length_nil, List.length_cons, Nat.reduceAdd, Nat.reduceLeDiff, Nat.zero_le, Option.toList_some, Option.toList_none, List.cons_append, List.nil_append, or_true, true_or, or_false, false_or, Nat.reduceEqDiff, not_true_eq_false, not_false_eq_true, false_and, and_false, false_implies, true_implies, implies_true, ne_eq, and_self, ok1, k2, n2, k20, k40, isIA, vpT, nI_clamp, nI_add, r2, hz]
    refine wm_up lo_X6_depth (pr_depth (b := 1) (by decide) h hu) fun r g1 ⟨a, er, ⟨hk, hS1⟩, h7⟩ => ?_
    subst er
    obtain ⟨k2', n2', r2'⟩ := hS1
    have k20' := (hk 20).trans k20
    have k40' := (hk 40).trans k40
    simp (disch := omega) only [e_L_law_689, e_L_law_689n, e_L_law_690, e_L_law_690n, e_L_law_691, e_L_law_692, e_L_law_693, e_L_law_694, e_L_law_695, e_L_law_698, e_L_law_699, e_L_law_702, e_L_law_703, e_L_law_703n, e_L_law_704, e_L_law_705, e_L_law_706, e_L_law_707, e_L_law_708, tand, true_and, and_true, nl1_int, nl1_ref, nl1_null, nl1_ra, cat1_int, cat1_ref, cat1_null, stbs_nil, stbs_cons, stb_int, stb_long, stb_ref, stb_null, stb_ra, alv_nil, alv_cons, alv1_int, alv1_ref, alv1_null, alv1_ra, List.length_nil, List.length_cons, Nat.reduceAdd, Nat.reduceLeDiff, Nat.zero_le, Option.toList_some, Option.toList_none, List.cons_append, List.nil_append, or_true, true_or, or_false, false_or, Nat.reduceEqDiff, not_true_eq_false, not_false_eq_true, false_and, and_false, false_implies, true_implies, implies_true, ne_eq, and_self, ok1, k2', n2', k20', k40', isIA, vpT, nI_clamp, nI_add, r2', hz]
    refine wm_up lo_X7_depth h7 fun r' g2 ⟨er, hL2⟩ => ?_
    subst er
    simp only [e_L_law_711, tand, true_and, and_true, nl1_int, nl1_ref, nl1_null, nl1_ra, cat1_int, cat1_ref, cat1_null, stbs_nil, stbs_cons, stb_int, stb_long, stb_ref, stb_null, stb_ra, alv_nil, alv_cons, alv1_int, alv1_ref, alv1_null, alv1_ra, List.length_nil, List.length_cons, Nat.reduceAdd, Nat.reduceLeDiff, Nat.zero_le, Option.toList_some, Option.toList_none, List.cons_append, List.nil_append, or_true, true_or, or_false, false_or, Nat.reduceEqDiff, not_true_eq_false, not_false_eq_true, false_and, and_false, false_implies, true_implies, implies_true, ne_eq, and_self, ok1]
    exact next g2 hL2
end Lca
