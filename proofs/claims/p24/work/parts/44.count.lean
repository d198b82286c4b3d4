/-! ===== the main object: counts ===== -/
def cuN (w : Rw) (st n s : Nat) : Nat := if s = 0 then wS w 0 else if s = 1 then apN w 6 else if s < 7 then wS w (s - 1) else if s = 7 then cntN w else if s < 10 then wS w (s - 2) else if s = 11 then acN w 6 else if s < 19 then wS w (s - 3) else if s = 19 then st else n
section Cou
variable {st kept n : Nat} {t : Nat → Nat} {Q : mQ} {g : mG} {w snap : Rw} {hist : Nat → Rw}
theorem c_count {x : Int32} (h : MA g w hist st kept snap t n) (hB : TB w)
    (q1 : (∀ s, s ≤ 20 → x ≠ nI s) → Q (some (.int (-2))) g)
    (q2 : x = nI 10 → wS w 7 = 0 → Q (some (.int (-5))) g)
    (q3 : x = nI 10 → wS w 7 ≠ 0 → Q (some (.int (nI (wS w 8)))) g)
    (q4 : ∀ s, s ≤ 20 → s ≠ 10 → x = nI s → Q (some (.int (nI (cuN w st n s)))) g) : w_X6_count [.ref 20, .int x] g Q := by
  refine wm_at rfl ⟨trivial, trivial, trivial⟩ (show WP m_X6_count Q 0 [.ref 20, .int x] [] g from ?_)
  obtain ⟨N, hN, ⟨a1, a2⟩, hT, hS, hJ, _, _⟩ := h.now
  obtain ⟨⟨p1, p2, p3, p4⟩, ⟨p5, p6⟩, _, _⟩ := hT.pl
  have zN1 : N + 1 ≠ 0 := by omega
  have k6 := isT.k6 hT
  have f7 := hB.1 7 (by decide)
  obtain ⟨W0, N0, S0, H0, hM0, _⟩ := id h
  have i5 := hM0.2.1.2.1
  have r6 := hM0.1.2.2.2.2.2
  have x1 := hM0.2.2.2.2.2.1.1.1
  have x2 := hM0.2.2.2.2.2.1.2.2.2.2.1
  have z22 : (22 : Nat) ≠ 0 := by decide
  simp only [e_X6_count_0, e_X6_count_1, tand, true_and, and_true, nl1_int, nl1_ref, nl1_null, nl1_ra, cat1_int, cat1_ref, cat1_null, stbs_nil, stbs_cons, stb_int, stb_long, stb_ref, stb_null, stb_ra, alv_nil, alv_cons, alv1_int, alv1_ref, alv1_null, alv1_ra, List.length_nil, List.length_cons, Nat.reduceAdd, Nat.reduceLeDiff, Nat.zero_le, Option.toList_some, Option.toList_none, List.cons_append, List.nil_append, or_true, true_or, or_false, false_or, Nat.reduceEqDiff, not_true_eq_false, not_false_eq_true, false_and, and_false, false_implies, true_implies, implies_true, ne_eq, and_self, ok1]
  rcases sw_case x 20 (by omega) with ⟨s, hs, ex⟩ | ⟨hx, hno⟩
  · have q4' := fun h9 => q4 s hs h9 ex
    have : s = 0 ∨ s = 1 ∨ s = 2 ∨ s = 3 ∨ s = 4 ∨ s = 5 ∨ s = 6 ∨ s = 7 ∨ s = 8 ∨ s = 9 ∨ s = 10 ∨ s = 11 ∨ s = 12 ∨ s = 13 ∨ s = 14 ∨ s = 15 ∨ s = 16 ∨ s = 17 ∨ s = 18 ∨ s = 19 ∨ s = 20 := by omega
    subst ex
    rcases this with e | e | e | e | e | e | e | e | e | e | e | e | e | e | e | e | e | e | e | e | e <;> subst e
    · show WP m_X6_count Q 100 _ [] g
      simp only [e_X6_count_100, e_X6_count_101, e_X6_count_104, e_X6_count_107, tand, true_and, and_true, nl1_int, nl1_ref, nl1_null, nl1_ra, cat1_int, cat1_ref, cat1_null, stbs_nil, stbs_cons, stb_int, stb_long, stb_ref, stb_null, stb_ra, alv_nil, alv_cons, alv1_int, alv1_ref, alv1_null, alv1_ra, List.length_nil, List.length_cons, Nat.reduceAdd, Nat.reduceLeDiff, Nat.zero_le, Option.toList_some, Option.toList_none, List.cons_append, List.nil_append, or_true, true_or, or_false, false_or, Nat.reduceEqDiff, not_true_eq_false, not_false_eq_true, false_and, and_false, false_implies, true_implies, implies_true, ne_eq, and_self, ok1, a1, a2, hN.z, k6, hT.2.1 0 (by decide)]
      exact q4' (by decide)
    · show WP m_X6_count Q 108 _ [] g
      simp only [e_X6_count_108, e_X6_count_109, e_X6_count_112, tand, true_and, and_true, nl1_int, nl1_ref, nl1_null, nl1_ra, cat1_int, cat1_ref, cat1_null, stbs_nil, stbs_cons, stb_int, stb_long, stb_ref, stb_null, stb_ra, alv_nil, alv_cons, alv1_int, alv1_ref, alv1_null, alv1_ra, List.length_nil, List.length_cons, Nat.reduceAdd, Nat.reduceLeDiff, Nat.zero_le, Option.toList_some, Option.toList_none, List.cons_append, List.nil_append, or_true, true_or, or_false, false_or, Nat.reduceEqDiff, not_true_eq_false, not_false_eq_true, false_and, and_false, false_implies, true_implies, implies_true, ne_eq, and_self, ok1, a1, a2, hN.z, k6]
      refine c_allPermits hT hB ?_
      simp only [e_X6_count_115, tand, true_and, and_true, nl1_int, nl1_ref, nl1_null, nl1_ra, cat1_int, cat1_ref, cat1_null, stbs_nil, stbs_cons, stb_int, stb_long, stb_ref, stb_null, stb_ra, alv_nil, alv_cons, alv1_int, alv1_ref, alv1_null, alv1_ra, List.length_nil, List.length_cons, Nat.reduceAdd, Nat.reduceLeDiff, Nat.zero_le, Option.toList_some, Option.toList_none, List.cons_append, List.nil_append, or_true, true_or, or_false, false_or, Nat.reduceEqDiff, not_true_eq_false, not_false_eq_true, false_and, and_false, false_implies, true_implies, implies_true, ne_eq, and_self, ok1]
      exact q4' (by decide)
    · show WP m_X6_count Q 116 _ [] g
      simp only [e_X6_count_116, e_X6_count_117, e_X6_count_120, e_X6_count_123, tand, true_and, and_true, nl1_int, nl1_ref, nl1_null, nl1_ra, cat1_int, cat1_ref, cat1_null, stbs_nil, stbs_cons, stb_int, stb_long, stb_ref, stb_null, stb_ra, alv_nil, alv_cons, alv1_int, alv1_ref, alv1_null, alv1_ra, List.length_nil, List.length_cons, Nat.reduceAdd, Nat.reduceLeDiff, Nat.zero_le, Option.toList_some, Option.toList_none, List.cons_append, List.nil_append, or_true, true_or, or_false, false_or, Nat.reduceEqDiff, not_true_eq_false, not_false_eq_true, false_and, and_false, false_implies, true_implies, implies_true, ne_eq, and_self, ok1, a1, a2, hN.z, k6, hT.2.1 1 (by decide)]
      exact q4' (by decide)
    · show WP m_X6_count Q 124 _ [] g
      simp only [e_X6_count_124, e_X6_count_125, e_X6_count_128, e_X6_count_131, tand, true_and, and_true, nl1_int, nl1_ref, nl1_null, nl1_ra, cat1_int, cat1_ref, cat1_null, stbs_nil, stbs_cons, stb_int, stb_long, stb_ref, stb_null, stb_ra, alv_nil, alv_cons, alv1_int, alv1_ref, alv1_null, alv1_ra, List.length_nil, List.length_cons, Nat.reduceAdd, Nat.reduceLeDiff, Nat.zero_le, Option.toList_some, Option.toList_none, List.cons_append, List.nil_append, or_true, true_or, or_false, false_or, Nat.reduceEqDiff, not_true_eq_false, not_false_eq_true, false_and, and_false, false_implies, true_implies, implies_true, ne_eq, and_self, ok1, a1, a2, hN.z, k6, hT.2.1 2 (by decide)]
      exact q4' (by decide)
    · show WP m_X6_count Q 132 _ [] g
      simp only [e_X6_count_132, e_X6_count_133, e_X6_count_136, e_X6_count_139, tand, true_and, and_true, nl1_int, nl1_ref, nl1_null, nl1_ra, cat1_int, cat1_ref, cat1_null, stbs_nil, stbs_cons, stb_int, stb_long, stb_ref, stb_null, stb_ra, alv_nil, alv_cons, alv1_int, alv1_ref, alv1_null, alv1_ra, List.length_nil, List.length_cons, Nat.reduceAdd, Nat.reduceLeDiff, Nat.zero_le, Option.toList_some, Option.toList_none, List.cons_append, List.nil_append, or_true, true_or, or_false, false_or, Nat.reduceEqDiff, not_true_eq_false, not_false_eq_true, false_and, and_false, false_implies, true_implies, implies_true, ne_eq, and_self, ok1, a1, a2, hN.z, k6, hT.2.1 3 (by decide)]
      exact q4' (by decide)
    · show WP m_X6_count Q 140 _ [] g
      simp only [e_X6_count_140, e_X6_count_141, e_X6_count_144, e_X6_count_147, tand, true_and, and_true, nl1_int, nl1_ref, nl1_null, nl1_ra, cat1_int, cat1_ref, cat1_null, stbs_nil, stbs_cons, stb_int, stb_long, stb_ref, stb_null, stb_ra, alv_nil, alv_cons, alv1_int, alv1_ref, alv1_null, alv1_ra, List.length_nil, List.length_cons, Nat.reduceAdd, Nat.reduceLeDiff, Nat.zero_le, Option.toList_some, Option.toList_none, List.cons_append, List.nil_append, or_true, true_or, or_false, false_or, Nat.reduceEqDiff, not_true_eq_false, not_false_eq_true, false_and, and_false, false_implies, true_implies, implies_true, ne_eq, and_self, ok1, a1, a2, hN.z, k6, hT.2.1 4 (by decide)]
      exact q4' (by decide)
    · show WP m_X6_count Q 148 _ [] g
      simp only [e_X6_count_148, e_X6_count_149, e_X6_count_152, e_X6_count_155, tand, true_and, and_true, nl1_int, nl1_ref, nl1_null, nl1_ra, cat1_int, cat1_ref, cat1_null, stbs_nil, stbs_cons, stb_int, stb_long, stb_ref, stb_null, stb_ra, alv_nil, alv_cons, alv1_int, alv1_ref, alv1_null, alv1_ra, List.length_nil, List.length_cons, Nat.reduceAdd, Nat.reduceLeDiff, Nat.zero_le, Option.toList_some, Option.toList_none, List.cons_append, List.nil_append, or_true, true_or, or_false, false_or, Nat.reduceEqDiff, not_true_eq_false, not_false_eq_true, false_and, and_false, false_implies, true_implies, implies_true, ne_eq, and_self, ok1, a1, a2, hN.z, k6, hT.2.1 5 (by decide)]
      exact q4' (by decide)
    · show WP m_X6_count Q 156 _ [] g
      simp only [e_X6_count_156, e_X6_count_157, e_X6_count_160, tand, true_and, and_true, nl1_int, nl1_ref, nl1_null, nl1_ra, cat1_int, cat1_ref, cat1_null, stbs_nil, stbs_cons, stb_int, stb_long, stb_ref, stb_null, stb_ra, alv_nil, alv_cons, alv1_int, alv1_ref, alv1_null, alv1_ra, List.length_nil, List.length_cons, Nat.reduceAdd, Nat.reduceLeDiff, Nat.zero_le, Option.toList_some, Option.toList_none, List.cons_append, List.nil_append, or_true, true_or, or_false, false_or, Nat.reduceEqDiff, not_true_eq_false, not_false_eq_true, false_and, and_false, false_implies, true_implies, implies_true, ne_eq, and_self, ok1, a1, a2, hN.z, k6]
      refine c_standingCount hT hB ?_
      simp only [e_X6_count_163, tand, true_and, and_true, nl1_int, nl1_ref, nl1_null, nl1_ra, cat1_int, cat1_ref, cat1_null, stbs_nil, stbs_cons, stb_int, stb_long, stb_ref, stb_null, stb_ra, alv_nil, alv_cons, alv1_int, alv1_ref, alv1_null, alv1_ra, List.length_nil, List.length_cons, Nat.reduceAdd, Nat.reduceLeDiff, Nat.zero_le, Option.toList_some, Option.toList_none, List.cons_append, List.nil_append, or_true, true_or, or_false, false_or, Nat.reduceEqDiff, not_true_eq_false, not_false_eq_true, false_and, and_false, false_implies, true_implies, implies_true, ne_eq, and_self, ok1]
      exact q4' (by decide)
    · show WP m_X6_count Q 164 _ [] g
      simp only [e_X6_count_164, e_X6_count_165, e_X6_count_168, e_X6_count_171, tand, true_and, and_true, nl1_int, nl1_ref, nl1_null, nl1_ra, cat1_int, cat1_ref, cat1_null, stbs_nil, stbs_cons, stb_int, stb_long, stb_ref, stb_null, stb_ra, alv_nil, alv_cons, alv1_int, alv1_ref, alv1_null, alv1_ra, List.length_nil, List.length_cons, Nat.reduceAdd, Nat.reduceLeDiff, Nat.zero_le, Option.toList_some, Option.toList_none, List.cons_append, List.nil_append, or_true, true_or, or_false, false_or, Nat.reduceEqDiff, not_true_eq_false, not_false_eq_true, false_and, and_false, false_implies, true_implies, implies_true, ne_eq, and_self, ok1, a1, a2, hN.z, k6, hT.2.1 6 (by decide)]
      exact q4' (by decide)
    · show WP m_X6_count Q 172 _ [] g
      simp only [e_X6_count_172, e_X6_count_173, e_X6_count_176, e_X6_count_179, tand, true_and, and_true, nl1_int, nl1_ref, nl1_null, nl1_ra, cat1_int, cat1_ref, cat1_null, stbs_nil, stbs_cons, stb_int, stb_long, stb_ref, stb_null, stb_ra, alv_nil, alv_cons, alv1_int, alv1_ref, alv1_null, alv1_ra, List.length_nil, List.length_cons, Nat.reduceAdd, Nat.reduceLeDiff, Nat.zero_le, Option.toList_some, Option.toList_none, List.cons_append, List.nil_append, or_true, true_or, or_false, false_or, Nat.reduceEqDiff, not_true_eq_false, not_false_eq_true, false_and, and_false, false_implies, true_implies, implies_true, ne_eq, and_self, ok1, a1, a2, hN.z, k6, hT.2.1 7 (by decide)]
      exact q4' (by decide)
    · show WP m_X6_count Q 180 _ [] g
      simp (disch := omega) only [e_X6_count_180, e_X6_count_181, e_X6_count_184, e_X6_count_187, tand, true_and, and_true, nl1_int, nl1_ref, nl1_null, nl1_ra, cat1_int, cat1_ref, cat1_null, stbs_nil, stbs_cons, stb_int, stb_long, stb_ref, stb_null, stb_ra, alv_nil, alv_cons, alv1_int, alv1_ref, alv1_null, alv1_ra, List.length_nil, List.length_cons, Nat.reduceAdd, Nat.reduceLeDiff, Nat.zero_le, Option.toList_some, Option.toList_none, List.cons_append, List.nil_append, or_true, true_or, or_false, false_or, Nat.reduceEqDiff, not_true_eq_false, not_false_eq_true, false_and, and_false, false_implies, true_implies, implies_true, ne_eq, and_self, ok1, a1, a2, hN.z, k6, hT.2.1 7 (by decide), nI_eq0]
      refine ⟨fun h1 => ?_, fun h1 => ?_⟩
      · simp only [e_X6_count_195, e_X6_count_196, e_X6_count_199, e_X6_count_202, tand, true_and, and_true, nl1_int, nl1_ref, nl1_null, nl1_ra, cat1_int, cat1_ref, cat1_null, stbs_nil, stbs_cons, stb_int, stb_long, stb_ref, stb_null, stb_ra, alv_nil, alv_cons, alv1_int, alv1_ref, alv1_null, alv1_ra, List.length_nil, List.length_cons, Nat.reduceAdd, Nat.reduceLeDiff, Nat.zero_le, Option.toList_some, Option.toList_none, List.cons_append, List.nil_append, or_true, true_or, or_false, false_or, Nat.reduceEqDiff, not_true_eq_false, not_false_eq_true, false_and, and_false, false_implies, true_implies, implies_true, ne_eq, and_self, ok1, a1, a2, hN.z, k6, hT.2.1 8 (by decide)]
        exact q3 rfl h1
      · simp only [e_X6_count_190, e_X6_count_192, e_X6_count_202, tand, true_and, and_true, nl1_int, nl1_ref, nl1_null, nl1_ra, cat1_int, cat1_ref, cat1_null, stbs_nil, stbs_cons, stb_int, stb_long, stb_ref, stb_null, stb_ra, alv_nil, alv_cons, alv1_int, alv1_ref, alv1_null, alv1_ra, List.length_nil, List.length_cons, Nat.reduceAdd, Nat.reduceLeDiff, Nat.zero_le, Option.toList_some, Option.toList_none, List.cons_append, List.nil_append, or_true, true_or, or_false, false_or, Nat.reduceEqDiff, not_true_eq_false, not_false_eq_true, false_and, and_false, false_implies, true_implies, implies_true, ne_eq, and_self, ok1]
        exact q2 rfl (by omega)
    · show WP m_X6_count Q 203 _ [] g
      simp only [e_X6_count_203, e_X6_count_204, e_X6_count_207, tand, true_and, and_true, nl1_int, nl1_ref, nl1_null, nl1_ra, cat1_int, cat1_ref, cat1_null, stbs_nil, stbs_cons, stb_int, stb_long, stb_ref, stb_null, stb_ra, alv_nil, alv_cons, alv1_int, alv1_ref, alv1_null, alv1_ra, List.length_nil, List.length_cons, Nat.reduceAdd, Nat.reduceLeDiff, Nat.zero_le, Option.toList_some, Option.toList_none, List.cons_append, List.nil_append, or_true, true_or, or_false, false_or, Nat.reduceEqDiff, not_true_eq_false, not_false_eq_true, false_and, and_false, false_implies, true_implies, implies_true, ne_eq, and_self, ok1, a1, a2, hN.z, k6]
      refine c_allCoins hT hB ?_
      simp only [e_X6_count_210, tand, true_and, and_true, nl1_int, nl1_ref, nl1_null, nl1_ra, cat1_int, cat1_ref, cat1_null, stbs_nil, stbs_cons, stb_int, stb_long, stb_ref, stb_null, stb_ra, alv_nil, alv_cons, alv1_int, alv1_ref, alv1_null, alv1_ra, List.length_nil, List.length_cons, Nat.reduceAdd, Nat.reduceLeDiff, Nat.zero_le, Option.toList_some, Option.toList_none, List.cons_append, List.nil_append, or_true, true_or, or_false, false_or, Nat.reduceEqDiff, not_true_eq_false, not_false_eq_true, false_and, and_false, false_implies, true_implies, implies_true, ne_eq, and_self, ok1]
      exact q4' (by decide)
    · show WP m_X6_count Q 211 _ [] g
      simp only [e_X6_count_211, e_X6_count_212, e_X6_count_215, e_X6_count_218, tand, true_and, and_true, nl1_int, nl1_ref, nl1_null, nl1_ra, cat1_int, cat1_ref, cat1_null, stbs_nil, stbs_cons, stb_int, stb_long, stb_ref, stb_null, stb_ra, alv_nil, alv_cons, alv1_int, alv1_ref, alv1_null, alv1_ra, List.length_nil, List.length_cons, Nat.reduceAdd, Nat.reduceLeDiff, Nat.zero_le, Option.toList_some, Option.toList_none, List.cons_append, List.nil_append, or_true, true_or, or_false, false_or, Nat.reduceEqDiff, not_true_eq_false, not_false_eq_true, false_and, and_false, false_implies, true_implies, implies_true, ne_eq, and_self, ok1, a1, a2, hN.z, k6, hT.2.1 9 (by decide)]
      exact q4' (by decide)
    · show WP m_X6_count Q 219 _ [] g
      simp only [e_X6_count_219, e_X6_count_220, e_X6_count_223, e_X6_count_226, tand, true_and, and_true, nl1_int, nl1_ref, nl1_null, nl1_ra, cat1_int, cat1_ref, cat1_null, stbs_nil, stbs_cons, stb_int, stb_long, stb_ref, stb_null, stb_ra, alv_nil, alv_cons, alv1_int, alv1_ref, alv1_null, alv1_ra, List.length_nil, List.length_cons, Nat.reduceAdd, Nat.reduceLeDiff, Nat.zero_le, Option.toList_some, Option.toList_none, List.cons_append, List.nil_append, or_true, true_or, or_false, false_or, Nat.reduceEqDiff, not_true_eq_false, not_false_eq_true, false_and, and_false, false_implies, true_implies, implies_true, ne_eq, and_self, ok1, a1, a2, hN.z, k6, hT.2.1 10 (by decide)]
      exact q4' (by decide)
    · show WP m_X6_count Q 227 _ [] g
      have l1 : (0 < 5) = True := propext ⟨fun _ => trivial, fun _ => by decide⟩
      simp (disch := omega) only [e_X6_count_227, e_X6_count_228, e_X6_count_231, e_X6_count_234, e_X6_count_235, e_X6_count_236, tand, true_and, and_true, nl1_int, nl1_ref, nl1_null, nl1_ra, cat1_int, cat1_ref, cat1_null, stbs_nil, stbs_cons, stb_int, stb_long, stb_ref, stb_null, stb_ra, alv_nil, alv_cons, alv1_int, alv1_ref, alv1_null, alv1_ra, List.length_nil, List.length_cons, Nat.reduceAdd, Nat.reduceLeDiff, Nat.zero_le, Option.toList_some, Option.toList_none, List.cons_append, List.nil_append, or_true, true_or, or_false, false_or, Nat.reduceEqDiff, not_true_eq_false, not_false_eq_true, false_and, and_false, false_implies, true_implies, implies_true, ne_eq, and_self, ok1, a1, a2, hN.z, k6, p2, p5, p6, zN1, isIA, nI_vp, nI_clamp, l1, hT.2.2.1 0 (by decide)]
      exact q4' (by decide)
    · show WP m_X6_count Q 237 _ [] g
      have l1 : (1 < 5) = True := propext ⟨fun _ => trivial, fun _ => by decide⟩
      simp (disch := omega) only [e_X6_count_237, e_X6_count_238, e_X6_count_241, e_X6_count_244, e_X6_count_245, e_X6_count_246, tand, true_and, and_true, nl1_int, nl1_ref, nl1_null, nl1_ra, cat1_int, cat1_ref, cat1_null, stbs_nil, stbs_cons, stb_int, stb_long, stb_ref, stb_null, stb_ra, alv_nil, alv_cons, alv1_int, alv1_ref, alv1_null, alv1_ra, List.length_nil, List.length_cons, Nat.reduceAdd, Nat.reduceLeDiff, Nat.zero_le, Option.toList_some, Option.toList_none, List.cons_append, List.nil_append, or_true, true_or, or_false, false_or, Nat.reduceEqDiff, not_true_eq_false, not_false_eq_true, false_and, and_false, false_implies, true_implies, implies_true, ne_eq, and_self, ok1, a1, a2, hN.z, k6, p2, p5, p6, zN1, isIA, nI_vp, nI_clamp, l1, hT.2.2.1 1 (by decide)]
      exact q4' (by decide)
    · show WP m_X6_count Q 247 _ [] g
      have l1 : (2 < 5) = True := propext ⟨fun _ => trivial, fun _ => by decide⟩
      simp (disch := omega) only [e_X6_count_247, e_X6_count_248, e_X6_count_251, e_X6_count_254, e_X6_count_255, e_X6_count_256, tand, true_and, and_true, nl1_int, nl1_ref, nl1_null, nl1_ra, cat1_int, cat1_ref, cat1_null, stbs_nil, stbs_cons, stb_int, stb_long, stb_ref, stb_null, stb_ra, alv_nil, alv_cons, alv1_int, alv1_ref, alv1_null, alv1_ra, List.length_nil, List.length_cons, Nat.reduceAdd, Nat.reduceLeDiff, Nat.zero_le, Option.toList_some, Option.toList_none, List.cons_append, List.nil_append, or_true, true_or, or_false, false_or, Nat.reduceEqDiff, not_true_eq_false, not_false_eq_true, false_and, and_false, false_implies, true_implies, implies_true, ne_eq, and_self, ok1, a1, a2, hN.z, k6, p2, p5, p6, zN1, isIA, nI_vp, nI_clamp, l1, hT.2.2.1 2 (by decide)]
      exact q4' (by decide)
    · show WP m_X6_count Q 257 _ [] g
      have l1 : (3 < 5) = True := propext ⟨fun _ => trivial, fun _ => by decide⟩
      simp (disch := omega) only [e_X6_count_257, e_X6_count_258, e_X6_count_261, e_X6_count_264, e_X6_count_265, e_X6_count_266, tand, true_and, and_true, nl1_int, nl1_ref, nl1_null, nl1_ra, cat1_int, cat1_ref, cat1_null, stbs_nil, stbs_cons, stb_int, stb_long, stb_ref, stb_null, stb_ra, alv_nil, alv_cons, alv1_int, alv1_ref, alv1_null, alv1_ra, List.length_nil, List.length_cons, Nat.reduceAdd, Nat.reduceLeDiff, Nat.zero_le, Option.toList_some, Option.toList_none, List.cons_append, List.nil_append, or_true, true_or, or_false, false_or, Nat.reduceEqDiff, not_true_eq_false, not_false_eq_true, false_and, and_false, false_implies, true_implies, implies_true, ne_eq, and_self, ok1, a1, a2, hN.z, k6, p2, p5, p6, zN1, isIA, nI_vp, nI_clamp, l1, hT.2.2.1 3 (by decide)]
      exact q4' (by decide)
    · show WP m_X6_count Q 267 _ [] g
      have l1 : (4 < 5) = True := propext ⟨fun _ => trivial, fun _ => by decide⟩
      simp (disch := omega) only [e_X6_count_267, e_X6_count_268, e_X6_count_271, e_X6_count_274, e_X6_count_275, e_X6_count_276, tand, true_and, and_true, nl1_int, nl1_ref, nl1_null, nl1_ra, cat1_int, cat1_ref, cat1_null, stbs_nil, stbs_cons, stb_int, stb_long, stb_ref, stb_null, stb_ra, alv_nil, alv_cons, alv1_int, alv1_ref, alv1_null, alv1_ra, List.length_nil, List.length_cons, Nat.reduceAdd, Nat.reduceLeDiff, Nat.zero_le, Option.toList_some, Option.toList_none, List.cons_append, List.nil_append, or_true, true_or, or_false, false_or, Nat.reduceEqDiff, not_true_eq_false, not_false_eq_true, false_and, and_false, false_implies, true_implies, implies_true, ne_eq, and_self, ok1, a1, a2, hN.z, k6, p2, p5, p6, zN1, isIA, nI_vp, nI_clamp, l1, hT.2.2.1 4 (by decide)]
      exact q4' (by decide)
    · show WP m_X6_count Q 277 _ [] g
      simp only [e_X6_count_277, e_X6_count_278, e_X6_count_281, tand, true_and, and_true, nl1_int, nl1_ref, nl1_null, nl1_ra, cat1_int, cat1_ref, cat1_null, stbs_nil, stbs_cons, stb_int, stb_long, stb_ref, stb_null, stb_ra, alv_nil, alv_cons, alv1_int, alv1_ref, alv1_null, alv1_ra, List.length_nil, List.length_cons, Nat.reduceAdd, Nat.reduceLeDiff, Nat.zero_le, Option.toList_some, Option.toList_none, List.cons_append, List.nil_append, or_true, true_or, or_false, false_or, Nat.reduceEqDiff, not_true_eq_false, not_false_eq_true, false_and, and_false, false_implies, true_implies, implies_true, ne_eq, and_self, ok1, a1, i5]
      exact q4' (by decide)
    · show WP m_X6_count Q 282 _ [] g
      simp only [e_X6_count_282, e_X6_count_283, e_X6_count_286, e_X6_count_289, tand, true_and, and_true, nl1_int, nl1_ref, nl1_null, nl1_ra, cat1_int, cat1_ref, cat1_null, stbs_nil, stbs_cons, stb_int, stb_long, stb_ref, stb_null, stb_ra, alv_nil, alv_cons, alv1_int, alv1_ref, alv1_null, alv1_ra, List.length_nil, List.length_cons, Nat.reduceAdd, Nat.reduceLeDiff, Nat.zero_le, Option.toList_some, Option.toList_none, List.cons_append, List.nil_append, or_true, true_or, or_false, false_or, Nat.reduceEqDiff, not_true_eq_false, not_false_eq_true, false_and, and_false, false_implies, true_implies, implies_true, ne_eq, and_self, ok1, a1, r6, z22, x1, x2]
      exact q4' (by decide)
  · rw [if_pos (show x.toInt < 0 ∨ (20 : Int) < x.toInt from hx)]
    simp only [e_X6_count_290, e_X6_count_292, tand, true_and, and_true, nl1_int, nl1_ref, nl1_null, nl1_ra, cat1_int, cat1_ref, cat1_null, stbs_nil, stbs_cons, stb_int, stb_long, stb_ref, stb_null, stb_ra, alv_nil, alv_cons, alv1_int, alv1_ref, alv1_null, alv1_ra, List.length_nil, List.length_cons, Nat.reduceAdd, Nat.reduceLeDiff, Nat.zero_le, Option.toList_some, Option.toList_none, List.cons_append, List.nil_append, or_true, true_or, or_false, false_or, Nat.reduceEqDiff, not_true_eq_false, not_false_eq_true, false_and, and_false, false_implies, true_implies, implies_true, ne_eq, and_self, ok1]
    exact q1 hno
def dpN (w : Rw) (b p : Nat) (m : Nat) : Nat := sm (fun i => if wF w i 1 ≠ b ∧ meF w i p = true then wF w i 3 else 0) m
theorem depth_loop {N b p : Nat} (hb : b ≤ 1) (hp : p < 2 ^ 28) (a1 : gK g 20 = 7) (hT : TRw g N w) (hB : TB w) (q : Q (some (.int (nI (dpN w b p 17)))) g) : ∀ (k i : Nat) {l7 : Value}, stb g l7 = True → i + k = 17 → WP m_X6_depth Q 33 [.ref 20, .int (nI b), .int (nI p), .int (nI (dpN w b p i)), .ref (N + 3), .int (nI 17), .int (nI i), l7] [] g := by
  obtain ⟨_, _, _, ⟨d1, d2⟩⟩ := hT.pl
  intro k
  induction k with
  | zero =>
    intro i l7 hl hi
    have hi2 : i = 17 := by omega
    subst hi2
    simp (disch := omega) only [e_X6_depth_33, e_X6_depth_35, e_X6_depth_37, e_X6_depth_79, e_X6_depth_80, tand, true_and, and_true, nl1_int, nl1_ref, nl1_null, nl1_ra, cat1_int, cat1_ref, cat1_null, stbs_nil, stbs_cons, stb_int, stb_long, stb_ref, stb_null, stb_ra, alv_nil, alv_cons, alv1_int, alv1_ref, alv1_null, alv1_ra, List.length_nil, List.length_cons, Nat.reduceAdd, Nat.reduceLeDiff, Nat.zero_le, Option.toList_some, Option.toList_none, List.cons_append, List.nil_append, or_true, true_or, or_false, false_or, Nat.reduceEqDiff, not_true_eq_false, not_false_eq_true, false_and, and_false, false_implies, true_implies, implies_true, ne_eq, and_self, ok1, nI_leE]
    exact q
  | succ k ih =>
    intro i l7 hl hi
    have hlt : i < 17 := by omega
    have hlt2 : ¬ 17 ≤ i := by omega
    have z2 : N + 22 + 3 * i ≠ 0 := by omega
    obtain ⟨⟨o1, o2⟩, ⟨o3, o4⟩, o5⟩ := hT.o hlt
    have b1 := hT.b1 hlt
    have e : dpN w b p (i + 1) = dpN w b p i + if wF w i 1 ≠ b ∧ meF w i p = true then wF w i 3 else 0 := rfl
    have ih1 := ih (i + 1) (l7 := .ref (N + 22 + 3 * i)) (stb_k o1 (by decide) (by decide)) (by omega)
    rw [e] at ih1
    simp (disch := omega) only [e_X6_depth_33, e_X6_depth_35, e_X6_depth_37, e_X6_depth_40, e_X6_depth_40n, e_X6_depth_42, e_X6_depth_44, e_X6_depth_45, e_X6_depth_45n, e_X6_depth_47, e_X6_depth_47n, e_X6_depth_49, e_X6_depth_52, e_X6_depth_53, tand, true_and, and_true, nl1_int, nl1_ref, nl1_null, nl1_ra, cat1_int, cat1_ref, cat1_null, stbs_nil, stbs_cons, stb_int, stb_long, stb_ref, stb_null, stb_ra, alv_nil, alv_cons, alv1_int, alv1_ref, alv1_null, alv1_ra, List.length_nil, List.length_cons, Nat.reduceAdd, Nat.reduceLeDiff, Nat.zero_le, Option.toList_some, Option.toList_none, List.cons_append, List.nil_append, or_true, true_or, or_false, false_or, Nat.reduceEqDiff, not_true_eq_false, not_false_eq_true, false_and, and_false, false_implies, true_implies, implies_true, ne_eq, and_self, ok1, d1, d2, nI_leE, hlt2, nI_vp, hlt, nI_clamp, hT.ro hlt, z2, o1, o5 1 (by decide), nI_eqE]
    refine ⟨fun h0 => ?_, fun h0 => ?_⟩
    · rw [if_neg (fun z => z.1 h0)] at ih1
      simp only [e_X6_depth_73, e_X6_depth_76, tand, true_and, and_true, nl1_int, nl1_ref, nl1_null, nl1_ra, cat1_int, cat1_ref, cat1_null, stbs_nil, stbs_cons, stb_int, stb_long, stb_ref, stb_null, stb_ra, alv_nil, alv_cons, alv1_int, alv1_ref, alv1_null, alv1_ra, List.length_nil, List.length_cons, Nat.reduceAdd, Nat.reduceLeDiff, Nat.zero_le, Option.toList_some, Option.toList_none, List.cons_append, List.nil_append, or_true, true_or, or_false, false_or, Nat.reduceEqDiff, not_true_eq_false, not_false_eq_true, false_and, and_false, false_implies, true_implies, implies_true, ne_eq, and_self, ok1, nI_add]
      exact ih1
    · simp (disch := omega) only [e_X6_depth_56, e_X6_depth_56n, e_X6_depth_58, e_X6_depth_59, tand, true_and, and_true, nl1_int, nl1_ref, nl1_null, nl1_ra, cat1_int, cat1_ref, cat1_null, stbs_nil, stbs_cons, stb_int, stb_long, stb_ref, stb_null, stb_ra, alv_nil, alv_cons, alv1_int, alv1_ref, alv1_null, alv1_ra, List.length_nil, List.length_cons, Nat.reduceAdd, Nat.reduceLeDiff, Nat.zero_le, Option.toList_some, Option.toList_none, List.cons_append, List.nil_append, or_true, true_or, or_false, false_or, Nat.reduceEqDiff, not_true_eq_false, not_false_eq_true, false_and, and_false, false_implies, true_implies, implies_true, ne_eq, and_self, ok1, a1, o1, d1]
      refine c_isMetAt hT hlt hB (by omega) ?_
      by_cases hm : meF w i p = true
      · rw [if_pos ⟨h0, hm⟩] at ih1
        rw [hm]
        simp (disch := omega) only [e_X6_depth_62, e_X6_depth_65, e_X6_depth_66, e_X6_depth_66n, e_X6_depth_68, e_X6_depth_71, e_X6_depth_72, e_X6_depth_73, e_X6_depth_76, tand, true_and, and_true, nl1_int, nl1_ref, nl1_null, nl1_ra, cat1_int, cat1_ref, cat1_null, stbs_nil, stbs_cons, stb_int, stb_long, stb_ref, stb_null, stb_ra, alv_nil, alv_cons, alv1_int, alv1_ref, alv1_null, alv1_ra, List.length_nil, List.length_cons, Nat.reduceAdd, Nat.reduceLeDiff, Nat.zero_le, Option.toList_some, Option.toList_none, List.cons_append, List.nil_append, or_true, true_or, or_false, false_or, Nat.reduceEqDiff, not_true_eq_false, not_false_eq_true, false_and, and_false, false_implies, true_implies, implies_true, ne_eq, and_self, ok1, nB1, o1, o5 3 (by decide), nI_add]
        exact ih1
      · rw [if_neg (fun z => hm z.2)] at ih1
        rw [show meF w i p = false by simpa using hm]
        simp (disch := omega) only [e_X6_depth_62, e_X6_depth_73, e_X6_depth_76, tand, true_and, and_true, nl1_int, nl1_ref, nl1_null, nl1_ra, cat1_int, cat1_ref, cat1_null, stbs_nil, stbs_cons, stb_int, stb_long, stb_ref, stb_null, stb_ra, alv_nil, alv_cons, alv1_int, alv1_ref, alv1_null, alv1_ra, List.length_nil, List.length_cons, Nat.reduceAdd, Nat.reduceLeDiff, Nat.zero_le, Option.toList_some, Option.toList_none, List.cons_append, List.nil_append, or_true, true_or, or_false, false_or, Nat.reduceEqDiff, not_true_eq_false, not_false_eq_true, false_and, and_false, false_implies, true_implies, implies_true, ne_eq, and_self, ok1, nB0, nI_add]
        exact ih1
theorem c_depth {b : Nat} {x : Int32} (hb : b ≤ 1) (h : MA g w hist st kept snap t n) (hB : TB w)
    (q1 : ¬ (∃ p, x = nI p ∧ 1 ≤ p ∧ p ≤ 500) → Q (some (.int (-2))) g)
    (q2 : ∀ p, x = nI p → 1 ≤ p → p ≤ 500 → Q (some (.int (nI (dpN w b p 17)))) g) : w_X6_depth [.ref 20, .int (nI b), .int x] g Q := by
  refine wm_at rfl ⟨trivial, trivial, trivial, trivial⟩ (show WP m_X6_depth Q 0 [.ref 20, .int (nI b), .int x, .retAddr 0, .retAddr 0, .retAddr 0, .retAddr 0, .retAddr 0] [] g from ?_)
  obtain ⟨N, hN, ⟨a1, a2⟩, hT, hS, hJ, _, _⟩ := h.now
  obtain ⟨⟨p1, p2, p3, p4⟩, _, _, ⟨d1, d2⟩⟩ := hT.pl
  have k6 := isT.k6 hT
  have z3 : N + 3 ≠ 0 := by omega
  simp only [e_X6_depth_0, e_X6_depth_1, e_X6_depth_2, e_X6_depth_5, tand, true_and, and_true, nl1_int, nl1_ref, nl1_null, nl1_ra, cat1_int, cat1_ref, cat1_null, stbs_nil, stbs_cons, stb_int, stb_long, stb_ref, stb_null, stb_ra, alv_nil, alv_cons, alv1_int, alv1_ref, alv1_null, alv1_ra, List.length_nil, List.length_cons, Nat.reduceAdd, Nat.reduceLeDiff, Nat.zero_le, Option.toList_some, Option.toList_none, List.cons_append, List.nil_append, or_true, true_or, or_false, false_or, Nat.reduceEqDiff, not_true_eq_false, not_false_eq_true, false_and, and_false, false_implies, true_implies, implies_true, ne_eq, and_self, ok1, a1]
  refine c_isWithin (fun h1 h2 => ?_) (fun hn => ?_)
  · obtain ⟨p, ep, y1, y2⟩ := nI_ex (by omega) h1 h2 (by omega)
    subst ep
    simp only [e_X6_depth_8, e_X6_depth_14, e_X6_depth_15, e_X6_depth_16, e_X6_depth_17, e_X6_depth_20, e_X6_depth_23, e_X6_depth_23n, e_X6_depth_25, e_X6_depth_25n, e_X6_depth_27, e_X6_depth_28, e_X6_depth_30, e_X6_depth_31, tand, true_and, and_true, nl1_int, nl1_ref, nl1_null, nl1_ra, cat1_int, cat1_ref, cat1_null, stbs_nil, stbs_cons, stb_int, stb_long, stb_ref, stb_null, stb_ra, alv_nil, alv_cons, alv1_int, alv1_ref, alv1_null, alv1_ra, List.length_nil, List.length_cons, Nat.reduceAdd, Nat.reduceLeDiff, Nat.zero_le, Option.toList_some, Option.toList_none, List.cons_append, List.nil_append, or_true, true_or, or_false, false_or, Nat.reduceEqDiff, not_true_eq_false, not_false_eq_true, false_and, and_false, false_implies, true_implies, implies_true, ne_eq, and_self, ok1, n1z, a1, a2, hN.z, k6, p4, d1, d2, z3]
    exact depth_loop hb (by omega) a1 hT hB (q2 p rfl y1 y2) 17 0 rfl rfl
  · simp only [e_X6_depth_8, e_X6_depth_11, e_X6_depth_13, tand, true_and, and_true, nl1_int, nl1_ref, nl1_null, nl1_ra, cat1_int, cat1_ref, cat1_null, stbs_nil, stbs_cons, stb_int, stb_long, stb_ref, stb_null, stb_ra, alv_nil, alv_cons, alv1_int, alv1_ref, alv1_null, alv1_ra, List.length_nil, List.length_cons, Nat.reduceAdd, Nat.reduceLeDiff, Nat.zero_le, Option.toList_some, Option.toList_none, List.cons_append, List.nil_append, or_true, true_or, or_false, false_or, Nat.reduceEqDiff, not_true_eq_false, not_false_eq_true, false_and, and_false, false_implies, true_implies, implies_true, ne_eq, and_self, ok1, n0z]
    exact q1 fun z => hn ((nI_range (by omega) (by omega)).mp z)
end Cou
