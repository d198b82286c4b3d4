/-! ===== the main object: history, texts ===== -/
section Act3
variable {st kept n : Nat} {t : Nat → Nat} {Q : mQ} {g : mG} {w snap : Rw} {hist : Nat → Rw}
theorem c_takeBack {v : Int32} (h : MA g w hist st kept snap t n) (hB : TB w)
    (q1 : (∀ i, i < 17 → 0 < wF w i 3 → v ≠ nI (wF w i 0)) → Q (some (.int (-1))) g)
    (q2 : ∀ i g', i < 17 → 0 < wF w i 3 → v = nI (wF w i 0) → MA g' (opGive w i) (hcn w hist) (min (st + 1) 4) kept snap t n → MF g g' → Q (some (.int (nI (wF w i 3)))) g') : w_X6_takeBack [.ref 20, .int v] g Q := by
  refine wm_at rfl ⟨trivial, trivial, trivial⟩ (show WP m_X6_takeBack Q 0 [.ref 20, .int v, .retAddr 0, .retAddr 0] [] g from ?_)
  obtain ⟨N, hN, ⟨a1, a2⟩, hT, hS, hJ, _, _⟩ := h.now
  have k6 := isT.k6 hT
  simp only [e_X6_takeBack_0, e_X6_takeBack_1, e_X6_takeBack_4, e_X6_takeBack_5, tand, true_and, and_true, nl1_int, nl1_ref, nl1_null, nl1_ra, cat1_int, cat1_ref, cat1_null, stbs_nil, stbs_cons, stb_int, stb_long, stb_ref, stb_null, stb_ra, alv_nil, alv_cons, alv1_int, alv1_ref, alv1_null, alv1_ra, List.length_nil, List.length_cons, Nat.reduceAdd, Nat.reduceLeDiff, Nat.zero_le, Option.toList_some, Option.toList_none, List.cons_append, List.nil_append, or_true, true_or, or_false, false_or, Nat.reduceEqDiff, not_true_eq_false, not_false_eq_true, false_and, and_false, false_implies, true_implies, implies_true, ne_eq, and_self, ok1, a1, a2, hN.z, k6]
  refine c_standingWith hT hB (fun i hi h0 ev => ?_) (fun hno => ?_)
  · have oo := (hT.o hi).1.1
    simp only [e_X6_takeBack_8, e_X6_takeBack_8n, e_X6_takeBack_9, e_X6_takeBack_9n, e_X6_takeBack_10, e_X6_takeBack_10n, e_X6_takeBack_13, e_X6_takeBack_14, e_X6_takeBack_15, e_X6_takeBack_16, tand, true_and, and_true, nl1_int, nl1_ref, nl1_null, nl1_ra, cat1_int, cat1_ref, cat1_null, stbs_nil, stbs_cons, stb_int, stb_long, stb_ref, stb_null, stb_ra, alv_nil, alv_cons, alv1_int, alv1_ref, alv1_null, alv1_ra, List.length_nil, List.length_cons, Nat.reduceAdd, Nat.reduceLeDiff, Nat.zero_le, Option.toList_some, Option.toList_none, List.cons_append, List.nil_append, or_true, true_or, or_false, false_or, Nat.reduceEqDiff, not_true_eq_false, not_false_eq_true, false_and, and_false, false_implies, true_implies, implies_true, ne_eq, and_self, ok1, a1, oo]
    refine c_record h fun g1 h1' f1 e1 => ?_
    obtain ⟨N', hN', ⟨b1, b2⟩, hT', hS', hJ', _, up⟩ := h1'.now
    have eN : N' = N := b2.symm.trans (e1.trans a2)
    subst eN
    have k6' := isT.k6 hT'
    obtain ⟨⟨o1, _⟩, _, o5⟩ := hT'.o hi
    simp only [e_X6_takeBack_19, e_X6_takeBack_19n, e_X6_takeBack_20, e_X6_takeBack_23, e_X6_takeBack_24, e_X6_takeBack_25, e_X6_takeBack_28, e_X6_takeBack_28n, e_X6_takeBack_29, tand, true_and, and_true, nl1_int, nl1_ref, nl1_null, nl1_ra, cat1_int, cat1_ref, cat1_null, stbs_nil, stbs_cons, stb_int, stb_long, stb_ref, stb_null, stb_ra, alv_nil, alv_cons, alv1_int, alv1_ref, alv1_null, alv1_ra, List.length_nil, List.length_cons, Nat.reduceAdd, Nat.reduceLeDiff, Nat.zero_le, Option.toList_some, Option.toList_none, List.cons_append, List.nil_append, or_true, true_or, or_false, false_or, Nat.reduceEqDiff, not_true_eq_false, not_false_eq_true, false_and, and_false, false_implies, true_implies, implies_true, ne_eq, and_self, ok1, b1, b2, hN.z, k6', o1, o5 3 (by decide)]
    refine c_giveBack hN hT' hB hi hS' hJ' fun g2 C2 => ?_
    obtain ⟨r1, r2, r3⟩ := up g2 _ C2
    simp only [e_X6_takeBack_32, e_X6_takeBack_33, tand, true_and, and_true, nl1_int, nl1_ref, nl1_null, nl1_ra, cat1_int, cat1_ref, cat1_null, stbs_nil, stbs_cons, stb_int, stb_long, stb_ref, stb_null, stb_ra, alv_nil, alv_cons, alv1_int, alv1_ref, alv1_null, alv1_ra, List.length_nil, List.length_cons, Nat.reduceAdd, Nat.reduceLeDiff, Nat.zero_le, Option.toList_some, Option.toList_none, List.cons_append, List.nil_append, or_true, true_or, or_false, false_or, Nat.reduceEqDiff, not_true_eq_false, not_false_eq_true, false_and, and_false, false_implies, true_implies, implies_true, ne_eq, and_self, ok1]
    exact q2 i g2 hi h0 ev r1 (f1.tr r2)
  · simp only [e_X6_takeBack_8, e_X6_takeBack_8n, e_X6_takeBack_9, e_X6_takeBack_9n, e_X6_takeBack_10, e_X6_takeBack_10n, e_X6_takeBack_13, e_X6_takeBack_14, tand, true_and, and_true, nl1_int, nl1_ref, nl1_null, nl1_ra, cat1_int, cat1_ref, cat1_null, stbs_nil, stbs_cons, stb_int, stb_long, stb_ref, stb_null, stb_ra, alv_nil, alv_cons, alv1_int, alv1_ref, alv1_null, alv1_ra, List.length_nil, List.length_cons, Nat.reduceAdd, Nat.reduceLeDiff, Nat.zero_le, Option.toList_some, Option.toList_none, List.cons_append, List.nil_append, or_true, true_or, or_false, false_or, Nat.reduceEqDiff, not_true_eq_false, not_false_eq_true, false_and, and_false, false_implies, true_implies, implies_true, ne_eq, and_self, ok1]
    exact q1 hno
end Act3
