/-! ===== the main object: acts, 2 ===== -/
section Act2
variable {st kept n : Nat} {t : Nat → Nat} {Q : mQ} {g : mG} {w snap : Rw} {hist : Nat → Rw}
theorem c_buyReserve {v x : Int32} (h : MA g w hist st kept snap t n) (hB : TB w) (hy : wS w 0 < 1000) (hc : wS w 12 ≤ 500)
    (q1 : (∀ k, k < 6 → v ≠ nI k) → Q (some (.int (-1))) g)
    (q2 : ∀ k, k < 6 → v = nI k → ¬ (∃ m, x = nI m ∧ 1 ≤ m ∧ m ≤ 999) → Q (some (.int (-2))) g)
    (q3 : ∀ k m, k < 6 → v = nI k → x = nI m → 1 ≤ m → m ≤ 999 → (wS w 4 < m ∨ wK w k 0 < m * wS w 12) → Q (some (.int (-3))) g)
    (q4 : ∀ k m g', k < 6 → v = nI k → x = nI m → 1 ≤ m → m ≤ 999 → m ≤ wS w 4 → m * wS w 12 ≤ wK w k 0 → MA g' (opSell w k m) (hcn w hist) (min (st + 1) 4) kept snap t n → MF g g' → Q (some (.int (nI (wS w 4 - m)))) g') : w_X6_buyReserve [.ref 20, .int v, .int x] g Q := by
  refine wm_at rfl ⟨trivial, trivial, trivial, trivial⟩ (show WP m_X6_buyReserve Q 0 [.ref 20, .int v, .int x, .retAddr 0] [] g from ?_)
  obtain ⟨N, hN, ⟨a1, a2⟩, hT, hS, hJ, _, _⟩ := h.now
  have k6 := isT.k6 hT
  simp only [e_X6_buyReserve_0, e_X6_buyReserve_1, e_X6_buyReserve_4, e_X6_buyReserve_5, tand, true_and, and_true, nl1_int, nl1_ref, nl1_null, nl1_ra, cat1_int, cat1_ref, cat1_null, stbs_nil, stbs_cons, stb_int, stb_long, stb_ref, stb_null, stb_ra, alv_nil, alv_cons, alv1_int, alv1_ref, alv1_null, alv1_ra, List.length_nil, List.length_cons, Nat.reduceAdd, Nat.reduceLeDiff, Nat.zero_le, Option.toList_some, Option.toList_none, List.cons_append, List.nil_append, or_true, true_or, or_false, false_or, Nat.reduceEqDiff, not_true_eq_false, not_false_eq_true, false_and, and_false, false_implies, true_implies, implies_true, ne_eq, and_self, ok1, a1, a2, hN.z, k6]
  refine c_kilnAt hT (fun k hk ev => ?_) (fun hno => ?_)
  · obtain ⟨⟨kk, _⟩, _, o⟩ := hT.k hk
    have f0 := (hB.2.1 k hk).1 0 (by decide)
    have fr := hB.1 4 (by decide)
    simp only [e_X6_buyReserve_8, e_X6_buyReserve_8n, e_X6_buyReserve_9, e_X6_buyReserve_9n, e_X6_buyReserve_10, e_X6_buyReserve_10n, e_X6_buyReserve_13, e_X6_buyReserve_14, e_X6_buyReserve_15, e_X6_buyReserve_16, e_X6_buyReserve_17, e_X6_buyReserve_20, tand, true_and, and_true, nl1_int, nl1_ref, nl1_null, nl1_ra, cat1_int, cat1_ref, cat1_null, stbs_nil, stbs_cons, stb_int, stb_long, stb_ref, stb_null, stb_ra, alv_nil, alv_cons, alv1_int, alv1_ref, alv1_null, alv1_ra, List.length_nil, List.length_cons, Nat.reduceAdd, Nat.reduceLeDiff, Nat.zero_le, Option.toList_some, Option.toList_none, List.cons_append, List.nil_append, or_true, true_or, or_false, false_or, Nat.reduceEqDiff, not_true_eq_false, not_false_eq_true, false_and, and_false, false_implies, true_implies, implies_true, ne_eq, and_self, ok1, a1, kk]
    refine c_isWithin (fun h1 h2 => ?_) (fun hn => ?_)
    · obtain ⟨m, em, m1, m2⟩ := nI_ex (by omega) h1 h2 (by omega)
      subst em
      obtain ⟨⟨p1, p2, p3, p4⟩, ⟨p5, p6⟩, _, _⟩ := hT.pl
      have s1 : gI g (N + 1) 1 = nI (wS w 12) := hT.2.2.1 1 (by decide)
      have zN1 : N + 1 ≠ 0 := by omega
      have l1 : (1 < 5) = True := propext ⟨fun _ => trivial, fun _ => by decide⟩
      have hm : m * wS w 12 ≤ 999 * 500 := Nat.mul_le_mul m2 hc
      simp (disch := omega) only [e_X6_buyReserve_23, e_X6_buyReserve_29, e_X6_buyReserve_30, e_X6_buyReserve_33, e_X6_buyReserve_36, e_X6_buyReserve_37, tand, true_and, and_true, nl1_int, nl1_ref, nl1_null, nl1_ra, cat1_int, cat1_ref, cat1_null, stbs_nil, stbs_cons, stb_int, stb_long, stb_ref, stb_null, stb_ra, alv_nil, alv_cons, alv1_int, alv1_ref, alv1_null, alv1_ra, List.length_nil, List.length_cons, Nat.reduceAdd, Nat.reduceLeDiff, Nat.zero_le, Option.toList_some, Option.toList_none, List.cons_append, List.nil_append, or_true, true_or, or_false, false_or, Nat.reduceEqDiff, not_true_eq_false, not_false_eq_true, false_and, and_false, false_implies, true_implies, implies_true, ne_eq, and_self, ok1, n1z, a1, a2, hN.z, k6, hT.2.1 4 (by decide), nI_ltE]
      refine ⟨fun h3 => ?_, fun h3 => ?_⟩
      · simp only [e_X6_buyReserve_58, e_X6_buyReserve_60, tand, true_and, and_true, nl1_int, nl1_ref, nl1_null, nl1_ra, cat1_int, cat1_ref, cat1_null, stbs_nil, stbs_cons, stb_int, stb_long, stb_ref, stb_null, stb_ra, alv_nil, alv_cons, alv1_int, alv1_ref, alv1_null, alv1_ra, List.length_nil, List.length_cons, Nat.reduceAdd, Nat.reduceLeDiff, Nat.zero_le, Option.toList_some, Option.toList_none, List.cons_append, List.nil_append, or_true, true_or, or_false, false_or, Nat.reduceEqDiff, not_true_eq_false, not_false_eq_true, false_and, and_false, false_implies, true_implies, implies_true, ne_eq, and_self, ok1]
        exact q3 k m hk ev rfl m1 m2 (Or.inl h3)
      · simp (disch := omega) only [e_X6_buyReserve_40, e_X6_buyReserve_40n, e_X6_buyReserve_41, e_X6_buyReserve_44, e_X6_buyReserve_45, e_X6_buyReserve_46, e_X6_buyReserve_49, e_X6_buyReserve_52, e_X6_buyReserve_53, e_X6_buyReserve_54, e_X6_buyReserve_55, tand, true_and, and_true, nl1_int, nl1_ref, nl1_null, nl1_ra, cat1_int, cat1_ref, cat1_null, stbs_nil, stbs_cons, stb_int, stb_long, stb_ref, stb_null, stb_ra, alv_nil, alv_cons, alv1_int, alv1_ref, alv1_null, alv1_ra, List.length_nil, List.length_cons, Nat.reduceAdd, Nat.reduceLeDiff, Nat.zero_le, Option.toList_some, Option.toList_none, List.cons_append, List.nil_append, or_true, true_or, or_false, false_or, Nat.reduceEqDiff, not_true_eq_false, not_false_eq_true, false_and, and_false, false_implies, true_implies, implies_true, ne_eq, and_self, ok1, a1, a2, hN.z, k6, kk, o 0 (by decide), p2, p5, p6, isIA, nI_vp, nI_clamp, l1, s1, zN1, pk_mul, nI_leE]
        refine ⟨fun h4 => ?_, fun h4 => ?_⟩
        · simp only [e_X6_buyReserve_61, e_X6_buyReserve_62, tand, true_and, and_true, nl1_int, nl1_ref, nl1_null, nl1_ra, cat1_int, cat1_ref, cat1_null, stbs_nil, stbs_cons, stb_int, stb_long, stb_ref, stb_null, stb_ra, alv_nil, alv_cons, alv1_int, alv1_ref, alv1_null, alv1_ra, List.length_nil, List.length_cons, Nat.reduceAdd, Nat.reduceLeDiff, Nat.zero_le, Option.toList_some, Option.toList_none, List.cons_append, List.nil_append, or_true, true_or, or_false, false_or, Nat.reduceEqDiff, not_true_eq_false, not_false_eq_true, false_and, and_false, false_implies, true_implies, implies_true, ne_eq, and_self, ok1, a1, kk]
          refine c_record h fun g1 h1' f1 e1 => ?_
          obtain ⟨N', hN', ⟨b1, b2⟩, hT', hS', hJ', _, up⟩ := h1'.now
          have eN : N' = N := b2.symm.trans (e1.trans a2)
          subst eN
          have k6' := isT.k6 hT'
          have kk' := (hT'.k hk).1.1
          simp only [e_X6_buyReserve_65, e_X6_buyReserve_66, e_X6_buyReserve_69, e_X6_buyReserve_69n, e_X6_buyReserve_70, e_X6_buyReserve_71, tand, true_and, and_true, nl1_int, nl1_ref, nl1_null, nl1_ra, cat1_int, cat1_ref, cat1_null, stbs_nil, stbs_cons, stb_int, stb_long, stb_ref, stb_null, stb_ra, alv_nil, alv_cons, alv1_int, alv1_ref, alv1_null, alv1_ra, List.length_nil, List.length_cons, Nat.reduceAdd, Nat.reduceLeDiff, Nat.zero_le, Option.toList_some, Option.toList_none, List.cons_append, List.nil_append, or_true, true_or, or_false, false_or, Nat.reduceEqDiff, not_true_eq_false, not_false_eq_true, false_and, and_false, false_implies, true_implies, implies_true, ne_eq, and_self, ok1, b1, b2, hN.z, k6', kk']
          refine c_sellReserve hN hT' hy hk (by omega) h4 (by omega) hS' hJ' fun g2 C2 => ?_
          obtain ⟨r1, r2, r3⟩ := up g2 _ C2
          have c1 := (r2.1 20).trans b1
          have c2 := isT.k6 C2.2.2
          have c3 : gI g2 N' 4 = nI (wS w 4 - m) := C2.2.2.2.1 4 (by decide)
          simp only [e_X6_buyReserve_74, e_X6_buyReserve_75, e_X6_buyReserve_78, e_X6_buyReserve_81, tand, true_and, and_true, nl1_int, nl1_ref, nl1_null, nl1_ra, cat1_int, cat1_ref, cat1_null, stbs_nil, stbs_cons, stb_int, stb_long, stb_ref, stb_null, stb_ra, alv_nil, alv_cons, alv1_int, alv1_ref, alv1_null, alv1_ra, List.length_nil, List.length_cons, Nat.reduceAdd, Nat.reduceLeDiff, Nat.zero_le, Option.toList_some, Option.toList_none, List.cons_append, List.nil_append, or_true, true_or, or_false, false_or, Nat.reduceEqDiff, not_true_eq_false, not_false_eq_true, false_and, and_false, false_implies, true_implies, implies_true, ne_eq, and_self, ok1, c1, c2, r3, hN.z, c3]
          exact q4 k m g2 hk ev rfl m1 m2 (by omega) h4 r1 (f1.tr r2)
        · simp only [e_X6_buyReserve_58, e_X6_buyReserve_60, tand, true_and, and_true, nl1_int, nl1_ref, nl1_null, nl1_ra, cat1_int, cat1_ref, cat1_null, stbs_nil, stbs_cons, stb_int, stb_long, stb_ref, stb_null, stb_ra, alv_nil, alv_cons, alv1_int, alv1_ref, alv1_null, alv1_ra, List.length_nil, List.length_cons, Nat.reduceAdd, Nat.reduceLeDiff, Nat.zero_le, Option.toList_some, Option.toList_none, List.cons_append, List.nil_append, or_true, true_or, or_false, false_or, Nat.reduceEqDiff, not_true_eq_false, not_false_eq_true, false_and, and_false, false_implies, true_implies, implies_true, ne_eq, and_self, ok1]
          exact q3 k m hk ev rfl m1 m2 (Or.inr (by omega))
    · simp only [e_X6_buyReserve_23, e_X6_buyReserve_26, e_X6_buyReserve_28, tand, true_and, and_true, nl1_int, nl1_ref, nl1_null, nl1_ra, cat1_int, cat1_ref, cat1_null, stbs_nil, stbs_cons, stb_int, stb_long, stb_ref, stb_null, stb_ra, alv_nil, alv_cons, alv1_int, alv1_ref, alv1_null, alv1_ra, List.length_nil, List.length_cons, Nat.reduceAdd, Nat.reduceLeDiff, Nat.zero_le, Option.toList_some, Option.toList_none, List.cons_append, List.nil_append, or_true, true_or, or_false, false_or, Nat.reduceEqDiff, not_true_eq_false, not_false_eq_true, false_and, and_false, false_implies, true_implies, implies_true, ne_eq, and_self, ok1, n0z]
      exact q2 k hk ev fun z => hn ((nI_range (by omega) (by omega)).mp z)
  · simp only [e_X6_buyReserve_8, e_X6_buyReserve_8n, e_X6_buyReserve_9, e_X6_buyReserve_9n, e_X6_buyReserve_10, e_X6_buyReserve_10n, e_X6_buyReserve_13, e_X6_buyReserve_14, tand, true_and, and_true, nl1_int, nl1_ref, nl1_null, nl1_ra, cat1_int, cat1_ref, cat1_null, stbs_nil, stbs_cons, stb_int, stb_long, stb_ref, stb_null, stb_ra, alv_nil, alv_cons, alv1_int, alv1_ref, alv1_null, alv1_ra, List.length_nil, List.length_cons, Nat.reduceAdd, Nat.reduceLeDiff, Nat.zero_le, Option.toList_some, Option.toList_none, List.cons_append, List.nil_append, or_true, true_or, or_false, false_or, Nat.reduceEqDiff, not_true_eq_false, not_false_eq_true, false_and, and_false, false_implies, true_implies, implies_true, ne_eq, and_self, ok1]
    exact q1 hno
theorem c_borrow {v x : Int32} (h : MA g w hist st kept snap t n) (hB : TB w) (hl : ∀ k, k < 6 → wK w k 2 * wS w 13 < 2 ^ 31)
    (q1 : (∀ k, k < 6 → v ≠ nI k) → Q (some (.int (-1))) g)
    (q2 : ∀ k, k < 6 → v = nI k → ¬ (∃ m, x = nI m ∧ 1 ≤ m ∧ m ≤ 999) → Q (some (.int (-2))) g)
    (q3 : ∀ k m, k < 6 → v = nI k → x = nI m → 1 ≤ m → m ≤ 999 → wK w k 2 * wS w 13 / 100 < wK w k 3 + m → Q (some (.int (-3))) g)
    (q4 : ∀ k m g', k < 6 → v = nI k → x = nI m → 1 ≤ m → m ≤ 999 → wK w k 3 + m ≤ wK w k 2 * wS w 13 / 100 → MA g' (sK w k 3 (wK w k 3 + m)) (hcn w hist) (min (st + 1) 4) kept snap t n → MF g g' → Q (some (.int (nI (wK w k 3 + m)))) g') : w_X6_borrow [.ref 20, .int v, .int x] g Q := by
  refine wm_at rfl ⟨trivial, trivial, trivial, trivial⟩ (show WP m_X6_borrow Q 0 [.ref 20, .int v, .int x, .retAddr 0] [] g from ?_)
  obtain ⟨N, hN, ⟨a1, a2⟩, hT, hS, hJ, _, _⟩ := h.now
  have k6 := isT.k6 hT
  simp only [e_X6_borrow_0, e_X6_borrow_1, e_X6_borrow_4, e_X6_borrow_5, tand, true_and, and_true, nl1_int, nl1_ref, nl1_null, nl1_ra, cat1_int, cat1_ref, cat1_null, stbs_nil, stbs_cons, stb_int, stb_long, stb_ref, stb_null, stb_ra, alv_nil, alv_cons, alv1_int, alv1_ref, alv1_null, alv1_ra, List.length_nil, List.length_cons, Nat.reduceAdd, Nat.reduceLeDiff, Nat.zero_le, Option.toList_some, Option.toList_none, List.cons_append, List.nil_append, or_true, true_or, or_false, false_or, Nat.reduceEqDiff, not_true_eq_false, not_false_eq_true, false_and, and_false, false_implies, true_implies, implies_true, ne_eq, and_self, ok1, a1, a2, hN.z, k6]
  refine c_kilnAt hT (fun k hk ev => ?_) (fun hno => ?_)
  · obtain ⟨⟨kk, _⟩, _, o⟩ := hT.k hk
    have f3 := (hB.2.1 k hk).1 3 (by decide)
    have hl2 := hl k hk
    simp only [e_X6_borrow_8, e_X6_borrow_8n, e_X6_borrow_9, e_X6_borrow_9n, e_X6_borrow_10, e_X6_borrow_10n, e_X6_borrow_13, e_X6_borrow_14, e_X6_borrow_15, e_X6_borrow_16, e_X6_borrow_17, e_X6_borrow_20, tand, true_and, and_true, nl1_int, nl1_ref, nl1_null, nl1_ra, cat1_int, cat1_ref, cat1_null, stbs_nil, stbs_cons, stb_int, stb_long, stb_ref, stb_null, stb_ra, alv_nil, alv_cons, alv1_int, alv1_ref, alv1_null, alv1_ra, List.length_nil, List.length_cons, Nat.reduceAdd, Nat.reduceLeDiff, Nat.zero_le, Option.toList_some, Option.toList_none, List.cons_append, List.nil_append, or_true, true_or, or_false, false_or, Nat.reduceEqDiff, not_true_eq_false, not_false_eq_true, false_and, and_false, false_implies, true_implies, implies_true, ne_eq, and_self, ok1, a1, kk]
    refine c_isWithin (fun h1 h2 => ?_) (fun hn => ?_)
    · obtain ⟨m, em, m1, m2⟩ := nI_ex (by omega) h1 h2 (by omega)
      subst em
      obtain ⟨⟨p1, p2, p3, p4⟩, ⟨p5, p6⟩, _, _⟩ := hT.pl
      have s1 : gI g (N + 1) 2 = nI (wS w 13) := hT.2.2.1 2 (by decide)
      have zN1 : N + 1 ≠ 0 := by omega
      have l1 : (2 < 5) = True := propext ⟨fun _ => trivial, fun _ => by decide⟩
      have n100 : (nI 100 = 0) = False := by simp [show nI 100 ≠ 0 by decide]
      have hdv : wK w k 2 * wS w 13 / 100 < 2 ^ 31 := by omega
      simp (disch := omega) only [e_X6_borrow_23, e_X6_borrow_29, e_X6_borrow_29n, e_X6_borrow_30, e_X6_borrow_33, e_X6_borrow_34, e_X6_borrow_35, e_X6_borrow_35n, e_X6_borrow_36, e_X6_borrow_39, e_X6_borrow_40, e_X6_borrow_43, e_X6_borrow_46, e_X6_borrow_47, e_X6_borrow_48, e_X6_borrow_49, e_X6_borrow_51, e_X6_borrow_52, tand, true_and, and_true, nl1_int, nl1_ref, nl1_null, nl1_ra, cat1_int, cat1_ref, cat1_null, stbs_nil, stbs_cons, stb_int, stb_long, stb_ref, stb_null, stb_ra, alv_nil, alv_cons, alv1_int, alv1_ref, alv1_null, alv1_ra, List.length_nil, List.length_cons, Nat.reduceAdd, Nat.reduceLeDiff, Nat.zero_le, Option.toList_some, Option.toList_none, List.cons_append, List.nil_append, or_true, true_or, or_false, false_or, Nat.reduceEqDiff, not_true_eq_false, not_false_eq_true, false_and, and_false, false_implies, true_implies, implies_true, ne_eq, and_self, ok1, n1z, a1, a2, hN.z, k6, kk, o 3 (by decide), o 2 (by decide), nI_add, p2, p5, p6, isIA, nI_vp, nI_clamp, l1, s1, zN1, pk_mul, n100, pk_div, nI_leE]
      refine ⟨fun h3 => ?_, fun h3 => ?_⟩
      · simp only [e_X6_borrow_58, e_X6_borrow_59, tand, true_and, and_true, nl1_int, nl1_ref, nl1_null, nl1_ra, cat1_int, cat1_ref, cat1_null, stbs_nil, stbs_cons, stb_int, stb_long, stb_ref, stb_null, stb_ra, alv_nil, alv_cons, alv1_int, alv1_ref, alv1_null, alv1_ra, List.length_nil, List.length_cons, Nat.reduceAdd, Nat.reduceLeDiff, Nat.zero_le, Option.toList_some, Option.toList_none, List.cons_append, List.nil_append, or_true, true_or, or_false, false_or, Nat.reduceEqDiff, not_true_eq_false, not_false_eq_true, false_and, and_false, false_implies, true_implies, implies_true, ne_eq, and_self, ok1, a1, kk]
        refine c_record h fun g1 h1' f1 e1 => ?_
        obtain ⟨N', hN', ⟨b1, b2⟩, hT', hS', hJ', _, up⟩ := h1'.now
        have eN : N' = N := b2.symm.trans (e1.trans a2)
        subst eN
        obtain ⟨⟨o1, o2⟩, _, o5⟩ := hT'.k hk
        simp only [e_X6_borrow_62, e_X6_borrow_62n, e_X6_borrow_63, e_X6_borrow_64, e_X6_borrow_67, e_X6_borrow_68, e_X6_borrow_69, e_X6_borrow_72, e_X6_borrow_72n, e_X6_borrow_73, e_X6_borrow_76, tand, true_and, and_true, nl1_int, nl1_ref, nl1_null, nl1_ra, cat1_int, cat1_ref, cat1_null, stbs_nil, stbs_cons, stb_int, stb_long, stb_ref, stb_null, stb_ra, alv_nil, alv_cons, alv1_int, alv1_ref, alv1_null, alv1_ra, List.length_nil, List.length_cons, Nat.reduceAdd, Nat.reduceLeDiff, Nat.zero_le, Option.toList_some, Option.toList_none, List.cons_append, List.nil_append, or_true, true_or, or_false, false_or, Nat.reduceEqDiff, not_true_eq_false, not_false_eq_true, false_and, and_false, false_implies, true_implies, implies_true, ne_eq, and_self, ok1, o1, o5 3 (by decide), nI_add, gK_pI, gI_pI_eq, if_true]
        obtain ⟨r1, r2, r3⟩ := up _ _ ((CG.rf hJ' hT').setK hN.big hk (XT_in (by omega) (by omega)) 3 (wK w k 3 + m))
        exact q4 k m _ hk ev rfl m1 m2 h3 r1 (f1.tr r2)
      · simp only [e_X6_borrow_55, e_X6_borrow_57, tand, true_and, and_true, nl1_int, nl1_ref, nl1_null, nl1_ra, cat1_int, cat1_ref, cat1_null, stbs_nil, stbs_cons, stb_int, stb_long, stb_ref, stb_null, stb_ra, alv_nil, alv_cons, alv1_int, alv1_ref, alv1_null, alv1_ra, List.length_nil, List.length_cons, Nat.reduceAdd, Nat.reduceLeDiff, Nat.zero_le, Option.toList_some, Option.toList_none, List.cons_append, List.nil_append, or_true, true_or, or_false, false_or, Nat.reduceEqDiff, not_true_eq_false, not_false_eq_true, false_and, and_false, false_implies, true_implies, implies_true, ne_eq, and_self, ok1]
        exact q3 k m hk ev rfl m1 m2 (by omega)
    · simp only [e_X6_borrow_23, e_X6_borrow_26, e_X6_borrow_28, tand, true_and, and_true, nl1_int, nl1_ref, nl1_null, nl1_ra, cat1_int, cat1_ref, cat1_null, stbs_nil, stbs_cons, stb_int, stb_long, stb_ref, stb_null, stb_ra, alv_nil, alv_cons, alv1_int, alv1_ref, alv1_null, alv1_ra, List.length_nil, List.length_cons, Nat.reduceAdd, Nat.reduceLeDiff, Nat.zero_le, Option.toList_some, Option.toList_none, List.cons_append, List.nil_append, or_true, true_or, or_false, false_or, Nat.reduceEqDiff, not_true_eq_false, not_false_eq_true, false_and, and_false, false_implies, true_implies, implies_true, ne_eq, and_self, ok1, n0z]
      exact q2 k hk ev fun z => hn ((nI_range (by omega) (by omega)).mp z)
  · simp only [e_X6_borrow_8, e_X6_borrow_8n, e_X6_borrow_9, e_X6_borrow_9n, e_X6_borrow_10, e_X6_borrow_10n, e_X6_borrow_13, e_X6_borrow_14, tand, true_and, and_true, nl1_int, nl1_ref, nl1_null, nl1_ra, cat1_int, cat1_ref, cat1_null, stbs_nil, stbs_cons, stb_int, stb_long, stb_ref, stb_null, stb_ra, alv_nil, alv_cons, alv1_int, alv1_ref, alv1_null, alv1_ra, List.length_nil, List.length_cons, Nat.reduceAdd, Nat.reduceLeDiff, Nat.zero_le, Option.toList_some, Option.toList_none, List.cons_append, List.nil_append, or_true, true_or, or_false, false_or, Nat.reduceEqDiff, not_true_eq_false, not_false_eq_true, false_and, and_false, false_implies, true_implies, implies_true, ne_eq, and_self, ok1]
    exact q1 hno
theorem c_isSetting {v x : Int32} (h : STt g) (q1 : ∀ s y, s < 5 → v = nI s → x = nI y → seL s ≤ y → y ≤ seM s → Q (some (.int (nI 1))) g) (q0 : ¬ (∃ s y, s < 5 ∧ v = nI s ∧ x = nI y ∧ seL s ≤ y ∧ y ≤ seM s) → Q (some (.int (nI 0))) g) : w_X6_isSetting [.int v, .int x] g Q := by
  refine wm_at rfl ⟨trivial, trivial, trivial⟩ (show WP m_X6_isSetting Q 0 [.int v, .int x] [] g from ?_)
  obtain ⟨⟨a1, a2, a3⟩, ⟨b1, b2, b3⟩, c1, c2⟩ := h
  have s1 : nI 5 - nI 1 = nI 4 := by decide
  simp (disch := omega) only [e_X6_isSetting_0, e_X6_isSetting_1, e_X6_isSetting_2, e_X6_isSetting_5, e_X6_isSetting_6, e_X6_isSetting_7, e_X6_isSetting_8, tand, true_and, and_true, nl1_int, nl1_ref, nl1_null, nl1_ra, cat1_int, cat1_ref, cat1_null, stbs_nil, stbs_cons, stb_int, stb_long, stb_ref, stb_null, stb_ra, alv_nil, alv_cons, alv1_int, alv1_ref, alv1_null, alv1_ra, List.length_nil, List.length_cons, Nat.reduceAdd, Nat.reduceLeDiff, Nat.zero_le, Option.toList_some, Option.toList_none, List.cons_append, List.nil_append, or_true, true_or, or_false, false_or, Nat.reduceEqDiff, not_true_eq_false, not_false_eq_true, false_and, and_false, false_implies, true_implies, implies_true, ne_eq, and_self, ok1, c1, c2, s1]
  refine c_isWithin (fun h1 h2 => ?_) (fun hn => ?_)
  · rw [show (nI 0 : Int32) = nI 0 from rfl] at h1
    obtain ⟨s, es, _, m2⟩ := nI_ex (a := 0) (by omega) h1 h2 (by omega)
    subst es
    have hs : s < 5 := by omega
    have hsM : seM s ≤ 500 := by unfold seM; split; decide; split; decide; split <;> decide
    have hsL : seL s ≤ 500 := by unfold seL; split; decide; split; decide; split <;> decide
    simp (disch := omega) only [e_X6_isSetting_11, e_X6_isSetting_14, e_X6_isSetting_15, e_X6_isSetting_18, e_X6_isSetting_19, e_X6_isSetting_20, e_X6_isSetting_23, e_X6_isSetting_24, e_X6_isSetting_25, tand, true_and, and_true, nl1_int, nl1_ref, nl1_null, nl1_ra, cat1_int, cat1_ref, cat1_null, stbs_nil, stbs_cons, stb_int, stb_long, stb_ref, stb_null, stb_ra, alv_nil, alv_cons, alv1_int, alv1_ref, alv1_null, alv1_ra, List.length_nil, List.length_cons, Nat.reduceAdd, Nat.reduceLeDiff, Nat.zero_le, Option.toList_some, Option.toList_none, List.cons_append, List.nil_append, or_true, true_or, or_false, false_or, Nat.reduceEqDiff, not_true_eq_false, not_false_eq_true, false_and, and_false, false_implies, true_implies, implies_true, ne_eq, and_self, ok1, n1z, a1, a2, b1, b2, isIA, nI_vp, nI_clamp, hs, a3 s hs, b3 s hs]
    refine c_isWithin (fun h3 h4 => ?_) (fun hn => ?_)
    · obtain ⟨y, ey, y1, y2⟩ := nI_ex (by omega) h3 h4 (by omega)
      simp only [e_X6_isSetting_28, e_X6_isSetting_31, e_X6_isSetting_32, e_X6_isSetting_35, e_X6_isSetting_36, tand, true_and, and_true, nl1_int, nl1_ref, nl1_null, nl1_ra, cat1_int, cat1_ref, cat1_null, stbs_nil, stbs_cons, stb_int, stb_long, stb_ref, stb_null, stb_ra, alv_nil, alv_cons, alv1_int, alv1_ref, alv1_null, alv1_ra, List.length_nil, List.length_cons, Nat.reduceAdd, Nat.reduceLeDiff, Nat.zero_le, Option.toList_some, Option.toList_none, List.cons_append, List.nil_append, or_true, true_or, or_false, false_or, Nat.reduceEqDiff, not_true_eq_false, not_false_eq_true, false_and, and_false, false_implies, true_implies, implies_true, ne_eq, and_self, ok1, n1z, bE1]
      exact ⟨by decide, q1 s y hs rfl ey y1 y2⟩
    · simp only [e_X6_isSetting_28, e_X6_isSetting_35, e_X6_isSetting_36, tand, true_and, and_true, nl1_int, nl1_ref, nl1_null, nl1_ra, cat1_int, cat1_ref, cat1_null, stbs_nil, stbs_cons, stb_int, stb_long, stb_ref, stb_null, stb_ra, alv_nil, alv_cons, alv1_int, alv1_ref, alv1_null, alv1_ra, List.length_nil, List.length_cons, Nat.reduceAdd, Nat.reduceLeDiff, Nat.zero_le, Option.toList_some, Option.toList_none, List.cons_append, List.nil_append, or_true, true_or, or_false, false_or, Nat.reduceEqDiff, not_true_eq_false, not_false_eq_true, false_and, and_false, false_implies, true_implies, implies_true, ne_eq, and_self, ok1, n0z, bE0]
      refine q0 fun ⟨s', y, hs', es, ey, y1, y2⟩ => hn ?_
      rw [nI_eqE (by omega) (by omega)] at es
      rw [es]
      exact (nI_range (by rw [← es]; omega) (by rw [← es]; omega)).mp ⟨y, ey, y1, y2⟩
  · simp only [e_X6_isSetting_11, e_X6_isSetting_35, e_X6_isSetting_36, tand, true_and, and_true, nl1_int, nl1_ref, nl1_null, nl1_ra, cat1_int, cat1_ref, cat1_null, stbs_nil, stbs_cons, stb_int, stb_long, stb_ref, stb_null, stb_ra, alv_nil, alv_cons, alv1_int, alv1_ref, alv1_null, alv1_ra, List.length_nil, List.length_cons, Nat.reduceAdd, Nat.reduceLeDiff, Nat.zero_le, Option.toList_some, Option.toList_none, List.cons_append, List.nil_append, or_true, true_or, or_false, false_or, Nat.reduceEqDiff, not_true_eq_false, not_false_eq_true, false_and, and_false, false_implies, true_implies, implies_true, ne_eq, and_self, ok1, n0z, bE0]
    refine q0 fun ⟨s', y, hs', es, ey, y1, y2⟩ => hn ?_
    exact (nI_range (a := 0) (b := 4) (by omega) (by omega)).mp ⟨s', es, by omega, by omega⟩
theorem c_set {v x : Int32} (h : MA g w hist st kept snap t n) (hB : TB w)
    (q1 : ¬ (∃ s y, s < 5 ∧ v = nI s ∧ x = nI y ∧ seL s ≤ y ∧ y ≤ seM s) → Q (some (.int (-2))) g)
    (q2 : ∀ s y, s < 5 → v = nI s → x = nI y → seL s ≤ y → y ≤ seM s → wS w (11 + s) = y → Q (some (.int (-5))) g)
    (q3 : ∀ s y g', s < 5 → v = nI s → x = nI y → seL s ≤ y → y ≤ seM s → wS w (11 + s) ≠ y → MA g' (sS w (11 + s) y) (hcn w hist) (min (st + 1) 4) kept snap t n → MF g g' → Q (some (.int (nI (wS w (11 + s))))) g') : w_X6_set [.ref 20, .int v, .int x] g Q := by
  refine wm_at rfl ⟨trivial, trivial, trivial, trivial⟩ (show WP m_X6_set Q 0 [.ref 20, .int v, .int x, .retAddr 0] [] g from ?_)
  obtain ⟨N, hN, ⟨a1, a2⟩, hT, hS, hJ, hSt, _⟩ := h.now
  have k6 := isT.k6 hT
  simp only [e_X6_set_0, e_X6_set_1, e_X6_set_2, tand, true_and, and_true, nl1_int, nl1_ref, nl1_null, nl1_ra, cat1_int, cat1_ref, cat1_null, stbs_nil, stbs_cons, stb_int, stb_long, stb_ref, stb_null, stb_ra, alv_nil, alv_cons, alv1_int, alv1_ref, alv1_null, alv1_ra, List.length_nil, List.length_cons, Nat.reduceAdd, Nat.reduceLeDiff, Nat.zero_le, Option.toList_some, Option.toList_none, List.cons_append, List.nil_append, or_true, true_or, or_false, false_or, Nat.reduceEqDiff, not_true_eq_false, not_false_eq_true, false_and, and_false, false_implies, true_implies, implies_true, ne_eq, and_self, ok1, a1]
  refine c_isSetting hSt (fun s y hs es ey y1 y2 => ?_) (fun hno => ?_)
  · obtain ⟨⟨p1, p2, p3, p4⟩, ⟨p5, p6⟩, _, _⟩ := hT.pl
    have s1 : gI g (N + 1) s = nI (wS w (11 + s)) := hT.2.2.1 s hs
    have zN1 : N + 1 ≠ 0 := by omega
    have hsM : seM s ≤ 500 := by unfold seM; split; decide; split; decide; split <;> decide
    have fs := hB.1 (11 + s) (by omega)
    subst es
    subst ey
    simp (disch := omega) only [e_X6_set_5, e_X6_set_11, e_X6_set_12, e_X6_set_15, e_X6_set_18, e_X6_set_19, e_X6_set_20, e_X6_set_21, e_X6_set_22, e_X6_set_23, tand, true_and, and_true, nl1_int, nl1_ref, nl1_null, nl1_ra, cat1_int, cat1_ref, cat1_null, stbs_nil, stbs_cons, stb_int, stb_long, stb_ref, stb_null, stb_ra, alv_nil, alv_cons, alv1_int, alv1_ref, alv1_null, alv1_ra, List.length_nil, List.length_cons, Nat.reduceAdd, Nat.reduceLeDiff, Nat.zero_le, Option.toList_some, Option.toList_none, List.cons_append, List.nil_append, or_true, true_or, or_false, false_or, Nat.reduceEqDiff, not_true_eq_false, not_false_eq_true, false_and, and_false, false_implies, true_implies, implies_true, ne_eq, and_self, ok1, n1z, a1, a2, hN.z, p1, p2, p5, p6, isIA, nI_vp, nI_clamp, hs, s1, zN1, nI_eqE]
    refine ⟨fun hne => ?_, fun he => ?_⟩
    · simp only [e_X6_set_29, e_X6_set_30, tand, true_and, and_true, nl1_int, nl1_ref, nl1_null, nl1_ra, cat1_int, cat1_ref, cat1_null, stbs_nil, stbs_cons, stb_int, stb_long, stb_ref, stb_null, stb_ra, alv_nil, alv_cons, alv1_int, alv1_ref, alv1_null, alv1_ra, List.length_nil, List.length_cons, Nat.reduceAdd, Nat.reduceLeDiff, Nat.zero_le, Option.toList_some, Option.toList_none, List.cons_append, List.nil_append, or_true, true_or, or_false, false_or, Nat.reduceEqDiff, not_true_eq_false, not_false_eq_true, false_and, and_false, false_implies, true_implies, implies_true, ne_eq, and_self, ok1, a1]
      refine c_record h fun g1 h1' f1 e1 => ?_
      obtain ⟨N', hN', ⟨b1, b2⟩, hT', hS', hJ', _, up⟩ := h1'.now
      have eN : N' = N := b2.symm.trans (e1.trans a2)
      subst eN
      obtain ⟨⟨p1', p2', p3', p4'⟩, ⟨p5', p6'⟩, _, _⟩ := hT'.pl
      simp (disch := omega) only [e_X6_set_33, e_X6_set_34, e_X6_set_37, e_X6_set_40, e_X6_set_41, e_X6_set_42, e_X6_set_43, e_X6_set_44, tand, true_and, and_true, nl1_int, nl1_ref, nl1_null, nl1_ra, cat1_int, cat1_ref, cat1_null, stbs_nil, stbs_cons, stb_int, stb_long, stb_ref, stb_null, stb_ra, alv_nil, alv_cons, alv1_int, alv1_ref, alv1_null, alv1_ra, List.length_nil, List.length_cons, Nat.reduceAdd, Nat.reduceLeDiff, Nat.zero_le, Option.toList_some, Option.toList_none, List.cons_append, List.nil_append, or_true, true_or, or_false, false_or, Nat.reduceEqDiff, not_true_eq_false, not_false_eq_true, false_and, and_false, false_implies, true_implies, implies_true, ne_eq, and_self, ok1, b1, b2, hN.z, p1', p2', p5', p6', nI_vp, nI_clamp, hs, zN1]
      obtain ⟨r1, r2, r3⟩ := up _ _ ((CG.rf hJ' hT').setSt hN.big (XT_in (by omega) (by omega)) s y hs)
      exact q3 s y _ hs rfl rfl y1 y2 hne r1 (f1.tr r2)
    · simp only [e_X6_set_26, e_X6_set_28, tand, true_and, and_true, nl1_int, nl1_ref, nl1_null, nl1_ra, cat1_int, cat1_ref, cat1_null, stbs_nil, stbs_cons, stb_int, stb_long, stb_ref, stb_null, stb_ra, alv_nil, alv_cons, alv1_int, alv1_ref, alv1_null, alv1_ra, List.length_nil, List.length_cons, Nat.reduceAdd, Nat.reduceLeDiff, Nat.zero_le, Option.toList_some, Option.toList_none, List.cons_append, List.nil_append, or_true, true_or, or_false, false_or, Nat.reduceEqDiff, not_true_eq_false, not_false_eq_true, false_and, and_false, false_implies, true_implies, implies_true, ne_eq, and_self, ok1]
      exact q2 s y hs rfl rfl y1 y2 (by omega)
  · simp only [e_X6_set_5, e_X6_set_8, e_X6_set_10, tand, true_and, and_true, nl1_int, nl1_ref, nl1_null, nl1_ra, cat1_int, cat1_ref, cat1_null, stbs_nil, stbs_cons, stb_int, stb_long, stb_ref, stb_null, stb_ra, alv_nil, alv_cons, alv1_int, alv1_ref, alv1_null, alv1_ra, List.length_nil, List.length_cons, Nat.reduceAdd, Nat.reduceLeDiff, Nat.zero_le, Option.toList_some, Option.toList_none, List.cons_append, List.nil_append, or_true, true_or, or_false, false_or, Nat.reduceEqDiff, not_true_eq_false, not_false_eq_true, false_and, and_false, false_implies, true_implies, implies_true, ne_eq, and_self, ok1, n0z]
    exact q1 hno
theorem c_oneComes {I : Rw → Prop} (hI : mInv I) {b : Nat} {v x p : Int32} (hb : b ≤ 1) (h : MA g w hist st kept snap t n) (hB : TB w) (hc : wS w 12 ≤ 500) (hfree : ∃ i, i < 17 ∧ wF w i 3 = 0)
    (hput : ∀ k m p i, k < 6 → 1 ≤ m → m ≤ 999 → wS w 11 ≤ p → p ≤ wS w 12 → (b = 1 → m * p ≤ wK w k 0) → (b = 0 → m ≤ rt (wP w k)) → i < 17 → wF w i 3 = 0 → I (opPut w i b k m p))
    (q1 : (∀ k, k < 6 → v ≠ nI k) → Q (some (.int (-1))) g)
    (q2 : ∀ k, k < 6 → v = nI k → ¬ ((∃ n', x = nI n' ∧ 1 ≤ n' ∧ n' ≤ 999) ∧ ∃ p', p = nI p' ∧ wS w 11 ≤ p' ∧ p' ≤ wS w 12) → Q (some (.int (-2))) g)
    (q4 : ∀ k n' p', k < 6 → v = nI k → x = nI n' → p = nI p' → 1 ≤ n' → n' ≤ 999 → wS w 11 ≤ p' → p' ≤ wS w 12 → (b = 1 → ¬ n' * p' ≤ wK w k 0) → (b = 0 → ¬ n' ≤ rt (wP w k)) → Q (some (.int (-3))) g)
    (q3 : ∀ k m p' i g', k < 6 → v = nI k → x = nI m → p = nI p' → 1 ≤ m → m ≤ 999 → wS w 11 ≤ p' → p' ≤ wS w 12 → (b = 1 → m * p' ≤ wK w k 0) → (b = 0 → m ≤ rt (wP w k)) → i < 17 → fstF w i → MA g' (opCome w i b k m p') (hcn w hist) (min (st + 1) 4) kept snap t n → MF g g' → Q (some (.int (nI (m - wF (meetF i 17 (opPut w i b k m p')) i 3)))) g') : w_X6_oneComes [.ref 20, .int (nI b), .int v, .int x, .int p] g Q := by
  refine wm_at rfl ⟨trivial, trivial, trivial, trivial, trivial, trivial⟩ (show WP m_X6_oneComes Q 0 [.ref 20, .int (nI b), .int v, .int x, .int p, .retAddr 0] [] g from ?_)
  obtain ⟨N, hN, ⟨a1, a2⟩, hT, hS, hJ, hSt, _⟩ := h.now
  have k6 := isT.k6 hT
  simp only [e_X6_oneComes_0, e_X6_oneComes_1, e_X6_oneComes_4, e_X6_oneComes_5, e_X6_oneComes_6, e_X6_oneComes_7, e_X6_oneComes_9, tand, true_and, and_true, nl1_int, nl1_ref, nl1_null, nl1_ra, cat1_int, cat1_ref, cat1_null, stbs_nil, stbs_cons, stb_int, stb_long, stb_ref, stb_null, stb_ra, alv_nil, alv_cons, alv1_int, alv1_ref, alv1_null, alv1_ra, List.length_nil, List.length_cons, Nat.reduceAdd, Nat.reduceLeDiff, Nat.zero_le, Option.toList_some, Option.toList_none, List.cons_append, List.nil_append, or_true, true_or, or_false, false_or, Nat.reduceEqDiff, not_true_eq_false, not_false_eq_true, false_and, and_false, false_implies, true_implies, implies_true, ne_eq, and_self, ok1, a1, a2, hN.z, k6]
  have m1 : ((-1 : Int32) = 0) = False := by simp [show (-1 : Int32) ≠ 0 by decide]
  have m2 : ((-2 : Int32) = 0) = False := by simp [show (-2 : Int32) ≠ 0 by decide]
  have m3 : ((-3 : Int32) = 0) = False := by simp [show (-3 : Int32) ≠ 0 by decide]
  refine c_errorOf hT hB hb hc (fun hno => ?_) (fun k hk ev hno => ?_) (fun k n' p' hk ev en ep x1 x2 x3 x4 x5 x6 => ?_) (fun k n' p' hk ev en ep x1 x2 x3 x4 x5 x6 => ?_)
  · simp only [e_X6_oneComes_12, e_X6_oneComes_14, e_X6_oneComes_16, e_X6_oneComes_19, e_X6_oneComes_21, tand, true_and, and_true, nl1_int, nl1_ref, nl1_null, nl1_ra, cat1_int, cat1_ref, cat1_null, stbs_nil, stbs_cons, stb_int, stb_long, stb_ref, stb_null, stb_ra, alv_nil, alv_cons, alv1_int, alv1_ref, alv1_null, alv1_ra, List.length_nil, List.length_cons, Nat.reduceAdd, Nat.reduceLeDiff, Nat.zero_le, Option.toList_some, Option.toList_none, List.cons_append, List.nil_append, or_true, true_or, or_false, false_or, Nat.reduceEqDiff, not_true_eq_false, not_false_eq_true, false_and, and_false, false_implies, true_implies, implies_true, ne_eq, and_self, ok1, m1]
    exact q1 hno
  · simp only [e_X6_oneComes_12, e_X6_oneComes_14, e_X6_oneComes_16, e_X6_oneComes_19, e_X6_oneComes_21, tand, true_and, and_true, nl1_int, nl1_ref, nl1_null, nl1_ra, cat1_int, cat1_ref, cat1_null, stbs_nil, stbs_cons, stb_int, stb_long, stb_ref, stb_null, stb_ra, alv_nil, alv_cons, alv1_int, alv1_ref, alv1_null, alv1_ra, List.length_nil, List.length_cons, Nat.reduceAdd, Nat.reduceLeDiff, Nat.zero_le, Option.toList_some, Option.toList_none, List.cons_append, List.nil_append, or_true, true_or, or_false, false_or, Nat.reduceEqDiff, not_true_eq_false, not_false_eq_true, false_and, and_false, false_implies, true_implies, implies_true, ne_eq, and_self, ok1, m2]
    exact q2 k hk ev hno
  · subst ev
    subst en
    subst ep
    simp only [e_X6_oneComes_12, e_X6_oneComes_14, e_X6_oneComes_16, e_X6_oneComes_22, e_X6_oneComes_23, tand, true_and, and_true, nl1_int, nl1_ref, nl1_null, nl1_ra, cat1_int, cat1_ref, cat1_null, stbs_nil, stbs_cons, stb_int, stb_long, stb_ref, stb_null, stb_ra, alv_nil, alv_cons, alv1_int, alv1_ref, alv1_null, alv1_ra, List.length_nil, List.length_cons, Nat.reduceAdd, Nat.reduceLeDiff, Nat.zero_le, Option.toList_some, Option.toList_none, List.cons_append, List.nil_append, or_true, true_or, or_false, false_or, Nat.reduceEqDiff, not_true_eq_false, not_false_eq_true, false_and, and_false, false_implies, true_implies, implies_true, ne_eq, and_self, ok1, n0z, a1]
    refine c_record h fun g1 h1' f1 e1 => ?_
    obtain ⟨N', hN', ⟨b1, b2⟩, hT', hS', hJ', _, up⟩ := h1'.now
    have k6' := isT.k6 hT'
    simp only [e_X6_oneComes_26, e_X6_oneComes_27, e_X6_oneComes_30, e_X6_oneComes_31, e_X6_oneComes_32, e_X6_oneComes_33, e_X6_oneComes_35, tand, true_and, and_true, nl1_int, nl1_ref, nl1_null, nl1_ra, cat1_int, cat1_ref, cat1_null, stbs_nil, stbs_cons, stb_int, stb_long, stb_ref, stb_null, stb_ra, alv_nil, alv_cons, alv1_int, alv1_ref, alv1_null, alv1_ra, List.length_nil, List.length_cons, Nat.reduceAdd, Nat.reduceLeDiff, Nat.zero_le, Option.toList_some, Option.toList_none, List.cons_append, List.nil_append, or_true, true_or, or_false, false_or, Nat.reduceEqDiff, not_true_eq_false, not_false_eq_true, false_and, and_false, false_implies, true_implies, implies_true, ne_eq, and_self, ok1, b1, b2, hN'.z, k6']
    refine c_comes hI hN' hT' hB hb hk (by omega) hfree x5 x6 (fun i hi h0 => hput k n' p' i hk x1 x2 x3 x4 x5 x6 hi h0) hS' hJ' fun i g2 hi h0 C2 => ?_
    obtain ⟨r1, r2, r3⟩ := up g2 _ C2
    simp only [e_X6_oneComes_38, tand, true_and, and_true, nl1_int, nl1_ref, nl1_null, nl1_ra, cat1_int, cat1_ref, cat1_null, stbs_nil, stbs_cons, stb_int, stb_long, stb_ref, stb_null, stb_ra, alv_nil, alv_cons, alv1_int, alv1_ref, alv1_null, alv1_ra, List.length_nil, List.length_cons, Nat.reduceAdd, Nat.reduceLeDiff, Nat.zero_le, Option.toList_some, Option.toList_none, List.cons_append, List.nil_append, or_true, true_or, or_false, false_or, Nat.reduceEqDiff, not_true_eq_false, not_false_eq_true, false_and, and_false, false_implies, true_implies, implies_true, ne_eq, and_self, ok1]
    exact q3 k n' p' i g2 hk rfl rfl rfl x1 x2 x3 x4 x5 x6 hi h0 r1 (f1.tr r2)
  · simp only [e_X6_oneComes_12, e_X6_oneComes_14, e_X6_oneComes_16, e_X6_oneComes_19, e_X6_oneComes_21, tand, true_and, and_true, nl1_int, nl1_ref, nl1_null, nl1_ra, cat1_int, cat1_ref, cat1_null, stbs_nil, stbs_cons, stb_int, stb_long, stb_ref, stb_null, stb_ra, alv_nil, alv_cons, alv1_int, alv1_ref, alv1_null, alv1_ra, List.length_nil, List.length_cons, Nat.reduceAdd, Nat.reduceLeDiff, Nat.zero_le, Option.toList_some, Option.toList_none, List.cons_append, List.nil_append, or_true, true_or, or_false, false_or, Nat.reduceEqDiff, not_true_eq_false, not_false_eq_true, false_and, and_false, false_implies, true_implies, implies_true, ne_eq, and_self, ok1, m3]
    exact q4 k n' p' hk ev en ep x1 x2 x3 x4 x5 x6
end Act2
