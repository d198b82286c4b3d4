/-! ===== the main object: acts ===== -/
section Act
variable {st kept n : Nat} {t : Nat → Nat} {Q : mQ} {g : mG} {w snap : Rw} {hist : Nat → Rw}
theorem isT.z {T : Nat} (h : isT T) : T ≠ 0 := by have := h.big; omega
theorem n1z : (nI 1 = 0) = False := by simp [show nI 1 ≠ 0 by decide]
theorem n0z : (nI 0 = 0) = True := by simp [show nI 0 = 0 by decide]
theorem c_issue {v x : Int32} (h : MA g w hist st kept snap t n) (hB : TB w) (hy : wS w 0 < 1000)
    (q1 : (∀ k, k < 6 → v ≠ nI k) → Q (some (.int (-1))) g)
    (q2 : ∀ k, k < 6 → v = nI k → ¬ (∃ m, x = nI m ∧ 1 ≤ m ∧ m ≤ 999) → Q (some (.int (-2))) g)
    (q3 : ∀ k m g', k < 6 → v = nI k → x = nI m → 1 ≤ m → m ≤ 999 → MA g' (opIss w k m) (hcn w hist) (min (st + 1) 4) kept snap t n → MF g g' → Q (some (.int (nI (m - min (wK w k 6) m)))) g') : w_X6_issue [.ref 20, .int v, .int x] g Q := by
  refine wm_at rfl ⟨trivial, trivial, trivial, trivial⟩ (show WP m_X6_issue Q 0 [.ref 20, .int v, .int x, .retAddr 0] [] g from ?_)
  obtain ⟨N, hN, ⟨a1, a2⟩, hT, hS, hJ, _, _⟩ := h.now
  have k6 := isT.k6 hT
  simp only [e_X6_issue_0, e_X6_issue_1, e_X6_issue_4, e_X6_issue_5, tand, true_and, and_true, nl1_int, nl1_ref, nl1_null, nl1_ra, cat1_int, cat1_ref, cat1_null, stbs_nil, stbs_cons, stb_int, stb_long, stb_ref, stb_null, stb_ra, alv_nil, alv_cons, alv1_int, alv1_ref, alv1_null, alv1_ra, List.length_nil, List.length_cons, Nat.reduceAdd, Nat.reduceLeDiff, Nat.zero_le, Option.toList_some, Option.toList_none, List.cons_append, List.nil_append, or_true, true_or, or_false, false_or, Nat.reduceEqDiff, not_true_eq_false, not_false_eq_true, false_and, and_false, false_implies, true_implies, implies_true, ne_eq, and_self, ok1, a1, a2, hN.z, k6]
  refine c_kilnAt hT (fun k hk ev => ?_) (fun hno => ?_)
  · have kk := (hT.k hk).1.1
    simp only [e_X6_issue_8, e_X6_issue_8n, e_X6_issue_9, e_X6_issue_9n, e_X6_issue_10, e_X6_issue_10n, e_X6_issue_13, e_X6_issue_14, e_X6_issue_15, e_X6_issue_16, e_X6_issue_17, e_X6_issue_20, tand, true_and, and_true, nl1_int, nl1_ref, nl1_null, nl1_ra, cat1_int, cat1_ref, cat1_null, stbs_nil, stbs_cons, stb_int, stb_long, stb_ref, stb_null, stb_ra, alv_nil, alv_cons, alv1_int, alv1_ref, alv1_null, alv1_ra, List.length_nil, List.length_cons, Nat.reduceAdd, Nat.reduceLeDiff, Nat.zero_le, Option.toList_some, Option.toList_none, List.cons_append, List.nil_append, or_true, true_or, or_false, false_or, Nat.reduceEqDiff, not_true_eq_false, not_false_eq_true, false_and, and_false, false_implies, true_implies, implies_true, ne_eq, and_self, ok1, a1, kk]
    refine c_isWithin (fun h1 h2 => ?_) (fun hn => ?_)
    · obtain ⟨m, em, m1, m2⟩ := nI_ex (by omega) h1 h2 (by omega)
      subst em
      simp only [e_X6_issue_23, e_X6_issue_29, e_X6_issue_30, tand, true_and, and_true, nl1_int, nl1_ref, nl1_null, nl1_ra, cat1_int, cat1_ref, cat1_null, stbs_nil, stbs_cons, stb_int, stb_long, stb_ref, stb_null, stb_ra, alv_nil, alv_cons, alv1_int, alv1_ref, alv1_null, alv1_ra, List.length_nil, List.length_cons, Nat.reduceAdd, Nat.reduceLeDiff, Nat.zero_le, Option.toList_some, Option.toList_none, List.cons_append, List.nil_append, or_true, true_or, or_false, false_or, Nat.reduceEqDiff, not_true_eq_false, not_false_eq_true, false_and, and_false, false_implies, true_implies, implies_true, ne_eq, and_self, ok1, n1z, a1, kk]
      refine c_record h fun g1 h1' f1 e1 => ?_
      obtain ⟨N', hN', ⟨b1, b2⟩, hT', hS', hJ', _, up⟩ := h1'.now
      have eN : N' = N := b2.symm.trans (e1.trans a2)
      subst eN
      have k6' := isT.k6 hT'
      have kk' := (hT'.k hk).1.1
      simp only [e_X6_issue_33, e_X6_issue_34, e_X6_issue_37, e_X6_issue_37n, e_X6_issue_38, e_X6_issue_39, tand, true_and, and_true, nl1_int, nl1_ref, nl1_null, nl1_ra, cat1_int, cat1_ref, cat1_null, stbs_nil, stbs_cons, stb_int, stb_long, stb_ref, stb_null, stb_ra, alv_nil, alv_cons, alv1_int, alv1_ref, alv1_null, alv1_ra, List.length_nil, List.length_cons, Nat.reduceAdd, Nat.reduceLeDiff, Nat.zero_le, Option.toList_some, Option.toList_none, List.cons_append, List.nil_append, or_true, true_or, or_false, false_or, Nat.reduceEqDiff, not_true_eq_false, not_false_eq_true, false_and, and_false, false_implies, true_implies, implies_true, ne_eq, and_self, ok1, b1, b2, hN.z, k6', kk']
      refine c_issueTo hN hT' hB hy hk (by omega) hS' hJ' fun g2 C2 => ?_
      obtain ⟨r1, r2, r3⟩ := up g2 _ C2
      simp only [e_X6_issue_42, tand, true_and, and_true, nl1_int, nl1_ref, nl1_null, nl1_ra, cat1_int, cat1_ref, cat1_null, stbs_nil, stbs_cons, stb_int, stb_long, stb_ref, stb_null, stb_ra, alv_nil, alv_cons, alv1_int, alv1_ref, alv1_null, alv1_ra, List.length_nil, List.length_cons, Nat.reduceAdd, Nat.reduceLeDiff, Nat.zero_le, Option.toList_some, Option.toList_none, List.cons_append, List.nil_append, or_true, true_or, or_false, false_or, Nat.reduceEqDiff, not_true_eq_false, not_false_eq_true, false_and, and_false, false_implies, true_implies, implies_true, ne_eq, and_self, ok1]
      exact q3 k m g2 hk ev rfl m1 m2 r1 (f1.tr r2)
    · simp only [e_X6_issue_23, e_X6_issue_26, e_X6_issue_28, tand, true_and, and_true, nl1_int, nl1_ref, nl1_null, nl1_ra, cat1_int, cat1_ref, cat1_null, stbs_nil, stbs_cons, stb_int, stb_long, stb_ref, stb_null, stb_ra, alv_nil, alv_cons, alv1_int, alv1_ref, alv1_null, alv1_ra, List.length_nil, List.length_cons, Nat.reduceAdd, Nat.reduceLeDiff, Nat.zero_le, Option.toList_some, Option.toList_none, List.cons_append, List.nil_append, or_true, true_or, or_false, false_or, Nat.reduceEqDiff, not_true_eq_false, not_false_eq_true, false_and, and_false, false_implies, true_implies, implies_true, ne_eq, and_self, ok1, n0z]
      exact q2 k hk ev fun z => hn ((nI_range (by omega) (by omega)).mp z)
  · simp only [e_X6_issue_8, e_X6_issue_8n, e_X6_issue_9, e_X6_issue_9n, e_X6_issue_10, e_X6_issue_10n, e_X6_issue_13, e_X6_issue_14, tand, true_and, and_true, nl1_int, nl1_ref, nl1_null, nl1_ra, cat1_int, cat1_ref, cat1_null, stbs_nil, stbs_cons, stb_int, stb_long, stb_ref, stb_null, stb_ra, alv_nil, alv_cons, alv1_int, alv1_ref, alv1_null, alv1_ra, List.length_nil, List.length_cons, Nat.reduceAdd, Nat.reduceLeDiff, Nat.zero_le, Option.toList_some, Option.toList_none, List.cons_append, List.nil_append, or_true, true_or, or_false, false_or, Nat.reduceEqDiff, not_true_eq_false, not_false_eq_true, false_and, and_false, false_implies, true_implies, implies_true, ne_eq, and_self, ok1]
    exact q1 hno
theorem c_fire {v x y : Int32} (h : MA g w hist st kept snap t n)
    (q1 : (∀ k, k < 6 → v ≠ nI k) → Q (some (.int (-1))) g)
    (q2 : ∀ k, k < 6 → v = nI k → ¬ (∃ m l, x = nI m ∧ y = nI l ∧ 1 ≤ m ∧ m ≤ 999 ∧ l ≤ m) → Q (some (.int (-2))) g)
    (q3 : ∀ k m l g', k < 6 → v = nI k → x = nI m → y = nI l → 1 ≤ m → m ≤ 999 → l ≤ m → MA g' (sK (sK w k 1 (wK w k 1 + m)) k 2 (wK w k 2 + l)) (hcn w hist) (min (st + 1) 4) kept snap t n → MF g g' → Q (some (.int (nI (wK w k 2 + l)))) g') : w_X6_fire [.ref 20, .int v, .int x, .int y] g Q := by
  refine wm_at rfl ⟨trivial, trivial, trivial, trivial, trivial⟩ (show WP m_X6_fire Q 0 [.ref 20, .int v, .int x, .int y, .retAddr 0] [] g from ?_)
  obtain ⟨N, hN, ⟨a1, a2⟩, hT, hS, hJ, _, _⟩ := h.now
  have k6 := isT.k6 hT
  simp only [e_X6_fire_0, e_X6_fire_1, e_X6_fire_4, e_X6_fire_5, tand, true_and, and_true, nl1_int, nl1_ref, nl1_null, nl1_ra, cat1_int, cat1_ref, cat1_null, stbs_nil, stbs_cons, stb_int, stb_long, stb_ref, stb_null, stb_ra, alv_nil, alv_cons, alv1_int, alv1_ref, alv1_null, alv1_ra, List.length_nil, List.length_cons, Nat.reduceAdd, Nat.reduceLeDiff, Nat.zero_le, Option.toList_some, Option.toList_none, List.cons_append, List.nil_append, or_true, true_or, or_false, false_or, Nat.reduceEqDiff, not_true_eq_false, not_false_eq_true, false_and, and_false, false_implies, true_implies, implies_true, ne_eq, and_self, ok1, a1, a2, hN.z, k6]
  refine c_kilnAt hT (fun k hk ev => ?_) (fun hno => ?_)
  · have kk := (hT.k hk).1.1
    simp only [e_X6_fire_8, e_X6_fire_8n, e_X6_fire_10, e_X6_fire_10n, e_X6_fire_12, e_X6_fire_12n, e_X6_fire_15, e_X6_fire_16, e_X6_fire_17, e_X6_fire_18, e_X6_fire_19, e_X6_fire_22, tand, true_and, and_true, nl1_int, nl1_ref, nl1_null, nl1_ra, cat1_int, cat1_ref, cat1_null, stbs_nil, stbs_cons, stb_int, stb_long, stb_ref, stb_null, stb_ra, alv_nil, alv_cons, alv1_int, alv1_ref, alv1_null, alv1_ra, List.length_nil, List.length_cons, Nat.reduceAdd, Nat.reduceLeDiff, Nat.zero_le, Option.toList_some, Option.toList_none, List.cons_append, List.nil_append, or_true, true_or, or_false, false_or, Nat.reduceEqDiff, not_true_eq_false, not_false_eq_true, false_and, and_false, false_implies, true_implies, implies_true, ne_eq, and_self, ok1, a1, kk]
    refine c_isWithin (fun h1 h2 => ?_) (fun hn => ?_)
    · obtain ⟨m, em, m1, m2⟩ := nI_ex (by omega) h1 h2 (by omega)
      subst em
      simp only [e_X6_fire_25, e_X6_fire_28, e_X6_fire_29, e_X6_fire_30, e_X6_fire_31, tand, true_and, and_true, nl1_int, nl1_ref, nl1_null, nl1_ra, cat1_int, cat1_ref, cat1_null, stbs_nil, stbs_cons, stb_int, stb_long, stb_ref, stb_null, stb_ra, alv_nil, alv_cons, alv1_int, alv1_ref, alv1_null, alv1_ra, List.length_nil, List.length_cons, Nat.reduceAdd, Nat.reduceLeDiff, Nat.zero_le, Option.toList_some, Option.toList_none, List.cons_append, List.nil_append, or_true, true_or, or_false, false_or, Nat.reduceEqDiff, not_true_eq_false, not_false_eq_true, false_and, and_false, false_implies, true_implies, implies_true, ne_eq, and_self, ok1, n1z, a1, kk]
      refine c_isWithin (fun h3 h4 => ?_) (fun hn => ?_)
      · obtain ⟨l, el, l1, l2⟩ := nI_ex (by omega) h3 h4 (by omega)
        subst el
        simp only [e_X6_fire_34, e_X6_fire_40, e_X6_fire_41, tand, true_and, and_true, nl1_int, nl1_ref, nl1_null, nl1_ra, cat1_int, cat1_ref, cat1_null, stbs_nil, stbs_cons, stb_int, stb_long, stb_ref, stb_null, stb_ra, alv_nil, alv_cons, alv1_int, alv1_ref, alv1_null, alv1_ra, List.length_nil, List.length_cons, Nat.reduceAdd, Nat.reduceLeDiff, Nat.zero_le, Option.toList_some, Option.toList_none, List.cons_append, List.nil_append, or_true, true_or, or_false, false_or, Nat.reduceEqDiff, not_true_eq_false, not_false_eq_true, false_and, and_false, false_implies, true_implies, implies_true, ne_eq, and_self, ok1, n1z, a1, kk]
        refine c_record h fun g1 h1' f1 e1 => ?_
        obtain ⟨N', hN', ⟨b1, b2⟩, hT', hS', hJ', _, up⟩ := h1'.now
        have eN : N' = N := b2.symm.trans (e1.trans a2)
        subst eN
        obtain ⟨⟨o1, o2⟩, _, o5⟩ := hT'.k hk
        simp only [e_X6_fire_44, e_X6_fire_44n, e_X6_fire_46, e_X6_fire_47, e_X6_fire_50, e_X6_fire_51, e_X6_fire_52, e_X6_fire_55, e_X6_fire_55n, e_X6_fire_57, e_X6_fire_58, e_X6_fire_61, e_X6_fire_62, e_X6_fire_63, e_X6_fire_66, e_X6_fire_66n, e_X6_fire_68, e_X6_fire_71, tand, true_and, and_true, nl1_int, nl1_ref, nl1_null, nl1_ra, cat1_int, cat1_ref, cat1_null, stbs_nil, stbs_cons, stb_int, stb_long, stb_ref, stb_null, stb_ra, alv_nil, alv_cons, alv1_int, alv1_ref, alv1_null, alv1_ra, List.length_nil, List.length_cons, Nat.reduceAdd, Nat.reduceLeDiff, Nat.zero_le, Option.toList_some, Option.toList_none, List.cons_append, List.nil_append, or_true, true_or, or_false, false_or, Nat.reduceEqDiff, not_true_eq_false, not_false_eq_true, false_and, and_false, false_implies, true_implies, implies_true, ne_eq, and_self, ok1, o1, gK_pI, gI_pI_eq, Nat.reduceEqDiff, if_true, if_false, o5 1 (by decide), o5 2 (by decide), nI_add]
        obtain ⟨r1, r2, r3⟩ := up _ _ (((CG.rf hJ' hT').setK hN.big hk (XT_in (by omega) (by omega)) 1 (wK w k 1 + m)).setK hN.big hk (XT_in (by omega) (by omega)) 2 (wK w k 2 + l))
        exact q3 k m l _ hk ev rfl rfl m1 m2 l2 r1 (f1.tr r2)
      · simp only [e_X6_fire_34, e_X6_fire_37, e_X6_fire_39, tand, true_and, and_true, nl1_int, nl1_ref, nl1_null, nl1_ra, cat1_int, cat1_ref, cat1_null, stbs_nil, stbs_cons, stb_int, stb_long, stb_ref, stb_null, stb_ra, alv_nil, alv_cons, alv1_int, alv1_ref, alv1_null, alv1_ra, List.length_nil, List.length_cons, Nat.reduceAdd, Nat.reduceLeDiff, Nat.zero_le, Option.toList_some, Option.toList_none, List.cons_append, List.nil_append, or_true, true_or, or_false, false_or, Nat.reduceEqDiff, not_true_eq_false, not_false_eq_true, false_and, and_false, false_implies, true_implies, implies_true, ne_eq, and_self, ok1, n0z]
        refine q2 k hk ev fun ⟨m', l, em, el, _, _, z⟩ => hn ?_
        rw [nI_eqE (by omega) (by omega)] at em
        exact (nI_range (by omega) (by omega)).mp ⟨l, el, by omega, by omega⟩
    · simp only [e_X6_fire_25, e_X6_fire_37, e_X6_fire_39, tand, true_and, and_true, nl1_int, nl1_ref, nl1_null, nl1_ra, cat1_int, cat1_ref, cat1_null, stbs_nil, stbs_cons, stb_int, stb_long, stb_ref, stb_null, stb_ra, alv_nil, alv_cons, alv1_int, alv1_ref, alv1_null, alv1_ra, List.length_nil, List.length_cons, Nat.reduceAdd, Nat.reduceLeDiff, Nat.zero_le, Option.toList_some, Option.toList_none, List.cons_append, List.nil_append, or_true, true_or, or_false, false_or, Nat.reduceEqDiff, not_true_eq_false, not_false_eq_true, false_and, and_false, false_implies, true_implies, implies_true, ne_eq, and_self, ok1, n0z]
      refine q2 k hk ev fun ⟨m', l, em, el, z1, z2, z⟩ => hn ?_
      exact (nI_range (by omega) (by omega)).mp ⟨m', em, by omega, by omega⟩
  · simp only [e_X6_fire_8, e_X6_fire_8n, e_X6_fire_10, e_X6_fire_10n, e_X6_fire_12, e_X6_fire_12n, e_X6_fire_15, e_X6_fire_16, tand, true_and, and_true, nl1_int, nl1_ref, nl1_null, nl1_ra, cat1_int, cat1_ref, cat1_null, stbs_nil, stbs_cons, stb_int, stb_long, stb_ref, stb_null, stb_ra, alv_nil, alv_cons, alv1_int, alv1_ref, alv1_null, alv1_ra, List.length_nil, List.length_cons, Nat.reduceAdd, Nat.reduceLeDiff, Nat.zero_le, Option.toList_some, Option.toList_none, List.cons_append, List.nil_append, or_true, true_or, or_false, false_or, Nat.reduceEqDiff, not_true_eq_false, not_false_eq_true, false_and, and_false, false_implies, true_implies, implies_true, ne_eq, and_self, ok1]
    exact q1 hno
theorem c_audit {v : Int32} (h : MA g w hist st kept snap t n) (hB : TB w) (hle : ∀ k, k < 6 → wK w k 2 ≤ wK w k 1)
    (q1 : (∀ k, k < 6 → v ≠ nI k) → Q (some (.int (-1))) g)
    (q2 : ∀ k, k < 6 → v = nI k → wK w k 1 - wK w k 2 = 0 → Q (some (.int (-5))) g)
    (q3 : ∀ k m g', k < 6 → v = nI k → m = wK w k 1 - wK w k 2 → m ≠ 0 → MA g' (sK (sK w k 2 (wK w k 2 + m)) k 4 (wK w k 4 + m * wS w 15)) (hcn w hist) (min (st + 1) 4) kept snap t n → MF g g' → Q (some (.int (nI m))) g') : w_X6_audit [.ref 20, .int v] g Q := by
  refine wm_at rfl ⟨trivial, trivial, trivial⟩ (show WP m_X6_audit Q 0 [.ref 20, .int v, .retAddr 0, .retAddr 0] [] g from ?_)
  obtain ⟨N, hN, ⟨a1, a2⟩, hT, hS, hJ, _, _⟩ := h.now
  have k6 := isT.k6 hT
  simp only [e_X6_audit_0, e_X6_audit_1, e_X6_audit_4, e_X6_audit_5, tand, true_and, and_true, nl1_int, nl1_ref, nl1_null, nl1_ra, cat1_int, cat1_ref, cat1_null, stbs_nil, stbs_cons, stb_int, stb_long, stb_ref, stb_null, stb_ra, alv_nil, alv_cons, alv1_int, alv1_ref, alv1_null, alv1_ra, List.length_nil, List.length_cons, Nat.reduceAdd, Nat.reduceLeDiff, Nat.zero_le, Option.toList_some, Option.toList_none, List.cons_append, List.nil_append, or_true, true_or, or_false, false_or, Nat.reduceEqDiff, not_true_eq_false, not_false_eq_true, false_and, and_false, false_implies, true_implies, implies_true, ne_eq, and_self, ok1, a1, a2, hN.z, k6]
  refine c_kilnAt hT (fun k hk ev => ?_) (fun hno => ?_)
  · obtain ⟨⟨kk, _⟩, _, o⟩ := hT.k hk
    have hl := hle k hk
    have f1 := (hB.2.1 k hk).1 1 (by decide)
    simp (disch := omega) only [e_X6_audit_8, e_X6_audit_8n, e_X6_audit_9, e_X6_audit_9n, e_X6_audit_10, e_X6_audit_10n, e_X6_audit_13, e_X6_audit_14, e_X6_audit_15, e_X6_audit_15n, e_X6_audit_16, e_X6_audit_19, e_X6_audit_19n, e_X6_audit_20, e_X6_audit_23, e_X6_audit_24, e_X6_audit_25, e_X6_audit_26, tand, true_and, and_true, nl1_int, nl1_ref, nl1_null, nl1_ra, cat1_int, cat1_ref, cat1_null, stbs_nil, stbs_cons, stb_int, stb_long, stb_ref, stb_null, stb_ra, alv_nil, alv_cons, alv1_int, alv1_ref, alv1_null, alv1_ra, List.length_nil, List.length_cons, Nat.reduceAdd, Nat.reduceLeDiff, Nat.zero_le, Option.toList_some, Option.toList_none, List.cons_append, List.nil_append, or_true, true_or, or_false, false_or, Nat.reduceEqDiff, not_true_eq_false, not_false_eq_true, false_and, and_false, false_implies, true_implies, implies_true, ne_eq, and_self, ok1, a1, kk, o 1 (by decide), o 2 (by decide), pk_sub hl, nI_eq0]
    refine ⟨fun hne => ?_, fun he => ?_⟩
    · simp only [e_X6_audit_32, e_X6_audit_33, tand, true_and, and_true, nl1_int, nl1_ref, nl1_null, nl1_ra, cat1_int, cat1_ref, cat1_null, stbs_nil, stbs_cons, stb_int, stb_long, stb_ref, stb_null, stb_ra, alv_nil, alv_cons, alv1_int, alv1_ref, alv1_null, alv1_ra, List.length_nil, List.length_cons, Nat.reduceAdd, Nat.reduceLeDiff, Nat.zero_le, Option.toList_some, Option.toList_none, List.cons_append, List.nil_append, or_true, true_or, or_false, false_or, Nat.reduceEqDiff, not_true_eq_false, not_false_eq_true, false_and, and_false, false_implies, true_implies, implies_true, ne_eq, and_self, ok1, a1, kk]
      refine c_record h fun g1 h1' f1 e1 => ?_
      obtain ⟨N', hN', ⟨b1, b2⟩, hT', hS', hJ', _, up⟩ := h1'.now
      have eN : N' = N := b2.symm.trans (e1.trans a2)
      subst eN
      obtain ⟨⟨o1, o2⟩, _, o5⟩ := hT'.k hk
      obtain ⟨⟨p1, p2, p3, p4⟩, ⟨p5, p6⟩, _, _⟩ := hT'.pl
      have s4 : gI g1 (N' + 1) 4 = nI (wS w 15) := hT'.2.2.1 4 (by decide)
      have zN1 : N' + 1 ≠ 0 := by omega
      have zx : N' + 1 ≠ N' + 4 + 3 * k := by omega
      have l4 : (4 < 5) = True := propext ⟨fun _ => trivial, fun _ => by decide⟩
      generalize hm : wK w k 1 - wK w k 2 = m at *
      simp (disch := omega) only [e_X6_audit_36, e_X6_audit_36n, e_X6_audit_37, e_X6_audit_38, e_X6_audit_41, e_X6_audit_42, e_X6_audit_43, e_X6_audit_46, e_X6_audit_46n, e_X6_audit_47, e_X6_audit_48, e_X6_audit_51, e_X6_audit_52, e_X6_audit_53, e_X6_audit_56, e_X6_audit_59, e_X6_audit_60, e_X6_audit_61, e_X6_audit_62, e_X6_audit_63, e_X6_audit_66, e_X6_audit_67, tand, true_and, and_true, nl1_int, nl1_ref, nl1_null, nl1_ra, cat1_int, cat1_ref, cat1_null, stbs_nil, stbs_cons, stb_int, stb_long, stb_ref, stb_null, stb_ra, alv_nil, alv_cons, alv1_int, alv1_ref, alv1_null, alv1_ra, List.length_nil, List.length_cons, Nat.reduceAdd, Nat.reduceLeDiff, Nat.zero_le, Option.toList_some, Option.toList_none, List.cons_append, List.nil_append, or_true, true_or, or_false, false_or, Nat.reduceEqDiff, not_true_eq_false, not_false_eq_true, false_and, and_false, false_implies, true_implies, implies_true, ne_eq, and_self, ok1, o1, gK_pI, gN_pI, gR_pI, gI_pI_eq, gI_pI_ne zx, Nat.reduceEqDiff, if_true, if_false, o5 2 (by decide), o5 4 (by decide), nI_add, pk_mul, b1, b2, hN.z, p1, p2, p5, p6, isIA, nI_vp, nI_clamp, l4, s4, zN1]
      obtain ⟨r1, r2, r3⟩ := up _ _ (((CG.rf hJ' hT').setK hN.big hk (XT_in (by omega) (by omega)) 2 (wK w k 2 + m)).setK hN.big hk (XT_in (by omega) (by omega)) 4 (wK w k 4 + m * wS w 15))
      exact q3 k m _ hk ev hm.symm hne r1 (f1.tr r2)
    · simp only [e_X6_audit_29, e_X6_audit_31, tand, true_and, and_true, nl1_int, nl1_ref, nl1_null, nl1_ra, cat1_int, cat1_ref, cat1_null, stbs_nil, stbs_cons, stb_int, stb_long, stb_ref, stb_null, stb_ra, alv_nil, alv_cons, alv1_int, alv1_ref, alv1_null, alv1_ra, List.length_nil, List.length_cons, Nat.reduceAdd, Nat.reduceLeDiff, Nat.zero_le, Option.toList_some, Option.toList_none, List.cons_append, List.nil_append, or_true, true_or, or_false, false_or, Nat.reduceEqDiff, not_true_eq_false, not_false_eq_true, false_and, and_false, false_implies, true_implies, implies_true, ne_eq, and_self, ok1]
      exact q2 k hk ev (by omega)
  · simp only [e_X6_audit_8, e_X6_audit_8n, e_X6_audit_9, e_X6_audit_9n, e_X6_audit_10, e_X6_audit_10n, e_X6_audit_13, e_X6_audit_14, tand, true_and, and_true, nl1_int, nl1_ref, nl1_null, nl1_ra, cat1_int, cat1_ref, cat1_null, stbs_nil, stbs_cons, stb_int, stb_long, stb_ref, stb_null, stb_ra, alv_nil, alv_cons, alv1_int, alv1_ref, alv1_null, alv1_ra, List.length_nil, List.length_cons, Nat.reduceAdd, Nat.reduceLeDiff, Nat.zero_le, Option.toList_some, Option.toList_none, List.cons_append, List.nil_append, or_true, true_or, or_false, false_or, Nat.reduceEqDiff, not_true_eq_false, not_false_eq_true, false_and, and_false, false_implies, true_implies, implies_true, ne_eq, and_self, ok1]
    exact q1 hno
theorem c_endYear (h : MA g w hist st kept snap t n) (hB : ∀ k, k < 6 → ssB w k) (hy : wS w 0 < 1000)
    (q1 : 999 ≤ wS w 0 → Q (some (.int (-3))) g)
    (q2 : ∀ g', wS w 0 < 999 → MA g' (opYear w) (hcn w hist) (min (st + 1) 4) kept snap t n → MF g g' → Q (some (.int (nI (sm (lkN w) 6)))) g') : w_X6_endYear [.ref 20] g Q := by
  refine wm_at rfl ⟨trivial, trivial⟩ (show WP m_X6_endYear Q 0 [.ref 20] [] g from ?_)
  obtain ⟨N, hN, ⟨a1, a2⟩, hT, hS, hJ, _, _⟩ := h.now
  have k6 := isT.k6 hT
  simp (disch := omega) only [e_X6_endYear_0, e_X6_endYear_1, e_X6_endYear_4, e_X6_endYear_7, e_X6_endYear_10, tand, true_and, and_true, nl1_int, nl1_ref, nl1_null, nl1_ra, cat1_int, cat1_ref, cat1_null, stbs_nil, stbs_cons, stb_int, stb_long, stb_ref, stb_null, stb_ra, alv_nil, alv_cons, alv1_int, alv1_ref, alv1_null, alv1_ra, List.length_nil, List.length_cons, Nat.reduceAdd, Nat.reduceLeDiff, Nat.zero_le, Option.toList_some, Option.toList_none, List.cons_append, List.nil_append, or_true, true_or, or_false, false_or, Nat.reduceEqDiff, not_true_eq_false, not_false_eq_true, false_and, and_false, false_implies, true_implies, implies_true, ne_eq, and_self, ok1, a1, a2, hN.z, k6, hT.2.1 0 (by decide), nI_ltE]
  refine ⟨fun h1 => ?_, fun h1 => ?_⟩
  · simp only [e_X6_endYear_16, e_X6_endYear_17, tand, true_and, and_true, nl1_int, nl1_ref, nl1_null, nl1_ra, cat1_int, cat1_ref, cat1_null, stbs_nil, stbs_cons, stb_int, stb_long, stb_ref, stb_null, stb_ra, alv_nil, alv_cons, alv1_int, alv1_ref, alv1_null, alv1_ra, List.length_nil, List.length_cons, Nat.reduceAdd, Nat.reduceLeDiff, Nat.zero_le, Option.toList_some, Option.toList_none, List.cons_append, List.nil_append, or_true, true_or, or_false, false_or, Nat.reduceEqDiff, not_true_eq_false, not_false_eq_true, false_and, and_false, false_implies, true_implies, implies_true, ne_eq, and_self, ok1, a1]
    refine c_record h fun g1 h1' f1 e1 => ?_
    obtain ⟨N', hN', ⟨b1, b2⟩, hT', hS', hJ', _, up⟩ := h1'.now
    have k6' := isT.k6 hT'
    simp only [e_X6_endYear_20, e_X6_endYear_21, e_X6_endYear_24, tand, true_and, and_true, nl1_int, nl1_ref, nl1_null, nl1_ra, cat1_int, cat1_ref, cat1_null, stbs_nil, stbs_cons, stb_int, stb_long, stb_ref, stb_null, stb_ra, alv_nil, alv_cons, alv1_int, alv1_ref, alv1_null, alv1_ra, List.length_nil, List.length_cons, Nat.reduceAdd, Nat.reduceLeDiff, Nat.zero_le, Option.toList_some, Option.toList_none, List.cons_append, List.nil_append, or_true, true_or, or_false, false_or, Nat.reduceEqDiff, not_true_eq_false, not_false_eq_true, false_and, and_false, false_implies, true_implies, implies_true, ne_eq, and_self, ok1, b1, b2, hN'.z, k6']
    refine c_closeYear hN' hT' hB hS' hJ' fun g2 C2 => ?_
    obtain ⟨r1, r2, r3⟩ := up g2 _ C2
    simp only [e_X6_endYear_27, tand, true_and, and_true, nl1_int, nl1_ref, nl1_null, nl1_ra, cat1_int, cat1_ref, cat1_null, stbs_nil, stbs_cons, stb_int, stb_long, stb_ref, stb_null, stb_ra, alv_nil, alv_cons, alv1_int, alv1_ref, alv1_null, alv1_ra, List.length_nil, List.length_cons, Nat.reduceAdd, Nat.reduceLeDiff, Nat.zero_le, Option.toList_some, Option.toList_none, List.cons_append, List.nil_append, or_true, true_or, or_false, false_or, Nat.reduceEqDiff, not_true_eq_false, not_false_eq_true, false_and, and_false, false_implies, true_implies, implies_true, ne_eq, and_self, ok1]
    exact q2 g2 h1 r1 (f1.tr r2)
  · simp only [e_X6_endYear_13, e_X6_endYear_15, tand, true_and, and_true, nl1_int, nl1_ref, nl1_null, nl1_ra, cat1_int, cat1_ref, cat1_null, stbs_nil, stbs_cons, stb_int, stb_long, stb_ref, stb_null, stb_ra, alv_nil, alv_cons, alv1_int, alv1_ref, alv1_null, alv1_ra, List.length_nil, List.length_cons, Nat.reduceAdd, Nat.reduceLeDiff, Nat.zero_le, Option.toList_some, Option.toList_none, List.cons_append, List.nil_append, or_true, true_or, or_false, false_or, Nat.reduceEqDiff, not_true_eq_false, not_false_eq_true, false_and, and_false, false_implies, true_implies, implies_true, ne_eq, and_self, ok1]
    exact q1 (by omega)
end Act
