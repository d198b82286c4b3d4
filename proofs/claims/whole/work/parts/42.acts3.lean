/-! ===== the main object: history, texts ===== -/
section Act3
variable {st kept n : Nat} {t : Nat → Nat} {Q : mQ} {g : mG} {w snap : Rw} {hist : Nat → Rw}
theorem c_takeBack {v : Int32} (h : MA g w hist st kept snap t n) (hB : TB w)
    (q1 : (∀ i, i < 17 → 0 < wF w i 3 → v ≠ nI (wF w i 0)) → Q (some (.int (-1))) g)
    (q2 : ∀ i g', i < 17 → 0 < wF w i 3 → v = nI (wF w i 0) → MA g' (opGive w i) (hcn w hist) (min (st + 1) 4) kept snap t n → MF g g' → Q (some (.int (nI (wF w i 3)))) g') : w_X6_takeBack [.ref 20, .int v] g Q := by
  refine wm_at rfl ⟨trivial, trivial, trivial⟩ (show WP m_X6_takeBack Q 0 [.ref 20, .int v, .retAddr 0, .retAddr 0] [] g from ?_)
  obtain ⟨N, hN, ⟨a1, a2⟩, hT, hS, hJ, _, _⟩ := h.now
  have k6 := isT.k6 hT
  simp only [e_X6_takeBack_0, e_X6_takeBack_1, e_X6_takeBack_4, e_X6_takeBack_5, tand, true_and, and_true, nl1_int, nl1_ref, nl1_null, nl1_ra, cat1_int, cat1_ref, cat1_null, stbs_nil, stbs_cons, stb_int, stb_long, stb_ref, stb_null, stb_ra, alv_nil, alv_cons, alv1_int, alv1_ref, alv1_null, alv1_ra, List.length_nil, List.length_cons, Nat.reduceAdd, Nat.reduceLeDiff, Nat.zero_le, Option.toList_some, Option.toList_none, List.cons_append, List.nil_append, or_true, true_or, or_false, false_or, Nat.reduceEqDiff, not_true_eq_false, not_false_eq_true, false_and, and_false, false_implies, true_implies, implies_true, ne_eq, and_self, ok1, a1, a2, hN.z, k6]
  refine c_standingWith hT hB (fun i hi h0 ev => ?_) (fun hno => ?_)
  · have oo := (hT.o hi).1.1
    simp only [e_X6_takeBack_8, e_X6_takeBack_8n, e_X6_takeBack_9, e_X6_takeBack_9n, e_X6_takeBack_10, e_X6_takeBack_10n, e_X6_takeBack_13, e_X6_takeBack_14, e_X6_takeBack_15, e_X6_takeBack_16, tand, true_and, and_true, nl1_int, nl1_ref, nl1_null, nl1_ra, cat1_int, cat1_ref, cat1_null, stbs_nil, stbs_cons, stb_int, stb_long, stb_ref, stb_null, stb_ra, alv_nil, alv_cons, alv1_int, alv1_ref, alv1_null, alv1_ra, List.length_nil, List.length_cons, Nat.reduceAdd, Nat.reduceLeDiff, Nat.zero_le, Option.toList_some, Option.toList_none, List.cons_append, List.nil_append, or_true, true_or, or_false, false_or, Nat.reduceEqDiff, not_true_eq_false, not_false_eq_true, false_and, and_false, false_implies, true_implies, implies_true, ne_eq, and_self, ok1, a1, oo]
    refine c_record h fun g1 h1' f1 e1 => ?_
    obtain ⟨N', hN', ⟨b1, b2⟩, hT', hS', hJ', _, up⟩ := h1'.now
    have eN : N' = N := b2.symm.trans (e1.trans a2)
    subst eN
    have k6' := isT.k6 hT'
    obtain ⟨⟨o1, _⟩, _, o5⟩ := hT'.o hi
    simp only [e_X6_takeBack_19, e_X6_takeBack_19n, e_X6_takeBack_20, e_X6_takeBack_23, e_X6_takeBack_24, e_X6_takeBack_25, e_X6_takeBack_28, e_X6_takeBack_28n, e_X6_takeBack_29, tand, true_and, and_true, nl1_int, nl1_ref, nl1_null, nl1_ra, cat1_int, cat1_ref, cat1_null, stbs_nil, stbs_cons, stb_int, stb_long, stb_ref, stb_null, stb_ra, alv_nil, alv_cons, alv1_int, alv1_ref, alv1_null, alv1_ra, List.length_nil, List.length_cons, Nat.reduceAdd, Nat.reduceLeDiff, Nat.zero_le, Option.toList_some, Option.toList_none, List.cons_append, List.nil_append, or_true, true_or, or_false, false_or, Nat.reduceEqDiff, not_true_eq_false, not_false_eq_true, false_and, and_false, false_implies, true_implies, implies_true, ne_eq, and_self, ok1, b1, b2, hN.z, k6', o1, o5 3 (by decide)]
    refine c_giveBack hN hT' hB hi hS' hJ' fun g2 C2 => ?_
    obtain ⟨r1, r2, r3⟩ := up g2 _ C2
    simp only [e_X6_takeBack_32, e_X6_takeBack_33, tand, true_and, and_true, nl1_int, nl1_ref, nl1_null, nl1_ra, cat1_int, cat1_ref, cat1_null, stbs_nil, stbs_cons, stb_int, stb_long, stb_ref, stb_null, stb_ra, alv_nil, alv_cons, alv1_int, alv1_ref, alv1_null, alv1_ra, List.length_nil, List.length_cons, Nat.reduceAdd, Nat.reduceLeDiff, Nat.zero_le, Option.toList_some, Option.toList_none, List.cons_append, List.nil_append, or_true, true_or, or_false, false_or, Nat.reduceEqDiff, not_true_eq_false, not_false_eq_true, false_and, and_false, false_implies, true_implies, implies_true, ne_eq, and_self, ok1]
    exact q2 i g2 hi h0 ev r1 (f1.tr r2)
  · simp only [e_X6_takeBack_8, e_X6_takeBack_8n, e_X6_takeBack_9, e_X6_takeBack_9n, e_X6_takeBack_10, e_X6_takeBack_10n, e_X6_takeBack_13, e_X6_takeBack_14, tand, true_and, and_true, nl1_int, nl1_ref, nl1_null, nl1_ra, cat1_int, cat1_ref, cat1_null, stbs_nil, stbs_cons, stb_int, stb_long, stb_ref, stb_null, stb_ra, alv_nil, alv_cons, alv1_int, alv1_ref, alv1_null, alv1_ra, List.length_nil, List.length_cons, Nat.reduceAdd, Nat.reduceLeDiff, Nat.zero_le, Option.toList_some, Option.toList_none, List.cons_append, List.nil_append, or_true, true_or, or_false, false_or, Nat.reduceEqDiff, not_true_eq_false, not_false_eq_true, false_and, and_false, false_implies, true_implies, implies_true, ne_eq, and_self, ok1]
    exact q1 hno
theorem isT300 : isT 300 := ⟨2, by decide, rfl⟩
theorem c_restore (h : MA g w hist st kept snap t n) (q1 : kept = 0 → Q (some (.int (-5))) g)
    (q2 : ∀ g', kept = 1 → MA g' snap (hcn w hist) (min (st + 1) 4) kept snap t n → MF g g' → Q (some (.int (nI (wS snap 0)))) g') : w_X6_restore [.ref 20] g Q := by
  refine wm_at rfl ⟨trivial, trivial⟩ (show WP m_X6_restore Q 0 [.ref 20] [] g from ?_)
  obtain ⟨W0, N0, S0, H0, hM0, _⟩ := id h
  have a1 := hM0.1.1
  have i3 := hM0.2.1.1
  have hk1 := hM0.2.1.2.2.1
  simp (disch := omega) only [e_X6_restore_0, e_X6_restore_1, e_X6_restore_4, tand, true_and, and_true, nl1_int, nl1_ref, nl1_null, nl1_ra, cat1_int, cat1_ref, cat1_null, stbs_nil, stbs_cons, stb_int, stb_long, stb_ref, stb_null, stb_ra, alv_nil, alv_cons, alv1_int, alv1_ref, alv1_null, alv1_ra, List.length_nil, List.length_cons, Nat.reduceAdd, Nat.reduceLeDiff, Nat.zero_le, Option.toList_some, Option.toList_none, List.cons_append, List.nil_append, or_true, true_or, or_false, false_or, Nat.reduceEqDiff, not_true_eq_false, not_false_eq_true, false_and, and_false, false_implies, true_implies, implies_true, ne_eq, and_self, ok1, a1, i3, nI_eq0]
  refine ⟨fun h1 => ?_, fun h1 => ?_⟩
  · simp only [e_X6_restore_10, e_X6_restore_11, tand, true_and, and_true, nl1_int, nl1_ref, nl1_null, nl1_ra, cat1_int, cat1_ref, cat1_null, stbs_nil, stbs_cons, stb_int, stb_long, stb_ref, stb_null, stb_ra, alv_nil, alv_cons, alv1_int, alv1_ref, alv1_null, alv1_ra, List.length_nil, List.length_cons, Nat.reduceAdd, Nat.reduceLeDiff, Nat.zero_le, Option.toList_some, Option.toList_none, List.cons_append, List.nil_append, or_true, true_or, or_false, false_or, Nat.reduceEqDiff, not_true_eq_false, not_false_eq_true, false_and, and_false, false_implies, true_implies, implies_true, ne_eq, and_self, ok1, a1]
    refine c_record h fun g1 h1' f1 e1 => ?_
    obtain ⟨W, N, S, H, hM, x1, x2, x3⟩ := h1'
    obtain ⟨⟨b1, b2, b3, b4, b5, b6⟩, ⟨c1, c2, c3, c4⟩, _, d, p, x, y, z, u⟩ := id hM
    obtain ⟨p1, p2, p3, ⟨p4, p5, p6⟩, p7, p8⟩ := p
    have hk : kept = 1 := by omega
    have d3 := d 300 isT300
    rw [x3 hk] at d3
    have k6 := isT.k6 (d N p1)
    have k63 := isT.k6 d3
    have z3 : (300 : Nat) ≠ 0 := by decide
    simp (disch := omega) only [e_X6_restore_14, e_X6_restore_15, e_X6_restore_18, e_X6_restore_19, e_X6_restore_22, tand, true_and, and_true, nl1_int, nl1_ref, nl1_null, nl1_ra, cat1_int, cat1_ref, cat1_null, stbs_nil, stbs_cons, stb_int, stb_long, stb_ref, stb_null, stb_ra, alv_nil, alv_cons, alv1_int, alv1_ref, alv1_null, alv1_ra, List.length_nil, List.length_cons, Nat.reduceAdd, Nat.reduceLeDiff, Nat.zero_le, Option.toList_some, Option.toList_none, List.cons_append, List.nil_append, or_true, true_or, or_false, false_or, Nat.reduceEqDiff, not_true_eq_false, not_false_eq_true, false_and, and_false, false_implies, true_implies, implies_true, ne_eq, and_self, ok1, b1, b2, b4, p1.z, z3, k6]
    refine c_X5_copyFrom p1 isT300 p4 (d N p1) d3 y z fun g2 C2 => ?_
    have hM2 := hM.town p1 C2
    have k62 := isT.k6 C2.2.2
    have c20 := hM2.1.1
    have r20 := hM2.1.2.1
    simp (disch := omega) only [e_X6_restore_25, e_X6_restore_26, e_X6_restore_29, e_X6_restore_32, tand, true_and, and_true, nl1_int, nl1_ref, nl1_null, nl1_ra, cat1_int, cat1_ref, cat1_null, stbs_nil, stbs_cons, stb_int, stb_long, stb_ref, stb_null, stb_ra, alv_nil, alv_cons, alv1_int, alv1_ref, alv1_null, alv1_ra, List.length_nil, List.length_cons, Nat.reduceAdd, Nat.reduceLeDiff, Nat.zero_le, Option.toList_some, Option.toList_none, List.cons_append, List.nil_append, or_true, true_or, or_false, false_or, Nat.reduceEqDiff, not_true_eq_false, not_false_eq_true, false_and, and_false, false_implies, true_implies, implies_true, ne_eq, and_self, ok1, c20, r20, p1.z, k62, C2.2.2.2.1 0 (by decide)]
    refine q2 g2 hk ⟨_, _, _, _, hM2, by unfold uW; rw [if_pos rfl], fun j hj => ?_, fun _ => ?_⟩ (f1.tr (C2.1.mf fun b hb => XT_mK p1.big hb))
    · unfold uW
      rw [if_neg (p7 j (by omega)).2.1]; exact x2 j hj
    · unfold uW
      rw [if_neg (Ne.symm p4)]; exact x3 hk
  · simp only [e_X6_restore_7, e_X6_restore_9, tand, true_and, and_true, nl1_int, nl1_ref, nl1_null, nl1_ra, cat1_int, cat1_ref, cat1_null, stbs_nil, stbs_cons, stb_int, stb_long, stb_ref, stb_null, stb_ra, alv_nil, alv_cons, alv1_int, alv1_ref, alv1_null, alv1_ra, List.length_nil, List.length_cons, Nat.reduceAdd, Nat.reduceLeDiff, Nat.zero_le, Option.toList_some, Option.toList_none, List.cons_append, List.nil_append, or_true, true_or, or_false, false_or, Nat.reduceEqDiff, not_true_eq_false, not_false_eq_true, false_and, and_false, false_implies, true_implies, implies_true, ne_eq, and_self, ok1]
    exact q1 (by omega)
theorem c_keep (h : MA g w hist st kept snap t n) (q : ∀ g', MA g' w hist st 1 w t n → MF g g' → Q (some (.int (nI (wS w 0)))) g') : w_X6_keep [.ref 20] g Q := by
  refine wm_at rfl ⟨trivial, trivial⟩ (show WP m_X6_keep Q 0 [.ref 20] [] g from ?_)
  obtain ⟨W, N, S, H, hM, x1, x2, x3⟩ := id h
  obtain ⟨⟨b1, b2, b3, b4, b5, b6⟩, ⟨c1, c2, c3, c4⟩, _, d, p, x, y, z, u⟩ := id hM
  obtain ⟨p1, p2, p3, ⟨p4, p5, p6⟩, p7, p8⟩ := p
  have k6 := isT.k6 (d N p1)
  have k63 := isT.k6 (d 300 isT300)
  have z3 : (300 : Nat) ≠ 0 := by decide
  simp (disch := omega) only [e_X6_keep_0, e_X6_keep_1, e_X6_keep_4, e_X6_keep_5, e_X6_keep_8, tand, true_and, and_true, nl1_int, nl1_ref, nl1_null, nl1_ra, cat1_int, cat1_ref, cat1_null, stbs_nil, stbs_cons, stb_int, stb_long, stb_ref, stb_null, stb_ra, alv_nil, alv_cons, alv1_int, alv1_ref, alv1_null, alv1_ra, List.length_nil, List.length_cons, Nat.reduceAdd, Nat.reduceLeDiff, Nat.zero_le, Option.toList_some, Option.toList_none, List.cons_append, List.nil_append, or_true, true_or, or_false, false_or, Nat.reduceEqDiff, not_true_eq_false, not_false_eq_true, false_and, and_false, false_implies, true_implies, implies_true, ne_eq, and_self, ok1, b1, b2, b4, p1.z, z3, k63]
  refine c_X5_copyFrom isT300 p1 (Ne.symm p4) (d 300 isT300) (d N p1) y z fun g1 C1 => ?_
  have hM1 := hM.town isT300 C1
  obtain ⟨⟨b1', b2', b3', b4', b5', b6'⟩, ⟨c1', c2', c3', c4'⟩, e', d', p', x', y', z', u'⟩ := id hM1
  have dN := d' N p1
  have eN : uW W 300 (W N) N = w := by unfold uW; rw [if_neg p4]; exact x1
  rw [eN] at dN
  have kN := isT.k6 dN
  have zN : N ≠ 20 := by have := p1.big; omega
  simp (disch := omega) only [e_X6_keep_11, e_X6_keep_12, e_X6_keep_13, e_X6_keep_16, e_X6_keep_17, e_X6_keep_20, e_X6_keep_23, tand, true_and, and_true, nl1_int, nl1_ref, nl1_null, nl1_ra, cat1_int, cat1_ref, cat1_null, stbs_nil, stbs_cons, stb_int, stb_long, stb_ref, stb_null, stb_ra, alv_nil, alv_cons, alv1_int, alv1_ref, alv1_null, alv1_ra, List.length_nil, List.length_cons, Nat.reduceAdd, Nat.reduceLeDiff, Nat.zero_le, Option.toList_some, Option.toList_none, List.cons_append, List.nil_append, or_true, true_or, or_false, false_or, Nat.reduceEqDiff, not_true_eq_false, not_false_eq_true, false_and, and_false, false_implies, true_implies, implies_true, ne_eq, and_self, ok1, b1', b2', gK_pI, gR_pI, gI_pI_ne zN, p1.z, kN, dN.2.1 0 (by decide), bE1]
  have F := (F20.rf (g := g1)).pI 3 (nI 1)
  refine q _ ⟨uW W 300 (W N), N, S, H, ⟨⟨b1', b2', b3', b4', b5', b6'⟩, ⟨rfl, c2', by decide, c4'⟩, e', fun T hT => (d' T hT).far hT.big F, p', x'.far F, y', z'.pI, u'.far F.1 (fun b _ _ => F.2.1 b) (fun b _ _ => F.2.2.1 b (by omega))⟩, eN, fun j hj => ?_, fun _ => ?_⟩ ((C1.1.mf fun b hb => XT_mK (by decide) hb).tr F.mf)
  · unfold uW
    rw [if_neg (p7 j (by omega)).1]; exact x2 j hj
  · unfold uW
    rw [if_pos rfl]; exact x1
theorem c_type {c : Nat} (h : MA g w hist st kept snap t n) (hc : c < 65536) (hn : narrow .char (.int (nI c)) = .int (nI c))
    (q1 : ¬ n < 60 → Q (some (.int (-3))) g)
    (q2 : ∀ g', n < 60 → MA g' w hist st kept snap (u1 t n c) (n + 1) → MF g g' → Q (some (.int (nI (n + 1)))) g') : w_X6_type [.ref 20, .int (nI c)] g Q := by
  refine wm_at rfl ⟨trivial, trivial, trivial⟩ (show WP m_X6_type Q 0 [.ref 20, .int (nI c)] [] g from ?_)
  obtain ⟨W, N, S, H, hM, x1, x2, x3⟩ := id h
  obtain ⟨⟨b1, b2, b3, b4, b5, b6⟩, ⟨c1, c2, c3, c4⟩, e, d, p, x, y, z, u⟩ := id hM
  obtain ⟨⟨a1, a2, a3⟩, ⟨k1, k2⟩, ⟨k3, k4⟩, l, m1, m2, m3⟩ := id x
  have z22 : (22 : Nat) ≠ 0 := by decide
  have z23 : (23 : Nat) ≠ 0 := by decide
  simp (disch := omega) only [e_X6_type_0, e_X6_type_1, e_X6_type_4, e_X6_type_5, tand, true_and, and_true, nl1_int, nl1_ref, nl1_null, nl1_ra, cat1_int, cat1_ref, cat1_null, stbs_nil, stbs_cons, stb_int, stb_long, stb_ref, stb_null, stb_ra, alv_nil, alv_cons, alv1_int, alv1_ref, alv1_null, alv1_ra, List.length_nil, List.length_cons, Nat.reduceAdd, Nat.reduceLeDiff, Nat.zero_le, Option.toList_some, Option.toList_none, List.cons_append, List.nil_append, or_true, true_or, or_false, false_or, Nat.reduceEqDiff, not_true_eq_false, not_false_eq_true, false_and, and_false, false_implies, true_implies, implies_true, ne_eq, and_self, ok1, b1, b6, z22, a1]
  refine wm_at rfl ⟨trivial, trivial, trivial⟩ (show WP m_X3_append _ 0 [.ref 22, .int (nI c)] [] g from ?_)
  simp (disch := omega) only [e_X3_append_0, e_X3_append_1, e_X3_append_4, e_X3_append_7, e_X3_append_8, e_X3_append_11, e_X3_append_12, e_X3_append_15, e_X3_append_16, e_X3_append_19, e_X3_append_20, tand, true_and, and_true, nl1_int, nl1_ref, nl1_null, nl1_ra, cat1_int, cat1_ref, cat1_null, stbs_nil, stbs_cons, stb_int, stb_long, stb_ref, stb_null, stb_ra, alv_nil, alv_cons, alv1_int, alv1_ref, alv1_null, alv1_ra, List.length_nil, List.length_cons, Nat.reduceAdd, Nat.reduceLeDiff, Nat.zero_le, Option.toList_some, Option.toList_none, List.cons_append, List.nil_append, or_true, true_or, or_false, false_or, Nat.reduceEqDiff, not_true_eq_false, not_false_eq_true, false_and, and_false, false_implies, true_implies, implies_true, ne_eq, and_self, ok1, a1, a2, m1, z23, k1, k2, nI_lt0, nI_ltE]
  refine ⟨fun h1 => ?_, fun h1 => ?_⟩
  · have h22 : (22 : Nat) ≠ 23 := by decide
    simp (disch := omega) only [e_X3_append_21, e_X3_append_22, e_X3_append_25, e_X3_append_26, e_X3_append_29, e_X3_append_30, e_X3_append_31, e_X3_append_32, e_X3_append_33, e_X3_append_36, e_X3_append_37, e_X3_append_38, e_X3_append_41, e_X3_append_42, tand, true_and, and_true, nl1_int, nl1_ref, nl1_null, nl1_ra, cat1_int, cat1_ref, cat1_null, stbs_nil, stbs_cons, stb_int, stb_long, stb_ref, stb_null, stb_ra, alv_nil, alv_cons, alv1_int, alv1_ref, alv1_null, alv1_ra, List.length_nil, List.length_cons, Nat.reduceAdd, Nat.reduceLeDiff, Nat.zero_le, Option.toList_some, Option.toList_none, List.cons_append, List.nil_append, or_true, true_or, or_false, false_or, Nat.reduceEqDiff, not_true_eq_false, not_false_eq_true, false_and, and_false, false_implies, true_implies, implies_true, ne_eq, and_self, ok1, a1, a2, m1, z23, k1, k2, nI_vp, nI_clamp, h1, hn, gK_pI, gI_pI_ne h22, nI_add]
    refine ⟨by decide, ?_⟩
    simp (disch := omega) only [e_X6_type_8, e_X6_type_11, e_X6_type_12, e_X6_type_15, e_X6_type_18, e_X6_type_21, e_X6_type_23, tand, true_and, and_true, nl1_int, nl1_ref, nl1_null, nl1_ra, cat1_int, cat1_ref, cat1_null, stbs_nil, stbs_cons, stb_int, stb_long, stb_ref, stb_null, stb_ra, alv_nil, alv_cons, alv1_int, alv1_ref, alv1_null, alv1_ra, List.length_nil, List.length_cons, Nat.reduceAdd, Nat.reduceLeDiff, Nat.zero_le, Option.toList_some, Option.toList_none, List.cons_append, List.nil_append, or_true, true_or, or_false, false_or, Nat.reduceEqDiff, not_true_eq_false, not_false_eq_true, false_and, and_false, false_implies, true_implies, implies_true, ne_eq, and_self, ok1, n1z, b1, b6, z22, a1, gK_pI, gR_pI, gI_pI_eq, if_true]
    have F : Fr (fun b => b = 22 ∨ b = 23) g (pI (pI g 23 n (nI c)) 22 1 (nI (n + 1))) := (Fr.pI (Or.inr rfl)).tr (Fr.pI (Or.inl rfl))
    have x' : TxR (pI (pI g 23 n (nI c)) 22 1 (nI (n + 1))) (u1 t n c) (n + 1) := by
      refine ⟨⟨a1, a2, a3⟩, ⟨k1, k2⟩, ⟨k3, k4⟩, l, by rw [gI_pI_eq, if_pos rfl], by omega, fun j hj => ?_⟩
      rw [gI_pI_ne (by decide), gI_pI_eq]
      unfold u1
      by_cases hjn : j = n
      · rw [if_pos hjn, if_pos hjn]; exact ⟨rfl, hc⟩
      · rw [if_neg hjn, if_neg hjn]; exact m3 j (by omega)
    refine q2 _ h1 ⟨W, N, S, H, hM.fr F (fun b h1 h2 h9 z => by omega) (fun T hT => (d T hT).fr F hT.big fun b b1 b2 z => ?_) x' z.pI.pI, x1, x2, x3⟩ (F.mf fun b hb z => by unfold mK at hb; omega)
    have := hT.big
    omega
  · simp (disch := omega) only [e_X6_type_8, e_X6_type_21, e_X6_type_23, tand, true_and, and_true, nl1_int, nl1_ref, nl1_null, nl1_ra, cat1_int, cat1_ref, cat1_null, stbs_nil, stbs_cons, stb_int, stb_long, stb_ref, stb_null, stb_ra, alv_nil, alv_cons, alv1_int, alv1_ref, alv1_null, alv1_ra, List.length_nil, List.length_cons, Nat.reduceAdd, Nat.reduceLeDiff, Nat.zero_le, Option.toList_some, Option.toList_none, List.cons_append, List.nil_append, or_true, true_or, or_false, false_or, Nat.reduceEqDiff, not_true_eq_false, not_false_eq_true, false_and, and_false, false_implies, true_implies, implies_true, ne_eq, and_self, ok1, n0z]
    exact q1 h1
theorem c_clearText (h : MA g w hist st kept snap t n) (q : ∀ g', MA g' w hist st kept snap t 0 → MF g g' → Q (some (.int (nI n))) g') : w_X6_clearText [.ref 20] g Q := by
  refine wm_at rfl ⟨trivial, trivial⟩ (show WP m_X6_clearText Q 0 [.ref 20, .retAddr 0] [] g from ?_)
  obtain ⟨W, N, S, H, hM, x1, x2, x3⟩ := id h
  obtain ⟨⟨b1, b2, b3, b4, b5, b6⟩, ⟨c1, c2, c3, c4⟩, e, d, p, x, y, z, u⟩ := id hM
  obtain ⟨⟨a1, a2, a3⟩, ⟨k1, k2⟩, ⟨k3, k4⟩, l, m1, m2, m3⟩ := id x
  have z22 : (22 : Nat) ≠ 0 := by decide
  simp (disch := omega) only [e_X6_clearText_0, e_X6_clearText_1, e_X6_clearText_4, e_X6_clearText_7, e_X6_clearText_8, e_X6_clearText_9, e_X6_clearText_12, e_X6_clearText_13, e_X6_clearText_16, e_X6_clearText_17, tand, true_and, and_true, nl1_int, nl1_ref, nl1_null, nl1_ra, cat1_int, cat1_ref, cat1_null, stbs_nil, stbs_cons, stb_int, stb_long, stb_ref, stb_null, stb_ra, alv_nil, alv_cons, alv1_int, alv1_ref, alv1_null, alv1_ra, List.length_nil, List.length_cons, Nat.reduceAdd, Nat.reduceLeDiff, Nat.zero_le, Option.toList_some, Option.toList_none, List.cons_append, List.nil_append, or_true, true_or, or_false, false_or, Nat.reduceEqDiff, not_true_eq_false, not_false_eq_true, false_and, and_false, false_implies, true_implies, implies_true, ne_eq, and_self, ok1, b1, b6, z22, a1, m1]
  have F : Fr (fun b => b = 22) g (pI g 22 1 (nI 0)) := Fr.pI rfl
  have x' : TxR (pI g 22 1 (nI 0)) t 0 := ⟨⟨a1, a2, a3⟩, ⟨k1, k2⟩, ⟨k3, k4⟩, l, by rw [gI_pI_eq, if_pos rfl], by omega, fun j hj => absurd hj (Nat.not_lt_zero j)⟩
  refine q _ ⟨W, N, S, H, hM.fr F (fun b h1 h2 h9 z => by omega) (fun T hT => (d T hT).fr F hT.big fun b b1 b2 z => ?_) x' z.pI, x1, x2, x3⟩ (F.mf fun b hb z => by unfold mK at hb; omega)
  have := hT.big
  omega
end Act3
