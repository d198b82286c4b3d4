/-! ===== the main object: orderAll ===== -/
section All
variable {st kept n : Nat} {t : Nat → Nat} {Q : mQ} {w snap : Rw} {hist : Nat → Rw} {g : mG}
theorem c_orderAll {I : Rw → Prop} (hI : mInv I) (h : MA g w hist st kept snap t n)
    (q1 : ∀ p g', (rdA t n 9 0).1 = some p → MA g' w hist st kept snap t n → MF g g' → Q (some (.int (-100 - nI p))) g')
    (q2 : (rdA t n 9 0).1 = none → OrdP I (rdA t n 9 0).2 w 0 (fun w' acc => ∀ g', MA g' w' (hcn w hist) (min (st + 1) 4) kept snap t n → MF g g' → Q (some (.int (nI acc))) g') (fun e => ∀ g', MA g' w hist st kept snap t n → MF g g' → Q (some (.int e)) g')) : w_X6_orderAll [.ref 20] g Q := by
  refine wm_at rfl ⟨trivial, trivial⟩ (show WP m_X6_orderAll Q 0 [.ref 20, .retAddr 0, .retAddr 0, .retAddr 0, .retAddr 0, .retAddr 0] [] g from ?_)
  obtain ⟨W, N, S, H, hM, x1, x2, x3⟩ := id h
  obtain ⟨⟨a1, a2, a3, a4, a5, a6⟩, ⟨b1, b2, b3, b4⟩, ⟨c1, c2, c3⟩, d, p, x, y, z, u⟩ := id hM
  obtain ⟨p1, p2, p3, ⟨p4, p5, p6⟩, p7, p8⟩ := id p
  have xk := x.1.1
  have z22 : (22 : Nat) ≠ 0 := by decide
  simp (disch := omega) only [e_X6_orderAll_0, e_X6_orderAll_1, e_X6_orderAll_4, tand, true_and, and_true, nl1_int, nl1_ref, nl1_null, nl1_ra, cat1_int, cat1_ref, cat1_null, stbs_nil, stbs_cons, stb_int, stb_long, stb_ref, stb_null, stb_ra, alv_nil, alv_cons, alv1_int, alv1_ref, alv1_null, alv1_ra, List.length_nil, List.length_cons, Nat.reduceAdd, Nat.reduceLeDiff, Nat.zero_le, Option.toList_some, Option.toList_none, List.cons_append, List.nil_append, or_true, true_or, or_false, false_or, Nat.reduceEqDiff, not_true_eq_false, not_false_eq_true, false_and, and_false, false_implies, true_implies, implies_true, ne_eq, and_self, ok1, a1, a6, z22, xk]
  refine c_read x z fun g1 T1 ln => ?_
  have hM1 := hM.text T1
  have F1 : MF g g1 := T1.1.mf fun b hb => XX_mK hb
  have hA1 : MA g1 w hist st kept snap t n := ⟨W, N, S, H, hM1, x1, x2, x3⟩
  cases hr : (rdA t n 9 0).1 with
  | some pl =>
    have q1' := q1 pl g1 hr hA1 F1
    have hpl : nI pl ≠ -1 := by
      have : pl ≤ n := by
        have gen : ∀ f p q, p ≤ n → (rdA t n f p).1 = some q → q ≤ n := by
          intro f
          induction f with
          | zero =>
            intro p q hp e
            have : p = q := by simpa [rdA] using e
            omega
          | succ f ih =>
            intro p q hp e
            unfold rdA at e
            have hl := rdL_le (t := t) hp
            split at e
            · split at e
              · simp at e
              · split at e
                · exact ih _ q (by omega) e
                · have : (rdL t n p).2.1 = q := by simpa using e
                  omega
            · have : (rdL t n p).2.1 = q := by simpa using e
              omega
        exact gen 9 0 pl (Nat.zero_le _) hr
      have hn : n ≤ 60 := x.2.2.2.2.2.1
      intro e
      have e2 : (nI pl).toInt = (-1 : Int32).toInt := by rw [e]
      rw [nI_toInt (by omega)] at e2
      have e3 : (-1 : Int32).toInt = -1 := by decide
      omega
    simp only [rdV]
    simp (disch := omega) only [e_X6_orderAll_7, e_X6_orderAll_8, e_X6_orderAll_9, e_X6_orderAll_10, e_X6_orderAll_13, e_X6_orderAll_15, e_X6_orderAll_16, e_X6_orderAll_17, tand, true_and, and_true, nl1_int, nl1_ref, nl1_null, nl1_ra, cat1_int, cat1_ref, cat1_null, stbs_nil, stbs_cons, stb_int, stb_long, stb_ref, stb_null, stb_ra, alv_nil, alv_cons, alv1_int, alv1_ref, alv1_null, alv1_ra, List.length_nil, List.length_cons, Nat.reduceAdd, Nat.reduceLeDiff, Nat.zero_le, Option.toList_some, Option.toList_none, List.cons_append, List.nil_append, or_true, true_or, or_false, false_or, Nat.reduceEqDiff, not_true_eq_false, not_false_eq_true, false_and, and_false, false_implies, true_implies, implies_true, ne_eq, and_self, ok1, hpl]
    exact q1'
  | none =>
    have q2' := q2 hr
    obtain ⟨ln1, ln2⟩ := ln hr
    simp only [rdV]
    obtain ⟨⟨a1', a2', a3', a4', a5', a6'⟩, _, _, d', p', x', y', z', u'⟩ := id hM1
    have kS := isT.k6 (d' S p2)
    simp (disch := omega) only [e_X6_orderAll_7, e_X6_orderAll_8, e_X6_orderAll_9, e_X6_orderAll_10, e_X6_orderAll_18, e_X6_orderAll_19, e_X6_orderAll_22, e_X6_orderAll_23, e_X6_orderAll_26, tand, true_and, and_true, nl1_int, nl1_ref, nl1_null, nl1_ra, cat1_int, cat1_ref, cat1_null, stbs_nil, stbs_cons, stb_int, stb_long, stb_ref, stb_null, stb_ra, alv_nil, alv_cons, alv1_int, alv1_ref, alv1_null, alv1_ra, List.length_nil, List.length_cons, Nat.reduceAdd, Nat.reduceLeDiff, Nat.zero_le, Option.toList_some, Option.toList_none, List.cons_append, List.nil_append, or_true, true_or, or_false, false_or, Nat.reduceEqDiff, not_true_eq_false, not_false_eq_true, false_and, and_false, false_implies, true_implies, implies_true, ne_eq, and_self, ok1, a1', a2', a3', p1.z, p2.z, kS]
    refine c_X5_copyFrom p2 p1 (Ne.symm p6) (d' S p2) (d' N p1) y' z' fun g2 C2 => ?_
    have hM2 := hM1.town p2 C2
    simp (disch := omega) only [e_X6_orderAll_29, e_X6_orderAll_30, e_X6_orderAll_31, e_X6_orderAll_32, tand, true_and, and_true, nl1_int, nl1_ref, nl1_null, nl1_ra, cat1_int, cat1_ref, cat1_null, stbs_nil, stbs_cons, stb_int, stb_long, stb_ref, stb_null, stb_ra, alv_nil, alv_cons, alv1_int, alv1_ref, alv1_null, alv1_ra, List.length_nil, List.length_cons, Nat.reduceAdd, Nat.reduceLeDiff, Nat.zero_le, Option.toList_some, Option.toList_none, List.cons_append, List.nil_append, or_true, true_or, or_false, false_or, Nat.reduceEqDiff, not_true_eq_false, not_false_eq_true, false_and, and_false, false_implies, true_implies, implies_true, ne_eq, and_self, ok1]
    have big := p2.big
    have fr2 : ∀ b, b < 100 → b ≠ 9 → gI g2 b = gI g1 b := fun b h1 h2 => (C2.1.2.1 b fun zz => by unfold XT at zz; omega).2
    have hlen := rdA_len (t := t) (n := n) 9 0
    have F2 : MF g g2 := F1.tr (C2.1.mf fun b hb => XT_mK big hb)
    have e : uW (uW W S (W N)) N w = uW W S (W N) := by
      funext a
      unfold uW
      by_cases ha : a = N
      · rw [if_pos ha, ha, if_neg p6, x1]
      · rw [if_neg ha]
    refine orders_run hI (Wf := uW W S (W N)) (N := N) (S := S) (H := H) (g0 := g) (w0 := w) hlen (fun j hj => ?_) ?_ (fun hk => ?_) (fun g' w' acc hk hA hF => hk g' hA hF) (fun g' e he hA hF => he g' hA hF) (rdA t n 9 0).2 0 (Nat.zero_add _) rfl rfl (by rw [e]; exact hM2) F2 (LnR.fr _ 0 fr2 (by omega) ln2) (by rw [fr2 22 (by decide) (by decide), ln1]) q2'
    · unfold uW
      rw [if_neg (p7 j (by omega)).2.2]; exact x2 j hj
    · unfold uW
      rw [if_pos rfl]; exact x1
    · unfold uW
      rw [if_neg (Ne.symm p5)]; exact x3 hk
end All
