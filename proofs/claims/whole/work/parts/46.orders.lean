/-! ===== the main object: all orders ===== -/
/-- what must stand before a line of the text is tried -/
def PreO (I : Rw → Prop) (w : Rw) (b : Nat) : Prop := TB w ∧ wS w 12 ≤ 500 ∧ (∃ i, i < 17 ∧ wF w i 3 = 0) ∧
  ∀ k m p i, k < 6 → 1 ≤ m → m ≤ 999 → wS w 11 ≤ p → p ≤ wS w 12 → (b = 1 → m * p ≤ wK w k 0) → (b = 0 → m ≤ rt (wP w k)) → i < 17 → wF w i 3 = 0 → I (opPut w i b k m p)
/-- the lines one after another: K of the end, E of an error -/
def OrdP (I : Rw → Prop) : List Ln → Rw → Nat → (Rw → Nat → Prop) → (Int32 → Prop) → Prop
  | [], w, acc, K, _ => K w acc
  | l :: L, w, acc, K, E => l.1 ≤ 1 ∧ l.2.1 < 2 ^ 30 ∧ l.2.2.1 < 2 ^ 30 ∧ l.2.2.2 < 2 ^ 30 ∧ PreO I w l.1 ∧
      (¬ l.2.1 < 6 → E (-1)) ∧
      (l.2.1 < 6 → ¬ ((1 ≤ l.2.2.1 ∧ l.2.2.1 ≤ 999) ∧ wS w 11 ≤ l.2.2.2 ∧ l.2.2.2 ≤ wS w 12) → E (-2)) ∧
      (l.2.1 < 6 → 1 ≤ l.2.2.1 → l.2.2.1 ≤ 999 → wS w 11 ≤ l.2.2.2 → l.2.2.2 ≤ wS w 12 → (l.1 = 1 → ¬ l.2.2.1 * l.2.2.2 ≤ wK w l.2.1 0) → (l.1 = 0 → ¬ l.2.2.1 ≤ rt (wP w l.2.1)) → E (-3)) ∧
      (l.2.1 < 6 → 1 ≤ l.2.2.1 → l.2.2.1 ≤ 999 → wS w 11 ≤ l.2.2.2 → l.2.2.2 ≤ wS w 12 → (l.1 = 1 → l.2.2.1 * l.2.2.2 ≤ wK w l.2.1 0) → (l.1 = 0 → l.2.2.1 ≤ rt (wP w l.2.1)) → ∀ i, i < 17 → wF w i 3 = 0 →
        OrdP I L (opCome w i l.1 l.2.1 l.2.2.1 l.2.2.2) (acc + (l.2.2.1 - wF (meetF i 17 (opPut w i l.1 l.2.1 l.2.2.1 l.2.2.2)) i 3)) K E)
theorem LnR.fr {g g' : mG} : ∀ (L : List Ln) (i : Nat), (∀ b, b < 100 → b ≠ 9 → gI g' b = gI g b) → i + L.length ≤ 9 → LnR g i L → LnR g' i L
  | [], _, _, _, _ => trivial
  | x :: L, i, h, hi, hl => by
    simp only [List.length_cons] at hi
    rw [LnR] at hl ⊢
    refine ⟨?_, LnR.fr L (i + 1) h (by omega) hl.2⟩
    rw [h _ (by omega) (by omega)]
    exact hl.1
theorem rdA_len {t : Nat → Nat} {n : Nat} : ∀ (f p : Nat), (rdA t n f p).2.length ≤ f
  | 0, _ => Nat.le_refl _
  | f + 1, p => by
    unfold rdA
    split
    · split
      · simp
      · split
        · have := rdA_len (t := t) (n := n) f ((rdL t n p).2.1 + 1)
          simp only [List.length_cons]
          omega
        · simp
    · simp
section Oal
variable {st kept n : Nat} {t : Nat → Nat} {Q : mQ} {w snap : Rw} {hist : Nat → Rw}
theorem orders_run {I : Rw → Prop} (hI : mInv I) {N S : Nat} {H : Nat → Nat} {len : Nat} (hlen : len ≤ 9) {g0 : mG} {w0 : Rw} {Wf : Nat → Rw} (hW : ∀ j, j < st → Wf (H j) = hist j) (hS0 : Wf S = w0) (hsn : kept = 1 → Wf 300 = snap)
    {K : Rw → Nat → Prop} {E : Int32 → Prop}
    (qK : ∀ g' w' acc, K w' acc → MA g' w' (hcn w0 hist) (min (st + 1) 4) kept snap t n → MF g0 g' → Q (some (.int (nI acc))) g')
    (qE : ∀ g' e, E e → MA g' w0 hist st kept snap t n → MF g0 g' → Q (some (.int e)) g') :
    ∀ (L : List Ln) (i : Nat) {g : mG} {w : Rw} {acc : Nat} {l4 l5 : Value}, i + L.length = len → stb g l4 = True → stb g l5 = True → MH g (uW Wf N w) N S H st kept t n → MF g0 g → LnR g i L → gI g 22 3 = nI len → OrdP I L w acc K E → WP m_X6_orderAll Q 33 [.ref 20, .int (-1), .int (nI acc), .int (nI i), l4, l5] [] g := by
  intro L
  induction L with
  | nil =>
    intro i g w acc l4 l5 hi hl4 hl5 hM hF hL hc hO
    obtain ⟨⟨a1, a2, a3, a4, a5, a6⟩, ⟨b1, b2, b3, b4⟩, ⟨c1, c2, c3⟩, d, p, x, y, z, u⟩ := id hM
    obtain ⟨p1, p2, p3, ⟨p4, p5, p6⟩, p7, p8⟩ := id p
    have x1 := x.1.1
    have z22 : (22 : Nat) ≠ 0 := by decide
    have hi' : i = len := by simpa using hi
    subst hi'
    simp (disch := omega) only [e_X6_orderAll_33, e_X6_orderAll_34, e_X6_orderAll_35, e_X6_orderAll_38, e_X6_orderAll_41, e_X6_orderAll_144, e_X6_orderAll_145, tand, true_and, and_true, nl1_int, nl1_ref, nl1_null, nl1_ra, cat1_int, cat1_ref, cat1_null, stbs_nil, stbs_cons, stb_int, stb_long, stb_ref, stb_null, stb_ra, alv_nil, alv_cons, alv1_int, alv1_ref, alv1_null, alv1_ra, List.length_nil, List.length_cons, Nat.reduceAdd, Nat.reduceLeDiff, Nat.zero_le, Option.toList_some, Option.toList_none, List.cons_append, List.nil_append, or_true, true_or, or_false, false_or, Nat.reduceEqDiff, not_true_eq_false, not_false_eq_true, false_and, and_false, false_implies, true_implies, implies_true, ne_eq, and_self, ok1, a1, a6, z22, x1, hc, nI_leE, Nat.le_refl, hl4, hl5]
    refine c_pushSpare hM fun g2 F2 hM2 => ?_
    simp only [e_X6_orderAll_148, e_X6_orderAll_149, tand, true_and, and_true, nl1_int, nl1_ref, nl1_null, nl1_ra, cat1_int, cat1_ref, cat1_null, stbs_nil, stbs_cons, stb_int, stb_long, stb_ref, stb_null, stb_ra, alv_nil, alv_cons, alv1_int, alv1_ref, alv1_null, alv1_ra, List.length_nil, List.length_cons, Nat.reduceAdd, Nat.reduceLeDiff, Nat.zero_le, Option.toList_some, Option.toList_none, List.cons_append, List.nil_append, or_true, true_or, or_false, false_or, Nat.reduceEqDiff, not_true_eq_false, not_false_eq_true, false_and, and_false, false_implies, true_implies, implies_true, ne_eq, and_self, ok1]
    refine qK g2 w acc hO ⟨_, _, _, _, hM2, by unfold uW; rw [if_pos rfl], fun j hj => ?_, fun hk => ?_⟩ (hF.tr F2.mf)
    · unfold uW hsh hcn
      by_cases h0 : j = 0
      · rw [if_pos h0, if_pos h0, if_neg (Ne.symm p6)]; exact hS0
      · rw [if_neg h0, if_neg h0, if_neg (p7 (j - 1) (by omega)).2.1]; exact hW (j - 1) (by omega)
    · unfold uW
      rw [if_neg (Ne.symm p4)]; exact hsn hk
  | cons l L ih =>
    intro i g w acc l4 l5 hi hl4 hl5 hM hF hL hc hO
    obtain ⟨⟨a1, a2, a3, a4, a5, a6⟩, ⟨b1, b2, b3, b4⟩, ⟨c1, c2, c3⟩, d, p, x, y, z, u⟩ := id hM
    obtain ⟨p1, p2, p3, ⟨p4, p5, p6⟩, p7, p8⟩ := id p
    obtain ⟨⟨x1, x2, x3⟩, _, ⟨x4, x5⟩, x6, _⟩ := id x
    obtain ⟨lb, lk, lm, lp⟩ := l
    obtain ⟨o1, o2, o3, o4, ⟨hB, hc5, hfr, hput⟩, oE1, oE2, oE3, oK⟩ := hO
    obtain ⟨⟨v0, v1, v2, v3⟩, hL'⟩ := hL
    have z22 : (22 : Nat) ≠ 0 := by decide
    have z24 : (24 : Nat) ≠ 0 := by decide
    have hlen1 : i < len := by simp only [List.length_cons] at hi; omega
    have hi9 : i < 9 := by omega
    have n1 : ¬ len ≤ i := by omega
    have n2 : ¬ 9 ≤ i := by omega
    have zl : 25 + i ≠ 0 := by omega
    obtain ⟨y1, y2⟩ := x6 i hi9
    have hT := d N p1
    have eN : uW Wf N w N = w := by unfold uW; rw [if_pos rfl]
    rw [eN] at hT
    have k6 := isT.k6 hT
    dsimp only at v0 v1 v2 v3 o1 o2 o3 o4 oE1 oE2 oE3 oK hput
    simp (disch := omega) only [e_X6_orderAll_33, e_X6_orderAll_34, e_X6_orderAll_35, e_X6_orderAll_38, e_X6_orderAll_41, e_X6_orderAll_44, e_X6_orderAll_45, e_X6_orderAll_46, e_X6_orderAll_49, e_X6_orderAll_52, e_X6_orderAll_53, e_X6_orderAll_56, e_X6_orderAll_57, e_X6_orderAll_60, e_X6_orderAll_63, e_X6_orderAll_64, e_X6_orderAll_65, e_X6_orderAll_65n, e_X6_orderAll_67, e_X6_orderAll_68, e_X6_orderAll_71, e_X6_orderAll_71n, e_X6_orderAll_73, e_X6_orderAll_76, e_X6_orderAll_76n, e_X6_orderAll_78, e_X6_orderAll_81, e_X6_orderAll_81n, e_X6_orderAll_83, e_X6_orderAll_86, e_X6_orderAll_86n, e_X6_orderAll_88, e_X6_orderAll_91, tand, true_and, and_true, nl1_int, nl1_ref, nl1_null, nl1_ra, cat1_int, cat1_ref, cat1_null, stbs_nil, stbs_cons, stb_int, stb_long, stb_ref, stb_null, stb_ra, alv_nil, alv_cons, alv1_int, alv1_ref, alv1_null, alv1_ra, List.length_nil, List.length_cons, Nat.reduceAdd, Nat.reduceLeDiff, Nat.zero_le, Option.toList_some, Option.toList_none, List.cons_append, List.nil_append, or_true, true_or, or_false, false_or, Nat.reduceEqDiff, not_true_eq_false, not_false_eq_true, false_and, and_false, false_implies, true_implies, implies_true, ne_eq, and_self, ok1, a1, a2, a6, z22, z24, x1, x3, x4, x5, hc, nI_leE, n1, n2, nI_vp, hi9, nI_clamp, y1, y2, zl, p1.z, k6, v0, v1, v2, v3, hl5]
    have m1 : ((-1 : Int32) = 0) = False := by simp [show (-1 : Int32) ≠ 0 by decide]
    have m2 : ((-2 : Int32) = 0) = False := by simp [show (-2 : Int32) ≠ 0 by decide]
    have m3 : ((-3 : Int32) = 0) = False := by simp [show (-3 : Int32) ≠ 0 by decide]
    have back : ∀ e : Int32, E e → WP m_X6_orderAll Q 101 [.ref 20, .int (-1), .int (nI acc), .int (nI i), .ref (25 + i), .int e] [] g := fun e he => by
      simp only [e_X6_orderAll_101, e_X6_orderAll_102, tand, true_and, and_true, nl1_int, nl1_ref, nl1_null, nl1_ra, cat1_int, cat1_ref, cat1_null, stbs_nil, stbs_cons, stb_int, stb_long, stb_ref, stb_null, stb_ra, alv_nil, alv_cons, alv1_int, alv1_ref, alv1_null, alv1_ra, List.length_nil, List.length_cons, Nat.reduceAdd, Nat.reduceLeDiff, Nat.zero_le, Option.toList_some, Option.toList_none, List.cons_append, List.nil_append, or_true, true_or, or_false, false_or, Nat.reduceEqDiff, not_true_eq_false, not_false_eq_true, false_and, and_false, false_implies, true_implies, implies_true, ne_eq, and_self, ok1, a1, y2]
      refine c_swap hM fun g2 F2 hM2 => ?_
      simp only [e_X6_orderAll_105, e_X6_orderAll_107, tand, true_and, and_true, nl1_int, nl1_ref, nl1_null, nl1_ra, cat1_int, cat1_ref, cat1_null, stbs_nil, stbs_cons, stb_int, stb_long, stb_ref, stb_null, stb_ra, alv_nil, alv_cons, alv1_int, alv1_ref, alv1_null, alv1_ra, List.length_nil, List.length_cons, Nat.reduceAdd, Nat.reduceLeDiff, Nat.zero_le, Option.toList_some, Option.toList_none, List.cons_append, List.nil_append, or_true, true_or, or_false, false_or, Nat.reduceEqDiff, not_true_eq_false, not_false_eq_true, false_and, and_false, false_implies, true_implies, implies_true, ne_eq, and_self, ok1]
      refine qE g2 e he ⟨_, _, _, _, hM2, ?_, fun j hj => ?_, fun hk => ?_⟩ (hF.tr F2.mf)
      · unfold uW
        rw [if_neg (Ne.symm p6)]; exact hS0
      · unfold uW
        rw [if_neg (p7 j (by omega)).2.1]; exact hW j hj
      · unfold uW
        rw [if_neg (Ne.symm p4)]; exact hsn hk
    refine c_errorOf hT hB o1 hc5 (fun hno => ?_) (fun k hk ev hno => ?_) (fun k n' p' hk ev en ep r1 r2 r3 r4 r5 r6 => ?_) (fun k n' p' hk ev en ep r1 r2 r3 r4 r5 r6 => ?_)
    · simp only [e_X6_orderAll_94, e_X6_orderAll_96, e_X6_orderAll_98, tand, true_and, and_true, nl1_int, nl1_ref, nl1_null, nl1_ra, cat1_int, cat1_ref, cat1_null, stbs_nil, stbs_cons, stb_int, stb_long, stb_ref, stb_null, stb_ra, alv_nil, alv_cons, alv1_int, alv1_ref, alv1_null, alv1_ra, List.length_nil, List.length_cons, Nat.reduceAdd, Nat.reduceLeDiff, Nat.zero_le, Option.toList_some, Option.toList_none, List.cons_append, List.nil_append, or_true, true_or, or_false, false_or, Nat.reduceEqDiff, not_true_eq_false, not_false_eq_true, false_and, and_false, false_implies, true_implies, implies_true, ne_eq, and_self, ok1, m1]
      exact back _ (oE1 fun z => hno lk z rfl)
    · simp only [e_X6_orderAll_94, e_X6_orderAll_96, e_X6_orderAll_98, tand, true_and, and_true, nl1_int, nl1_ref, nl1_null, nl1_ra, cat1_int, cat1_ref, cat1_null, stbs_nil, stbs_cons, stb_int, stb_long, stb_ref, stb_null, stb_ra, alv_nil, alv_cons, alv1_int, alv1_ref, alv1_null, alv1_ra, List.length_nil, List.length_cons, Nat.reduceAdd, Nat.reduceLeDiff, Nat.zero_le, Option.toList_some, Option.toList_none, List.cons_append, List.nil_append, or_true, true_or, or_false, false_or, Nat.reduceEqDiff, not_true_eq_false, not_false_eq_true, false_and, and_false, false_implies, true_implies, implies_true, ne_eq, and_self, ok1, m2]
      rw [nI_eqE (by omega) (by omega)] at ev
      subst ev
      refine back _ (oE2 hk fun z => hno ⟨⟨lm, rfl, z.1⟩, lp, rfl, z.2⟩)
    · rw [nI_eqE (by omega) (by omega)] at ev
      have en2 : lm = n' := by
        rw [nI_eqE (by omega) (by omega)] at en
        exact en
      have ep2 : lp = p' := by
        rw [nI_eqE (by omega) (by omega)] at ep
        exact ep
      subst ev
      subst en2
      subst ep2
      simp (disch := omega) only [e_X6_orderAll_94, e_X6_orderAll_96, e_X6_orderAll_98, e_X6_orderAll_108, e_X6_orderAll_109, e_X6_orderAll_110, e_X6_orderAll_113, e_X6_orderAll_113n, e_X6_orderAll_115, e_X6_orderAll_118, e_X6_orderAll_118n, e_X6_orderAll_120, e_X6_orderAll_123, e_X6_orderAll_123n, e_X6_orderAll_125, e_X6_orderAll_128, e_X6_orderAll_128n, e_X6_orderAll_130, e_X6_orderAll_133, tand, true_and, and_true, nl1_int, nl1_ref, nl1_null, nl1_ra, cat1_int, cat1_ref, cat1_null, stbs_nil, stbs_cons, stb_int, stb_long, stb_ref, stb_null, stb_ra, alv_nil, alv_cons, alv1_int, alv1_ref, alv1_null, alv1_ra, List.length_nil, List.length_cons, Nat.reduceAdd, Nat.reduceLeDiff, Nat.zero_le, Option.toList_some, Option.toList_none, List.cons_append, List.nil_append, or_true, true_or, or_false, false_or, Nat.reduceEqDiff, not_true_eq_false, not_false_eq_true, false_and, and_false, false_implies, true_implies, implies_true, ne_eq, and_self, ok1, n0z, a1, a2, p1.z, k6, y2, v0, v1, v2, v3]
      refine c_comes hI p1 hT hB o1 hk (by omega) hfr r5 r6 (fun i' hi' h0 => hput lk lm lp i' hk r1 r2 r3 r4 r5 r6 hi' h0) y z fun i' g2 hi' h0 C2 => ?_
      have hM2 := hM.town p1 C2
      have big := p1.big
      have fr2 : ∀ b, b < 100 → b ≠ 9 → gI g2 b = gI g b := fun b h1 h2 => (C2.1.2.1 b fun zz => by unfold XT at zz; omega).2
      simp (disch := omega) only [e_X6_orderAll_136, e_X6_orderAll_137, e_X6_orderAll_138, e_X6_orderAll_141, tand, true_and, and_true, nl1_int, nl1_ref, nl1_null, nl1_ra, cat1_int, cat1_ref, cat1_null, stbs_nil, stbs_cons, stb_int, stb_long, stb_ref, stb_null, stb_ra, alv_nil, alv_cons, alv1_int, alv1_ref, alv1_null, alv1_ra, List.length_nil, List.length_cons, Nat.reduceAdd, Nat.reduceLeDiff, Nat.zero_le, Option.toList_some, Option.toList_none, List.cons_append, List.nil_append, or_true, true_or, or_false, false_or, Nat.reduceEqDiff, not_true_eq_false, not_false_eq_true, false_and, and_false, false_implies, true_implies, implies_true, ne_eq, and_self, ok1, nI_add]
      refine ih (i + 1) (by simp only [List.length_cons] at hi; omega) (stb_k ((C2.1.1 _).trans y2) (by decide) (by decide)) rfl ?_ (hF.tr (C2.1.mf fun b hb => XT_mK big hb)) (LnR.fr L (i + 1) fr2 (by simp only [List.length_cons] at hi; omega) hL') (by rw [fr2 22 (by decide) (by decide)]; exact hc) (oK hk r1 r2 r3 r4 r5 r6 i' hi' h0)
      have e : uW (uW Wf N w) N (opCome w i' lb lk lm lp) = uW Wf N (opCome w i' lb lk lm lp) := by
        funext a
        unfold uW
        by_cases ha : a = N
        · rw [if_pos ha, if_pos ha]
        · rw [if_neg ha, if_neg ha, if_neg ha]
      rw [e] at hM2
      exact hM2
    · simp only [e_X6_orderAll_94, e_X6_orderAll_96, e_X6_orderAll_98, tand, true_and, and_true, nl1_int, nl1_ref, nl1_null, nl1_ra, cat1_int, cat1_ref, cat1_null, stbs_nil, stbs_cons, stb_int, stb_long, stb_ref, stb_null, stb_ra, alv_nil, alv_cons, alv1_int, alv1_ref, alv1_null, alv1_ra, List.length_nil, List.length_cons, Nat.reduceAdd, Nat.reduceLeDiff, Nat.zero_le, Option.toList_some, Option.toList_none, List.cons_append, List.nil_append, or_true, true_or, or_false, false_or, Nat.reduceEqDiff, not_true_eq_false, not_false_eq_true, false_and, and_false, false_implies, true_implies, implies_true, ne_eq, and_self, ok1, m3]
      rw [nI_eqE (by omega) (by omega)] at ev
      have en2 : lm = n' := by
        rw [nI_eqE (by omega) (by omega)] at en
        exact en
      have ep2 : lp = p' := by
        rw [nI_eqE (by omega) (by omega)] at ep
        exact ep
      subst ev
      subst en2
      subst ep2
      exact back _ (oE3 hk r1 r2 r3 r4 r5 r6)
end Oal
