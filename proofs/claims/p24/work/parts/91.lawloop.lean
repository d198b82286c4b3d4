/-! ===== the law's loop ===== -/
theorem lg_self {d : Int64} : lg_cmp d d = 0 := by simp [lg_cmp]
theorem SX.mf {g g' : mG} {xs : Nat → Int32} {L : Nat} (h : SX g xs L) (f : MF g g') : SX g' xs L := by
  obtain ⟨h1, h2, h3⟩ := h
  obtain ⟨f1, f2, _⟩ := f.2 2 (Or.inl rfl)
  exact ⟨(f.1 2).trans h1, f1.trans h2, fun j hj => by rw [f2]; exact h3 j hj⟩
theorem MA.st4 {g : mG} {w snap : Rw} {hist : Nat → Rw} {st kept n : Nat} {t : Nat → Nat} (h : MA g w hist st kept snap t n) : st ≤ 4 := by
  obtain ⟨W, N, S, H, hM, _⟩ := h
  exact hM.2.1.2.2.2
section Llo
variable {xs : Nat → Int32} {L : Nat} {Q : mQ}
theorem law_tail {g : mG} {w snap : Rw} {hist : Nat → Rw} {st kept n u e : Nat} {t : Nat → Nat} {l3 l4 l5 l6 l7 l8 l9 l10 l11 : Value} (hS : SX g xs L) (hM : MA g w hist st kept snap t n) (hG : Good w u) (hu : u ≤ 6000) (h3 : ∀ g, stb g l3 = True) (h4 : ∀ g, stb g l4 = True) (h5 : ∀ g, stb g l5 = True) (h6 : ∀ g, stb g l6 = True) (h7 : ∀ g, stb g l7 = True) (h8 : ∀ g, stb g l8 = True) (h9 : ∀ g, stb g l9 = True) (h10 : ∀ g, stb g l10 = True) (h11 : ∀ g, stb g l11 = True) (next : WP m_L_law Q 10 [.ref 2, .ref 20, .int (nI (e + 1)), l3, l4, l5, l6, l7, l8, l9, l10, l11] [] g) : WP m_L_law Q 162 [.ref 2, .ref 20, .int (nI e), l3, l4, l5, l6, l7, l8, l9, l10, l11] [] g := by
  obtain ⟨k2, n2, r2⟩ := hS
  have a1 := hM.k20
  simp (disch := omega) only [e_L_law_162, e_L_law_162n, e_L_law_163, tand, true_and, and_true, nl1_int, nl1_ref, nl1_null, nl1_ra, cat1_int, cat1_ref, cat1_null, stbs_nil, stbs_cons, stb_int, stb_long, stb_ref, stb_null, stb_ra, alv_nil, alv_cons, alv1_int, alv1_ref, alv1_null, alv1_ra, List.length_nil, List.length_cons, Nat.reduceAdd, Nat.reduceLeDiff, Nat.zero_le, Option.toList_some, Option.toList_none, List.cons_append, List.nil_append, or_true, true_or, or_false, false_or, Nat.reduceEqDiff, not_true_eq_false, not_false_eq_true, false_and, and_false, false_implies, true_implies, implies_true, ne_eq, and_self, ok1, a1, k2, h3, h4, h5, h6, h7, h8, h9, h10, h11]
  refine c_Lsums hM hG hu ?_
  simp (disch := omega) only [e_L_law_166, e_L_law_171, tand, true_and, and_true, nl1_int, nl1_ref, nl1_null, nl1_ra, cat1_int, cat1_ref, cat1_null, stbs_nil, stbs_cons, stb_int, stb_long, stb_ref, stb_null, stb_ra, alv_nil, alv_cons, alv1_int, alv1_ref, alv1_null, alv1_ra, List.length_nil, List.length_cons, Nat.reduceAdd, Nat.reduceLeDiff, Nat.zero_le, Option.toList_some, Option.toList_none, List.cons_append, List.nil_append, or_true, true_or, or_false, false_or, Nat.reduceEqDiff, not_true_eq_false, not_false_eq_true, false_and, and_false, false_implies, true_implies, implies_true, ne_eq, and_self, ok1, n1z, nI_add]
  simp only [e_L_law_174, tand, true_and, and_true, nl1_int, nl1_ref, nl1_null, nl1_ra, cat1_int, cat1_ref, cat1_null, stbs_nil, stbs_cons, stb_int, stb_long, stb_ref, stb_null, stb_ra, alv_nil, alv_cons, alv1_int, alv1_ref, alv1_null, alv1_ra, List.length_nil, List.length_cons, Nat.reduceAdd, Nat.reduceLeDiff, Nat.zero_le, Option.toList_some, Option.toList_none, List.cons_append, List.nil_append, or_true, true_or, or_false, false_or, Nat.reduceEqDiff, not_true_eq_false, not_false_eq_true, false_and, and_false, false_implies, true_implies, implies_true, ne_eq, and_self, ok1]
  exact next
theorem law_loop (hL : L ≤ 260) (q : ∀ g, JR g → Q (some (.int 1)) g) : ∀ (d e : Nat) {g : mG} {w snap : Rw} {hist : Nat → Rw} {st kept n : Nat} {t : Nat → Nat} {l3 l4 l5 l6 l7 l8 l9 l10 l11 : Value}, e + d = 22 → SX g xs L → MA g w hist st kept snap t n → Good w e → (∀ g, stb g l3 = True) → (∀ g, stb g l4 = True) → (∀ g, stb g l5 = True) → (∀ g, stb g l6 = True) → (∀ g, stb g l7 = True) → (∀ g, stb g l8 = True) → (∀ g, stb g l9 = True) → (∀ g, stb g l10 = True) → (∀ g, stb g l11 = True) → WP m_L_law Q 10 [.ref 2, .ref 20, .int (nI e), l3, l4, l5, l6, l7, l8, l9, l10, l11] [] g := by
  intro d
  induction d with
  | zero =>
    intro e g w snap hist st kept n t l3 l4 l5 l6 l7 l8 l9 l10 l11 he hS hM hG h3 h4 h5 h6 h7 h8 h9 h10 h11
    have ee : e = 22 := by omega
    subst ee
    have one : (nI 1 : Int32) = 1 := rfl
    simp (disch := omega) only [e_L_law_10, e_L_law_11, e_L_law_13, e_L_law_177, e_L_law_178, tand, true_and, and_true, nl1_int, nl1_ref, nl1_null, nl1_ra, cat1_int, cat1_ref, cat1_null, stbs_nil, stbs_cons, stb_int, stb_long, stb_ref, stb_null, stb_ra, alv_nil, alv_cons, alv1_int, alv1_ref, alv1_null, alv1_ra, List.length_nil, List.length_cons, Nat.reduceAdd, Nat.reduceLeDiff, Nat.zero_le, Option.toList_some, Option.toList_none, List.cons_append, List.nil_append, or_true, true_or, or_false, false_or, Nat.reduceEqDiff, not_true_eq_false, not_false_eq_true, false_and, and_false, false_implies, true_implies, implies_true, ne_eq, and_self, ok1, nI_leE, one]
    obtain ⟨N, _, _, _, _, hJ, _⟩ := hM.now
    exact q g hJ
  | succ d ih =>
    intro e g w snap hist st kept n t l3 l4 l5 l6 l7 l8 l9 l10 l11 he hS hM hG h3 h4 h5 h6 h7 h8 h9 h10 h11
    have hlt : ¬ 22 ≤ e := by omega
    have hst := hM.st4
    obtain ⟨k2, n2, r2⟩ := id hS
    have a1 := hM.k20
    have tb := hG.1.1.tb (show e ≤ 6000 by omega)
    have e19 : cuN w st n 19 = st := rfl
    obtain ⟨dg, hdg⟩ := dig_ok hG (show e ≤ 6000 by omega)
    simp (disch := omega) only [e_L_law_10, e_L_law_11, e_L_law_13, e_L_law_16, e_L_law_16n, e_L_law_17, e_L_law_18, e_L_law_19, e_L_law_20, tand, true_and, and_true, nl1_int, nl1_ref, nl1_null, nl1_ra, cat1_int, cat1_ref, cat1_null, stbs_nil, stbs_cons, stb_int, stb_long, stb_ref, stb_null, stb_ra, alv_nil, alv_cons, alv1_int, alv1_ref, alv1_null, alv1_ra, List.length_nil, List.length_cons, Nat.reduceAdd, Nat.reduceLeDiff, Nat.zero_le, Option.toList_some, Option.toList_none, List.cons_append, List.nil_append, or_true, true_or, or_false, false_or, Nat.reduceEqDiff, not_true_eq_false, not_false_eq_true, false_and, and_false, false_implies, true_implies, implies_true, ne_eq, and_self, ok1, a1, k2, h3, h4, h5, h6, h7, h8, h9, h10, h11, nI_leE, hlt, pk_mul]
    refine c_cell hS (by omega) (by omega) ?_
    simp (disch := omega) only [e_L_law_23, e_L_law_24, e_L_law_24n, e_L_law_25, e_L_law_26, e_L_law_27, e_L_law_28, e_L_law_29, e_L_law_30, tand, true_and, and_true, nl1_int, nl1_ref, nl1_null, nl1_ra, cat1_int, cat1_ref, cat1_null, stbs_nil, stbs_cons, stb_int, stb_long, stb_ref, stb_null, stb_ra, alv_nil, alv_cons, alv1_int, alv1_ref, alv1_null, alv1_ra, List.length_nil, List.length_cons, Nat.reduceAdd, Nat.reduceLeDiff, Nat.zero_le, Option.toList_some, Option.toList_none, List.cons_append, List.nil_append, or_true, true_or, or_false, false_or, Nat.reduceEqDiff, not_true_eq_false, not_false_eq_true, false_and, and_false, false_implies, true_implies, implies_true, ne_eq, and_self, ok1, a1, k2, h4, h5, h6, h7, h8, h9, h10, h11, pk_mul, nI_add]
    refine c_cell hS (by omega) (by omega) ?_
    obtain ⟨v, hact⟩ := act_ok hG (show e + 1 ≤ 6000 by omega) (cellV xs L (2 * e)) (cellV xs L (2 * e + 1))
    generalize cellV xs L (2 * e) = G at *
    generalize cellV xs L (2 * e + 1) = X at *
    simp (disch := omega) only [e_L_law_33, e_L_law_35, e_L_law_35n, e_L_law_36, tand, true_and, and_true, nl1_int, nl1_ref, nl1_null, nl1_ra, cat1_int, cat1_ref, cat1_null, stbs_nil, stbs_cons, stb_int, stb_long, stb_ref, stb_null, stb_ra, alv_nil, alv_cons, alv1_int, alv1_ref, alv1_null, alv1_ra, List.length_nil, List.length_cons, Nat.reduceAdd, Nat.reduceLeDiff, Nat.zero_le, Option.toList_some, Option.toList_none, List.cons_append, List.nil_append, or_true, true_or, or_false, false_or, Nat.reduceEqDiff, not_true_eq_false, not_false_eq_true, false_and, and_false, false_implies, true_implies, implies_true, ne_eq, and_self, ok1, a1, k2, h5, h6, h7, h8, h9, h10, h11]
    refine hdg g hist st kept snap t n _ hM ?_
    simp (disch := omega) only [e_L_law_39, e_L_law_41, e_L_law_41n, e_L_law_42, e_L_law_44, tand, true_and, and_true, nl1_int, nl1_ref, nl1_null, nl1_ra, cat1_int, cat1_ref, cat1_null, stbs_nil, stbs_cons, stb_int, stb_long, stb_ref, stb_null, stb_ra, alv_nil, alv_cons, alv1_int, alv1_ref, alv1_null, alv1_ra, List.length_nil, List.length_cons, Nat.reduceAdd, Nat.reduceLeDiff, Nat.zero_le, Option.toList_some, Option.toList_none, List.cons_append, List.nil_append, or_true, true_or, or_false, false_or, Nat.reduceEqDiff, not_true_eq_false, not_false_eq_true, false_and, and_false, false_implies, true_implies, implies_true, ne_eq, and_self, ok1, a1, k2, h7, h8, h9, h10, h11]
    refine a_count hM tb (by decide) (by decide) ?_
    simp (disch := omega) only [e_L_law_47, e_L_law_49, e_L_law_49n, e_L_law_50, e_L_law_51, e_L_law_53, tand, true_and, and_true, nl1_int, nl1_ref, nl1_null, nl1_ra, cat1_int, cat1_ref, cat1_null, stbs_nil, stbs_cons, stb_int, stb_long, stb_ref, stb_null, stb_ra, alv_nil, alv_cons, alv1_int, alv1_ref, alv1_null, alv1_ra, List.length_nil, List.length_cons, Nat.reduceAdd, Nat.reduceLeDiff, Nat.zero_le, Option.toList_some, Option.toList_none, List.cons_append, List.nil_append, or_true, true_or, or_false, false_or, Nat.reduceEqDiff, not_true_eq_false, not_false_eq_true, false_and, and_false, false_implies, true_implies, implies_true, ne_eq, and_self, ok1, a1, k2, h8, h9, h10, h11, e19]
    rcases hact with ⟨hv, hact⟩ | ⟨hv, w', hG', hact⟩
    · -- an error: nothing has changed
      have hv2 : ¬ 0 ≤ v := fun z => by
        rw [Int32.le_iff_toInt_le] at z
        rw [Int32.lt_iff_toInt_lt] at hv
        omega
      refine hact g hist st kept snap t n _ hM ?_
      simp (disch := omega) only [e_L_law_56, e_L_law_58, e_L_law_60, e_L_law_63, e_L_law_63n, e_L_law_64, tand, true_and, and_true, nl1_int, nl1_ref, nl1_null, nl1_ra, cat1_int, cat1_ref, cat1_null, stbs_nil, stbs_cons, stb_int, stb_long, stb_ref, stb_null, stb_ra, alv_nil, alv_cons, alv1_int, alv1_ref, alv1_null, alv1_ra, List.length_nil, List.length_cons, Nat.reduceAdd, Nat.reduceLeDiff, Nat.zero_le, Option.toList_some, Option.toList_none, List.cons_append, List.nil_append, or_true, true_or, or_false, false_or, Nat.reduceEqDiff, not_true_eq_false, not_false_eq_true, false_and, and_false, false_implies, true_implies, implies_true, ne_eq, and_self, ok1, a1, k2, h9, h10, h11, hv2]
      refine hdg g hist st kept snap t n _ hM ?_
      simp (disch := omega) only [e_L_law_67, e_L_law_69, e_L_law_70, e_L_law_73, e_L_law_73n, e_L_law_74, e_L_law_76, tand, true_and, and_true, nl1_int, nl1_ref, nl1_null, nl1_ra, cat1_int, cat1_ref, cat1_null, stbs_nil, stbs_cons, stb_int, stb_long, stb_ref, stb_null, stb_ra, alv_nil, alv_cons, alv1_int, alv1_ref, alv1_null, alv1_ra, List.length_nil, List.length_cons, Nat.reduceAdd, Nat.reduceLeDiff, Nat.zero_le, Option.toList_some, Option.toList_none, List.cons_append, List.nil_append, or_true, true_or, or_false, false_or, Nat.reduceEqDiff, not_true_eq_false, not_false_eq_true, false_and, and_false, false_implies, true_implies, implies_true, ne_eq, and_self, ok1, a1, k2, h9, h10, h11, lg_self, eq_self]
      refine a_count hM tb (by decide) (by decide) ?_
      simp (disch := omega) only [e_L_law_79, e_L_law_81, e_L_law_86, e_L_law_88, tand, true_and, and_true, nl1_int, nl1_ref, nl1_null, nl1_ra, cat1_int, cat1_ref, cat1_null, stbs_nil, stbs_cons, stb_int, stb_long, stb_ref, stb_null, stb_ra, alv_nil, alv_cons, alv1_int, alv1_ref, alv1_null, alv1_ra, List.length_nil, List.length_cons, Nat.reduceAdd, Nat.reduceLeDiff, Nat.zero_le, Option.toList_some, Option.toList_none, List.cons_append, List.nil_append, or_true, true_or, or_false, false_or, Nat.reduceEqDiff, not_true_eq_false, not_false_eq_true, false_and, and_false, false_implies, true_implies, implies_true, ne_eq, and_self, ok1, e19, eq_self, hv]
      exact law_tail hS hM hG (by omega) (fun _ => rfl) (fun _ => rfl) (fun _ => rfl) (fun _ => rfl) (fun _ => rfl) (fun _ => rfl) h9 h10 h11 (ih (e + 1) (by omega) hS hM (hG.up (by omega)) (fun _ => rfl) (fun _ => rfl) (fun _ => rfl) (fun _ => rfl) (fun _ => rfl) (fun _ => rfl) h9 h10 h11)
    · have hv2 : ¬ v < 0 := fun z => by
        rw [Int32.le_iff_toInt_le] at hv
        rw [Int32.lt_iff_toInt_lt] at z
        omega
      refine hact g hist st kept snap t n _ hM fun g1 hM1 f1 => ?_
      have hS1 := hS.mf f1
      obtain ⟨k2', n2', r2'⟩ := id hS1
      have a1' := hM1.k20
      simp (disch := omega) only [e_L_law_56, e_L_law_58, e_L_law_60, e_L_law_86, e_L_law_88, e_L_law_91, e_L_law_92, e_L_law_93, tand, true_and, and_true, nl1_int, nl1_ref, nl1_null, nl1_ra, cat1_int, cat1_ref, cat1_null, stbs_nil, stbs_cons, stb_int, stb_long, stb_ref, stb_null, stb_ra, alv_nil, alv_cons, alv1_int, alv1_ref, alv1_null, alv1_ra, List.length_nil, List.length_cons, Nat.reduceAdd, Nat.reduceLeDiff, Nat.zero_le, Option.toList_some, Option.toList_none, List.cons_append, List.nil_append, or_true, true_or, or_false, false_or, Nat.reduceEqDiff, not_true_eq_false, not_false_eq_true, false_and, and_false, false_implies, true_implies, implies_true, ne_eq, and_self, ok1, a1', k2', h9, h10, h11, hv, hv2]
      refine c_low (by decide) (by decide) ?_
      have r4 := lowN_lt (v := G) (show 0 < 4 by decide)
      by_cases hz : lowN G 4 = 0
      · -- undone, and done again
        obtain ⟨dg', hdg'⟩ := dig_ok hG' (show e + 1 ≤ 6000 by omega)
        simp (disch := omega) only [e_L_law_96, e_L_law_99, e_L_law_99n, e_L_law_100, tand, true_and, and_true, nl1_int, nl1_ref, nl1_null, nl1_ra, cat1_int, cat1_ref, cat1_null, stbs_nil, stbs_cons, stb_int, stb_long, stb_ref, stb_null, stb_ra, alv_nil, alv_cons, alv1_int, alv1_ref, alv1_null, alv1_ra, List.length_nil, List.length_cons, Nat.reduceAdd, Nat.reduceLeDiff, Nat.zero_le, Option.toList_some, Option.toList_none, List.cons_append, List.nil_append, or_true, true_or, or_false, false_or, Nat.reduceEqDiff, not_true_eq_false, not_false_eq_true, false_and, and_false, false_implies, true_implies, implies_true, ne_eq, and_self, ok1, a1', k2', h9, h10, h11, hz, n0z]
        refine hdg' g1 _ _ _ _ _ _ _ hM1 ?_
        simp (disch := omega) only [e_L_law_103, e_L_law_105, e_L_law_105n, e_L_law_106, tand, true_and, and_true, nl1_int, nl1_ref, nl1_null, nl1_ra, cat1_int, cat1_ref, cat1_null, stbs_nil, stbs_cons, stb_int, stb_long, stb_ref, stb_null, stb_ra, alv_nil, alv_cons, alv1_int, alv1_ref, alv1_null, alv1_ra, List.length_nil, List.length_cons, Nat.reduceAdd, Nat.reduceLeDiff, Nat.zero_le, Option.toList_some, Option.toList_none, List.cons_append, List.nil_append, or_true, true_or, or_false, false_or, Nat.reduceEqDiff, not_true_eq_false, not_false_eq_true, false_and, and_false, false_implies, true_implies, implies_true, ne_eq, and_self, ok1, a1', k2', h11]
        refine c_undo hM1 (fun z => by omega) (fun g2 _ hM2 f2 => ?_)
        have ew : hcn w hist 0 = w := if_pos rfl
        rw [ew] at hM2
        have hS2 := hS1.mf f2
        obtain ⟨k2'', n2'', r2''⟩ := id hS2
        have a1'' := hM2.k20
        simp (disch := omega) only [e_L_law_109, e_L_law_111, e_L_law_111n, e_L_law_112, tand, true_and, and_true, nl1_int, nl1_ref, nl1_null, nl1_ra, cat1_int, cat1_ref, cat1_null, stbs_nil, stbs_cons, stb_int, stb_long, stb_ref, stb_null, stb_ra, alv_nil, alv_cons, alv1_int, alv1_ref, alv1_null, alv1_ra, List.length_nil, List.length_cons, Nat.reduceAdd, Nat.reduceLeDiff, Nat.zero_le, Option.toList_some, Option.toList_none, List.cons_append, List.nil_append, or_true, true_or, or_false, false_or, Nat.reduceEqDiff, not_true_eq_false, not_false_eq_true, false_and, and_false, false_implies, true_implies, implies_true, ne_eq, and_self, ok1, a1'', k2'']
        refine hdg g2 _ _ _ _ _ _ _ hM2 ?_
        have fin : WP m_L_law Q 138 [.ref 2, .ref 20, .int (nI e), .int G, .int X, .long dg, .retAddr 0, .int (nI st), .int v, .long dg', .retAddr 0, .int (nI (min (st + 1) 4 - 1))] [] g2 := by
          simp (disch := omega) only [e_L_law_138, e_L_law_138n, e_L_law_139, e_L_law_140, e_L_law_142, tand, true_and, and_true, nl1_int, nl1_ref, nl1_null, nl1_ra, cat1_int, cat1_ref, cat1_null, stbs_nil, stbs_cons, stb_int, stb_long, stb_ref, stb_null, stb_ra, alv_nil, alv_cons, alv1_int, alv1_ref, alv1_null, alv1_ra, List.length_nil, List.length_cons, Nat.reduceAdd, Nat.reduceLeDiff, Nat.zero_le, Option.toList_some, Option.toList_none, List.cons_append, List.nil_append, or_true, true_or, or_false, false_or, Nat.reduceEqDiff, not_true_eq_false, not_false_eq_true, false_and, and_false, false_implies, true_implies, implies_true, ne_eq, and_self, ok1, a1'', k2'']
          refine hact g2 _ _ _ _ _ _ _ hM2 fun g3 hM3 f3 => ?_
          have hS3 := hS2.mf f3
          obtain ⟨k3, n3, r3⟩ := id hS3
          have a3 := hM3.k20
          simp (disch := omega) only [e_L_law_145, e_L_law_147, e_L_law_150, e_L_law_150n, e_L_law_151, tand, true_and, and_true, nl1_int, nl1_ref, nl1_null, nl1_ra, cat1_int, cat1_ref, cat1_null, stbs_nil, stbs_cons, stb_int, stb_long, stb_ref, stb_null, stb_ra, alv_nil, alv_cons, alv1_int, alv1_ref, alv1_null, alv1_ra, List.length_nil, List.length_cons, Nat.reduceAdd, Nat.reduceLeDiff, Nat.zero_le, Option.toList_some, Option.toList_none, List.cons_append, List.nil_append, or_true, true_or, or_false, false_or, Nat.reduceEqDiff, not_true_eq_false, not_false_eq_true, false_and, and_false, false_implies, true_implies, implies_true, ne_eq, and_self, ok1, a3, k3, eq_self]
          refine hdg' g3 _ _ _ _ _ _ _ hM3 ?_
          simp (disch := omega) only [e_L_law_154, e_L_law_156, e_L_law_157, tand, true_and, and_true, nl1_int, nl1_ref, nl1_null, nl1_ra, cat1_int, cat1_ref, cat1_null, stbs_nil, stbs_cons, stb_int, stb_long, stb_ref, stb_null, stb_ra, alv_nil, alv_cons, alv1_int, alv1_ref, alv1_null, alv1_ra, List.length_nil, List.length_cons, Nat.reduceAdd, Nat.reduceLeDiff, Nat.zero_le, Option.toList_some, Option.toList_none, List.cons_append, List.nil_append, or_true, true_or, or_false, false_or, Nat.reduceEqDiff, not_true_eq_false, not_false_eq_true, false_and, and_false, false_implies, true_implies, implies_true, ne_eq, and_self, ok1, lg_self, eq_self]
          exact law_tail hS3 hM3 hG' (by omega) (fun _ => rfl) (fun _ => rfl) (fun _ => rfl) (fun _ => rfl) (fun _ => rfl) (fun _ => rfl) (fun _ => rfl) (fun _ => rfl) (fun _ => rfl) (ih (e + 1) (by omega) hS3 hM3 hG' (fun _ => rfl) (fun _ => rfl) (fun _ => rfl) (fun _ => rfl) (fun _ => rfl) (fun _ => rfl) (fun _ => rfl) (fun _ => rfl) (fun _ => rfl))
        by_cases h4' : st = 4
        · subst h4'
          have em : min (4 + 1) 4 - 1 = 3 := by decide
          rw [em] at fin ⊢
          simp (disch := omega) only [e_L_law_115, e_L_law_117, e_L_law_118, e_L_law_121, e_L_law_123, e_L_law_125, e_L_law_126, e_L_law_129, e_L_law_130, e_L_law_135, tand, true_and, and_true, nl1_int, nl1_ref, nl1_null, nl1_ra, cat1_int, cat1_ref, cat1_null, stbs_nil, stbs_cons, stb_int, stb_long, stb_ref, stb_null, stb_ra, alv_nil, alv_cons, alv1_int, alv1_ref, alv1_null, alv1_ra, List.length_nil, List.length_cons, Nat.reduceAdd, Nat.reduceLeDiff, Nat.zero_le, Option.toList_some, Option.toList_none, List.cons_append, List.nil_append, or_true, true_or, or_false, false_or, Nat.reduceEqDiff, not_true_eq_false, not_false_eq_true, false_and, and_false, false_implies, true_implies, implies_true, ne_eq, and_self, ok1, lg_self, eq_self]
          exact fin
        · have em : min (st + 1) 4 - 1 = st := by omega
          rw [em] at fin ⊢
          simp (disch := omega) only [e_L_law_115, e_L_law_117, e_L_law_118, e_L_law_121, e_L_law_123, e_L_law_125, e_L_law_126, e_L_law_133, e_L_law_135, tand, true_and, and_true, nl1_int, nl1_ref, nl1_null, nl1_ra, cat1_int, cat1_ref, cat1_null, stbs_nil, stbs_cons, stb_int, stb_long, stb_ref, stb_null, stb_ra, alv_nil, alv_cons, alv1_int, alv1_ref, alv1_null, alv1_ra, List.length_nil, List.length_cons, Nat.reduceAdd, Nat.reduceLeDiff, Nat.zero_le, Option.toList_some, Option.toList_none, List.cons_append, List.nil_append, or_true, true_or, or_false, false_or, Nat.reduceEqDiff, not_true_eq_false, not_false_eq_true, false_and, and_false, false_implies, true_implies, implies_true, ne_eq, and_self, ok1, lg_self, eq_self, nI_eqE, h4']
          exact fin
      · simp (disch := omega) only [e_L_law_96, tand, true_and, and_true, nl1_int, nl1_ref, nl1_null, nl1_ra, cat1_int, cat1_ref, cat1_null, stbs_nil, stbs_cons, stb_int, stb_long, stb_ref, stb_null, stb_ra, alv_nil, alv_cons, alv1_int, alv1_ref, alv1_null, alv1_ra, List.length_nil, List.length_cons, Nat.reduceAdd, Nat.reduceLeDiff, Nat.zero_le, Option.toList_some, Option.toList_none, List.cons_append, List.nil_append, or_true, true_or, or_false, false_or, Nat.reduceEqDiff, not_true_eq_false, not_false_eq_true, false_and, and_false, false_implies, true_implies, implies_true, ne_eq, and_self, ok1, nI_eq0, hz]
        exact law_tail hS1 hM1 hG' (by omega) (fun _ => rfl) (fun _ => rfl) (fun _ => rfl) (fun _ => rfl) (fun _ => rfl) (fun _ => rfl) h9 h10 h11 (ih (e + 1) (by omega) hS1 hM1 hG' (fun _ => rfl) (fun _ => rfl) (fun _ => rfl) (fun _ => rfl) (fun _ => rfl) (fun _ => rfl) h9 h10 h11)
end Llo
