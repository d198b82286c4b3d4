/-! ===== the law goes through the standing orders ===== -/
theorem cB_le {w : Rw} {b : Nat} : cB w b ≤ 17 := by
  have h := sm_le (f := fun i => nB (stF w b i)) (g := fun _ => 1) 17 (fun i _ => by
    show nB _ ≤ 1
    unfold nB
    split <;> omega)
  have e : sm (fun _ => 1) 17 = 17 := by simp only [sm]
  unfold cB
  omega
theorem dpN_le {w : Rw} {b p : Nat} (h : ∀ i, i < 17 → wF w i 3 ≤ 999) : dpN w b p 17 ≤ 16983 := by
  have h1 := sm_le (f := fun i => if wF w i 1 ≠ b ∧ meF w i p = true then wF w i 3 else 0) (g := fun _ => 999) 17 (fun i hi => by
    show (if wF w i 1 ≠ b ∧ meF w i p = true then wF w i 3 else 0) ≤ 999
    have := h i hi
    split <;> omega)
  have e : sm (fun _ => 999) 17 = 16983 := by simp only [sm]
  unfold dpN
  omega
def fHd (w : Rw) (b : Nat) : Nat → Nat := fun j => if b = 1 then wF w j 3 * wF w j 4 else wF w j 3
/-- the order before is ahead of all that follow -/
def PvO (w : Rw) (b x pr : Nat) (nu : Int32) : Prop := ∀ i, i < 17 → stF w b i = true → x ≤ btN w i → (wF w i 4 = pr → nu < nI (wF w i 0)) ∧ (wF w i 4 ≠ pr → if b = 1 then wF w i 4 < pr else pr < wF w i 4)
theorem PvO.next {w : Rw} {b x i : Nat} (hI : InvA w) (hn : ∀ i, i < 17 → wF w i 0 < 2 ^ 28) (hb : b ≤ 1) (hi : i < 17) (si : stF w b i = true) (er : btN w i = x) : PvO w b (x + 1) (wF w i 4) (nI (wF w i 0)) := fun j hj sj hx => by
  have h := beF_iff.mp (rank_ord hI hi hj si sj (by omega))
  have n1 := hn i hi
  have n2 := hn j hj
  obtain ⟨_, k1⟩ := stF_spec si
  refine ⟨fun e => ?_, fun e => ?_⟩
  · rw [nI_ltE (by omega) (by omega)]
    omega
  · by_cases hb1 : b = 1
    · rw [if_pos hb1]; omega
    · rw [if_neg hb1]; omega
section Lor
variable {w snap : Rw} {u st kept n : Nat} {t : Nat → Nat} {hist : Nat → Rw} {Q : mQ} {g : mG}
theorem ord1_1 (hM : MA g w hist st kept snap t n) (hG : Good w u) (hu : u ≤ 6000) (q : ∀ (pr : Nat) (nu : Int32) (l7 l8 l9 : Value), stb g l7 = True → stb g l8 = True → stb g l9 = True → WP m_L_orders Q 202 [.ref 20, .int (nI 1), .int (nI (cB w 1)), .int (nI (rkS w 1 (fHd w 1) (cB w 1))), .int (nI (rkS w 1 (fun j => wF w j 3) (cB w 1))), .int (nI pr), .int nu, l7, l8, l9] [] g) : ∀ (d x pr : Nat) (nu : Int32) (l7 l8 l9 : Value), stb g l7 = True → stb g l8 = True → stb g l9 = True → x + d = cB w 1 → pr < 2 ^ 20 → PvO w 1 x pr nu → WP m_L_orders Q 23 [.ref 20, .int (nI 1), .int (nI x), .int (nI (rkS w 1 (fHd w 1) x)), .int (nI (rkS w 1 (fun j => wF w j 3) x)), .int (nI pr), .int nu, l7, l8, l9] [] g := by
  have tb := hG.1.1.tb hu
  have hI := hG.1.1.1
  have hO := hG.1.1.2.2.1.1
  have a1 := hM.k20
  have cl := cB_le (w := w) (b := 1)
  have hn : ∀ i, i < 17 → wF w i 0 < 2 ^ 28 := fun i hi => (tb.2.2 i hi).1 0 (by decide)
  intro d
  induction d with
  | zero =>
    intro x pr nu l7 l8 l9 h7 h8 h9 hx hpr hP
    have e : x = cB w 1 := by omega
    subst e
    have m5 : ((-5 : Int32) < 0) = True := propext ⟨fun _ => trivial, fun _ => by decide⟩
    simp (disch := omega) only [e_L_orders_23, e_L_orders_23n, e_L_orders_24, e_L_orders_25, e_L_orders_26, e_L_orders_27, tand, true_and, and_true, nl1_int, nl1_ref, nl1_null, nl1_ra, cat1_int, cat1_ref, cat1_null, stbs_nil, stbs_cons, stb_int, stb_long, stb_ref, stb_null, stb_ra, alv_nil, alv_cons, alv1_int, alv1_ref, alv1_null, alv1_ra, List.length_nil, List.length_cons, Nat.reduceAdd, Nat.reduceLeDiff, Nat.zero_le, Option.toList_some, Option.toList_none, List.cons_append, List.nil_append, or_true, true_or, or_false, false_or, Nat.reduceEqDiff, not_true_eq_false, not_false_eq_true, false_and, and_false, false_implies, true_implies, implies_true, ne_eq, and_self, ok1, a1, h7, h8, h9]
    refine a_ord0 hM tb (by decide) (by decide) (by omega) (fun i hi si => by have := btN_cB hi si; omega) ?_
    simp (disch := omega) only [e_L_orders_30, tand, true_and, and_true, nl1_int, nl1_ref, nl1_null, nl1_ra, cat1_int, cat1_ref, cat1_null, stbs_nil, stbs_cons, stb_int, stb_long, stb_ref, stb_null, stb_ra, alv_nil, alv_cons, alv1_int, alv1_ref, alv1_null, alv1_ra, List.length_nil, List.length_cons, Nat.reduceAdd, Nat.reduceLeDiff, Nat.zero_le, Option.toList_some, Option.toList_none, List.cons_append, List.nil_append, or_true, true_or, or_false, false_or, Nat.reduceEqDiff, not_true_eq_false, not_false_eq_true, false_and, and_false, false_implies, true_implies, implies_true, ne_eq, and_self, ok1, m5]
    exact q pr nu l7 l8 l9 h7 h8 h9
  | succ d ih =>
    intro x pr nu l7 l8 l9 h7 h8 h9 hx hpr hP
    obtain ⟨i, hi, si, er⟩ := rank_ex hI (w := w) (b := 1) (r := x) (by omega)
    obtain ⟨i1, i2⟩ := stF_spec si
    obtain ⟨q0, q3, q4, q5⟩ := hO i hi
    have num := hI.2.2.2 i hi i1
    have kln := (hI.2.1 i hi).2.1
    have f0 := hn i hi
    have f6 := tb.1 6 (by decide)
    have o0 : wF w i (fO 0) = wF w i 0 := rfl
    have o1 : wF w i (fO 1) = wF w i 2 := rfl
    have o2 : wF w i (fO 2) = wF w i 3 := rfl
    have o3 : wF w i (fO 3) = wF w i 4 := rfl
    have e8 : cuN w st n 8 = wS w 6 := rfl
    have q5' := q5 i1
    obtain ⟨v1, v2⟩ := hP i hi si (by omega)
    have rH : rkS w 1 (fHd w 1) (x + 1) = rkS w 1 (fHd w 1) x + wF w i 3 * wF w i 4 := rkS_s hI hi si er
    have rP : rkS w 1 (fun j => wF w j 3) (x + 1) = rkS w 1 (fun j => wF w j 3) x + wF w i 3 := rkS_s hI hi si er
    have hdp : rkS w 1 (fun j => wF w j 3) (x + 1) ≤ dpN w 0 (wF w i 4) 17 := rkS_dep hI (b := 1) (by decide) hi si er
    have hdl := dpN_le (w := w) (b := 0) (p := wF w i 4) (fun i hi => (hO i hi).2.1)
    have next := ih (x + 1) (wF w i 4) (nI (wF w i 0)) (.int (nI (wF w i 4))) (.int (nI (wF w i 3))) (.int (nI 1)) rfl rfl rfl (by omega) (by omega) (PvO.next hI hn (by decide) hi si er)
    rw [rH, rP] at next
    rw [rP] at hdp
    generalize rkS w 1 (fHd w 1) x = H at *
    generalize rkS w 1 (fun j => wF w j 3) x = P at *
    have l31 : ¬ wF w i 3 < 1 := by omega
    have n6 : ¬ wS w 6 ≤ wF w i 0 := by omega
    have tail : WP m_L_orders Q 91 [.ref 20, .int (nI 1), .int (nI x), .int (nI H), .int (nI P), .int (nI pr), .int nu, .int (nI (wF w i 4)), .int (nI (wF w i 3)), l9] [] g := by
      simp (disch := omega) only [e_L_orders_91, e_L_orders_92, e_L_orders_96, e_L_orders_98, e_L_orders_100, e_L_orders_103, e_L_orders_105, e_L_orders_106, e_L_orders_109, e_L_orders_109n, e_L_orders_110, e_L_orders_111, e_L_orders_112, e_L_orders_113, tand, true_and, and_true, nl1_int, nl1_ref, nl1_null, nl1_ra, cat1_int, cat1_ref, cat1_null, stbs_nil, stbs_cons, stb_int, stb_long, stb_ref, stb_null, stb_ra, alv_nil, alv_cons, alv1_int, alv1_ref, alv1_null, alv1_ra, List.length_nil, List.length_cons, Nat.reduceAdd, Nat.reduceLeDiff, Nat.zero_le, Option.toList_some, Option.toList_none, List.cons_append, List.nil_append, or_true, true_or, or_false, false_or, Nat.reduceEqDiff, not_true_eq_false, not_false_eq_true, false_and, and_false, false_implies, true_implies, implies_true, ne_eq, and_self, ok1, a1, n1z, nI_ltE, l31]
      refine a_ord hM tb hI (by decide) (by decide) hi si er ?_
      simp (disch := omega) only [e_L_orders_116, e_L_orders_116n, e_L_orders_117, e_L_orders_119, tand, true_and, and_true, nl1_int, nl1_ref, nl1_null, nl1_ra, cat1_int, cat1_ref, cat1_null, stbs_nil, stbs_cons, stb_int, stb_long, stb_ref, stb_null, stb_ra, alv_nil, alv_cons, alv1_int, alv1_ref, alv1_null, alv1_ra, List.length_nil, List.length_cons, Nat.reduceAdd, Nat.reduceLeDiff, Nat.zero_le, Option.toList_some, Option.toList_none, List.cons_append, List.nil_append, or_true, true_or, or_false, false_or, Nat.reduceEqDiff, not_true_eq_false, not_false_eq_true, false_and, and_false, false_implies, true_implies, implies_true, ne_eq, and_self, ok1, a1, o0]
      refine a_count hM tb (by decide) (by decide) ?_
      simp (disch := omega) only [e_L_orders_122, e_L_orders_125, e_L_orders_125n, e_L_orders_126, e_L_orders_127, e_L_orders_128, e_L_orders_129, tand, true_and, and_true, nl1_int, nl1_ref, nl1_null, nl1_ra, cat1_int, cat1_ref, cat1_null, stbs_nil, stbs_cons, stb_int, stb_long, stb_ref, stb_null, stb_ra, alv_nil, alv_cons, alv1_int, alv1_ref, alv1_null, alv1_ra, List.length_nil, List.length_cons, Nat.reduceAdd, Nat.reduceLeDiff, Nat.zero_le, Option.toList_some, Option.toList_none, List.cons_append, List.nil_append, or_true, true_or, or_false, false_or, Nat.reduceEqDiff, not_true_eq_false, not_false_eq_true, false_and, and_false, false_implies, true_implies, implies_true, ne_eq, and_self, ok1, a1, e8, nI_leE, n6]
      refine a_ord hM tb hI (by decide) (by decide) hi si er ?_
      simp (disch := omega) only [e_L_orders_132, e_L_orders_137, e_L_orders_139, e_L_orders_141, e_L_orders_142, e_L_orders_144, e_L_orders_145, e_L_orders_146, e_L_orders_149, e_L_orders_151, e_L_orders_153, e_L_orders_154, e_L_orders_159, e_L_orders_160, e_L_orders_161, e_L_orders_161n, e_L_orders_162, e_L_orders_163, e_L_orders_170, e_L_orders_171, e_L_orders_173, tand, true_and, and_true, nl1_int, nl1_ref, nl1_null, nl1_ra, cat1_int, cat1_ref, cat1_null, stbs_nil, stbs_cons, stb_int, stb_long, stb_ref, stb_null, stb_ra, alv_nil, alv_cons, alv1_int, alv1_ref, alv1_null, alv1_ra, List.length_nil, List.length_cons, Nat.reduceAdd, Nat.reduceLeDiff, Nat.zero_le, Option.toList_some, Option.toList_none, List.cons_append, List.nil_append, or_true, true_or, or_false, false_or, Nat.reduceEqDiff, not_true_eq_false, not_false_eq_true, false_and, and_false, false_implies, true_implies, implies_true, ne_eq, and_self, ok1, a1, o1, nI_0le, n1z, nI_add, pk_mul]
      refine a_dep hM tb (by decide) (by omega) (by omega) ?_
      simp (disch := omega) only [e_L_orders_176, e_L_orders_178, e_L_orders_181, e_L_orders_182, e_L_orders_183, e_L_orders_185, e_L_orders_187, e_L_orders_187n, e_L_orders_188, e_L_orders_189, e_L_orders_190, e_L_orders_191, tand, true_and, and_true, nl1_int, nl1_ref, nl1_null, nl1_ra, cat1_int, cat1_ref, cat1_null, stbs_nil, stbs_cons, stb_int, stb_long, stb_ref, stb_null, stb_ra, alv_nil, alv_cons, alv1_int, alv1_ref, alv1_null, alv1_ra, List.length_nil, List.length_cons, Nat.reduceAdd, Nat.reduceLeDiff, Nat.zero_le, Option.toList_some, Option.toList_none, List.cons_append, List.nil_append, or_true, true_or, or_false, false_or, Nat.reduceEqDiff, not_true_eq_false, not_false_eq_true, false_and, and_false, false_implies, true_implies, implies_true, ne_eq, and_self, ok1, a1, nI_leE, hdp]
      refine a_ord hM tb hI (by decide) (by decide) hi si er ?_
      simp (disch := omega) only [e_L_orders_194, e_L_orders_196, tand, true_and, and_true, nl1_int, nl1_ref, nl1_null, nl1_ra, cat1_int, cat1_ref, cat1_null, stbs_nil, stbs_cons, stb_int, stb_long, stb_ref, stb_null, stb_ra, alv_nil, alv_cons, alv1_int, alv1_ref, alv1_null, alv1_ra, List.length_nil, List.length_cons, Nat.reduceAdd, Nat.reduceLeDiff, Nat.zero_le, Option.toList_some, Option.toList_none, List.cons_append, List.nil_append, or_true, true_or, or_false, false_or, Nat.reduceEqDiff, not_true_eq_false, not_false_eq_true, false_and, and_false, false_implies, true_implies, implies_true, ne_eq, and_self, ok1, o0, nI_add]
      simp only [e_L_orders_199, tand, true_and, and_true, nl1_int, nl1_ref, nl1_null, nl1_ra, cat1_int, cat1_ref, cat1_null, stbs_nil, stbs_cons, stb_int, stb_long, stb_ref, stb_null, stb_ra, alv_nil, alv_cons, alv1_int, alv1_ref, alv1_null, alv1_ra, List.length_nil, List.length_cons, Nat.reduceAdd, Nat.reduceLeDiff, Nat.zero_le, Option.toList_some, Option.toList_none, List.cons_append, List.nil_append, or_true, true_or, or_false, false_or, Nat.reduceEqDiff, not_true_eq_false, not_false_eq_true, false_and, and_false, false_implies, true_implies, implies_true, ne_eq, and_self, ok1]
      exact next
    simp (disch := omega) only [e_L_orders_23, e_L_orders_23n, e_L_orders_24, e_L_orders_25, e_L_orders_26, e_L_orders_27, tand, true_and, and_true, nl1_int, nl1_ref, nl1_null, nl1_ra, cat1_int, cat1_ref, cat1_null, stbs_nil, stbs_cons, stb_int, stb_long, stb_ref, stb_null, stb_ra, alv_nil, alv_cons, alv1_int, alv1_ref, alv1_null, alv1_ra, List.length_nil, List.length_cons, Nat.reduceAdd, Nat.reduceLeDiff, Nat.zero_le, Option.toList_some, Option.toList_none, List.cons_append, List.nil_append, or_true, true_or, or_false, false_or, Nat.reduceEqDiff, not_true_eq_false, not_false_eq_true, false_and, and_false, false_implies, true_implies, implies_true, ne_eq, and_self, ok1, a1, h7, h8, h9]
    refine a_ord hM tb hI (by decide) (by decide) hi si er ?_
    simp (disch := omega) only [e_L_orders_30, e_L_orders_33, e_L_orders_33n, e_L_orders_34, e_L_orders_35, e_L_orders_36, e_L_orders_37, tand, true_and, and_true, nl1_int, nl1_ref, nl1_null, nl1_ra, cat1_int, cat1_ref, cat1_null, stbs_nil, stbs_cons, stb_int, stb_long, stb_ref, stb_null, stb_ra, alv_nil, alv_cons, alv1_int, alv1_ref, alv1_null, alv1_ra, List.length_nil, List.length_cons, Nat.reduceAdd, Nat.reduceLeDiff, Nat.zero_le, Option.toList_some, Option.toList_none, List.cons_append, List.nil_append, or_true, true_or, or_false, false_or, Nat.reduceEqDiff, not_true_eq_false, not_false_eq_true, false_and, and_false, false_implies, true_implies, implies_true, ne_eq, and_self, ok1, a1, h7, h8, h9, o0, nI_lt0]
    refine a_ord hM tb hI (by decide) (by decide) hi si er ?_
    simp (disch := omega) only [e_L_orders_40, e_L_orders_42, e_L_orders_42n, e_L_orders_43, e_L_orders_44, e_L_orders_45, e_L_orders_46, tand, true_and, and_true, nl1_int, nl1_ref, nl1_null, nl1_ra, cat1_int, cat1_ref, cat1_null, stbs_nil, stbs_cons, stb_int, stb_long, stb_ref, stb_null, stb_ra, alv_nil, alv_cons, alv1_int, alv1_ref, alv1_null, alv1_ra, List.length_nil, List.length_cons, Nat.reduceAdd, Nat.reduceLeDiff, Nat.zero_le, Option.toList_some, Option.toList_none, List.cons_append, List.nil_append, or_true, true_or, or_false, false_or, Nat.reduceEqDiff, not_true_eq_false, not_false_eq_true, false_and, and_false, false_implies, true_implies, implies_true, ne_eq, and_self, ok1, a1, h7, h8, h9, o3]
    refine a_ord hM tb hI (by decide) (by decide) hi si er ?_
    by_cases he : wF w i 4 = pr
    · have v1' := v1 he
      simp (disch := omega) only [e_L_orders_49, e_L_orders_51, e_L_orders_53, e_L_orders_55, e_L_orders_58, e_L_orders_58n, e_L_orders_59, e_L_orders_60, e_L_orders_61, e_L_orders_62, tand, true_and, and_true, nl1_int, nl1_ref, nl1_null, nl1_ra, cat1_int, cat1_ref, cat1_null, stbs_nil, stbs_cons, stb_int, stb_long, stb_ref, stb_null, stb_ra, alv_nil, alv_cons, alv1_int, alv1_ref, alv1_null, alv1_ra, List.length_nil, List.length_cons, Nat.reduceAdd, Nat.reduceLeDiff, Nat.zero_le, Option.toList_some, Option.toList_none, List.cons_append, List.nil_append, or_true, true_or, or_false, false_or, Nat.reduceEqDiff, not_true_eq_false, not_false_eq_true, false_and, and_false, false_implies, true_implies, implies_true, ne_eq, and_self, ok1, a1, h7, h8, h9, o2, nI_eqE, he, eq_self]
      refine a_ord hM tb hI (by decide) (by decide) hi si er ?_
      simp (disch := omega) only [e_L_orders_65, e_L_orders_67, tand, true_and, and_true, nl1_int, nl1_ref, nl1_null, nl1_ra, cat1_int, cat1_ref, cat1_null, stbs_nil, stbs_cons, stb_int, stb_long, stb_ref, stb_null, stb_ra, alv_nil, alv_cons, alv1_int, alv1_ref, alv1_null, alv1_ra, List.length_nil, List.length_cons, Nat.reduceAdd, Nat.reduceLeDiff, Nat.zero_le, Option.toList_some, Option.toList_none, List.cons_append, List.nil_append, or_true, true_or, or_false, false_or, Nat.reduceEqDiff, not_true_eq_false, not_false_eq_true, false_and, and_false, false_implies, true_implies, implies_true, ne_eq, and_self, ok1, o0, v1']
      rw [he] at tail
      exact tail
    · have hv := v2 he
      rw [if_pos rfl] at hv
      have hge : ¬ pr ≤ wF w i 4 := by omega
      simp (disch := omega) only [e_L_orders_49, e_L_orders_51, e_L_orders_53, e_L_orders_55, e_L_orders_70, e_L_orders_71, e_L_orders_74, e_L_orders_76, e_L_orders_78, e_L_orders_81, tand, true_and, and_true, nl1_int, nl1_ref, nl1_null, nl1_ra, cat1_int, cat1_ref, cat1_null, stbs_nil, stbs_cons, stb_int, stb_long, stb_ref, stb_null, stb_ra, alv_nil, alv_cons, alv1_int, alv1_ref, alv1_null, alv1_ra, List.length_nil, List.length_cons, Nat.reduceAdd, Nat.reduceLeDiff, Nat.zero_le, Option.toList_some, Option.toList_none, List.cons_append, List.nil_append, or_true, true_or, or_false, false_or, Nat.reduceEqDiff, not_true_eq_false, not_false_eq_true, false_and, and_false, false_implies, true_implies, implies_true, ne_eq, and_self, ok1, h7, h8, h9, o2, nI_eqE, he, n1z, nI_leE, hge]
      exact tail
theorem ord2_1 (hM : MA g w hist st kept snap t n) (hG : Good w u) (hu : u ≤ 6000) {l2 l3 l4 l5 l6 : Int32} {l9 : Value} (h9 : stb g l9 = True) (q : WP m_L_orders Q 246 [.ref 20, .int (nI 1), .int l2, .int l3, .int l4, .int l5, .int l6, .int (nI (sm (hbF w) 17)), .int (nI 0), l9] [] g) : ∀ (d k : Nat), k + d = 6 → WP m_L_orders Q 208 [.ref 20, .int (nI 1), .int l2, .int l3, .int l4, .int l5, .int l6, .int (nI (sm (hdN w) k)), .int (nI k), l9] [] g := by
  have tb := hG.1.1.tb hu
  have a1 := hM.k20
  intro d
  induction d with
  | zero =>
    intro k hk
    have e : k = 6 := by omega
    subst e
    have es : sm (hdN w) 6 = sm (hbF w) 17 := sm_cls hG.1.1.1
    rw [es]
    simp (disch := omega) only [e_L_orders_208, e_L_orders_210, e_L_orders_212, e_L_orders_243, e_L_orders_244, tand, true_and, and_true, nl1_int, nl1_ref, nl1_null, nl1_ra, cat1_int, cat1_ref, cat1_null, stbs_nil, stbs_cons, stb_int, stb_long, stb_ref, stb_null, stb_ra, alv_nil, alv_cons, alv1_int, alv1_ref, alv1_null, alv1_ra, List.length_nil, List.length_cons, Nat.reduceAdd, Nat.reduceLeDiff, Nat.zero_le, Option.toList_some, Option.toList_none, List.cons_append, List.nil_append, or_true, true_or, or_false, false_or, Nat.reduceEqDiff, not_true_eq_false, not_false_eq_true, false_and, and_false, false_implies, true_implies, implies_true, ne_eq, and_self, ok1, nI_leE]
    exact q
  | succ d ih =>
    intro k hk
    have hlt : ¬ 6 ≤ k := by omega
    have e : sm (hdN w) (k + 1) = sm (hdN w) k + hdN w k := rfl
    have ek : kaN w k 11 = hdN w k := rfl
    have next := ih (k + 1) (by omega)
    rw [e] at next
    simp (disch := omega) only [e_L_orders_208, e_L_orders_210, e_L_orders_212, e_L_orders_215, e_L_orders_217, e_L_orders_217n, e_L_orders_218, e_L_orders_220, e_L_orders_221, e_L_orders_224, e_L_orders_226, e_L_orders_231, tand, true_and, and_true, nl1_int, nl1_ref, nl1_null, nl1_ra, cat1_int, cat1_ref, cat1_null, stbs_nil, stbs_cons, stb_int, stb_long, stb_ref, stb_null, stb_ra, alv_nil, alv_cons, alv1_int, alv1_ref, alv1_null, alv1_ra, List.length_nil, List.length_cons, Nat.reduceAdd, Nat.reduceLeDiff, Nat.zero_le, Option.toList_some, Option.toList_none, List.cons_append, List.nil_append, or_true, true_or, or_false, false_or, Nat.reduceEqDiff, not_true_eq_false, not_false_eq_true, false_and, and_false, false_implies, true_implies, implies_true, ne_eq, and_self, ok1, a1, h9, nI_leE, hlt, n1z]
    refine a_kiln hM tb (by omega) (by decide) (by decide) ?_
    simp (disch := omega) only [e_L_orders_234, e_L_orders_235, e_L_orders_237, tand, true_and, and_true, nl1_int, nl1_ref, nl1_null, nl1_ra, cat1_int, cat1_ref, cat1_null, stbs_nil, stbs_cons, stb_int, stb_long, stb_ref, stb_null, stb_ra, alv_nil, alv_cons, alv1_int, alv1_ref, alv1_null, alv1_ra, List.length_nil, List.length_cons, Nat.reduceAdd, Nat.reduceLeDiff, Nat.zero_le, Option.toList_some, Option.toList_none, List.cons_append, List.nil_append, or_true, true_or, or_false, false_or, Nat.reduceEqDiff, not_true_eq_false, not_false_eq_true, false_and, and_false, false_implies, true_implies, implies_true, ne_eq, and_self, ok1, ek, nI_add]
    simp only [e_L_orders_240, tand, true_and, and_true, nl1_int, nl1_ref, nl1_null, nl1_ra, cat1_int, cat1_ref, cat1_null, stbs_nil, stbs_cons, stb_int, stb_long, stb_ref, stb_null, stb_ra, alv_nil, alv_cons, alv1_int, alv1_ref, alv1_null, alv1_ra, List.length_nil, List.length_cons, Nat.reduceAdd, Nat.reduceLeDiff, Nat.zero_le, Option.toList_some, Option.toList_none, List.cons_append, List.nil_append, or_true, true_or, or_false, false_or, Nat.reduceEqDiff, not_true_eq_false, not_false_eq_true, false_and, and_false, false_implies, true_implies, implies_true, ne_eq, and_self, ok1]
    exact next
theorem ord3_1 (hM : MA g w hist st kept snap t n) (hG : Good w u) (hu : u ≤ 6000) {l2 l3 l4 l5 l6 l7 : Int32} {l9 : Value} (h9 : stb g l9 = True) (q : WP m_L_orders Q 271 [.ref 20, .int (nI 1), .int l2, .int l3, .int l4, .int l5, .int l6, .int l7, .int (nI (cB w 0)), l9] [] g) : ∀ (d x : Nat), x + d = cB w 0 → WP m_L_orders Q 246 [.ref 20, .int (nI 1), .int l2, .int l3, .int l4, .int l5, .int l6, .int l7, .int (nI x), l9] [] g := by
  have tb := hG.1.1.tb hu
  have hI := hG.1.1.1
  have a1 := hM.k20
  have cl := cB_le (w := w) (b := 0)
  intro d
  induction d with
  | zero =>
    intro x hx
    have e : x = cB w 0 := by omega
    subst e
    have m5 : ((-5 : Int32) < 0) = True := propext ⟨fun _ => trivial, fun _ => by decide⟩
    simp (disch := omega) only [e_L_orders_246, e_L_orders_246n, e_L_orders_247, e_L_orders_248, e_L_orders_255, e_L_orders_256, e_L_orders_258, e_L_orders_259, tand, true_and, and_true, nl1_int, nl1_ref, nl1_null, nl1_ra, cat1_int, cat1_ref, cat1_null, stbs_nil, stbs_cons, stb_int, stb_long, stb_ref, stb_null, stb_ra, alv_nil, alv_cons, alv1_int, alv1_ref, alv1_null, alv1_ra, List.length_nil, List.length_cons, Nat.reduceAdd, Nat.reduceLeDiff, Nat.zero_le, Option.toList_some, Option.toList_none, List.cons_append, List.nil_append, or_true, true_or, or_false, false_or, Nat.reduceEqDiff, not_true_eq_false, not_false_eq_true, false_and, and_false, false_implies, true_implies, implies_true, ne_eq, and_self, ok1, a1, h9, n1z]
    refine a_ord0 hM tb (by decide) (by decide) (by omega) (fun i hi si => by have := btN_cB hi si; omega) ?_
    simp (disch := omega) only [e_L_orders_262, tand, true_and, and_true, nl1_int, nl1_ref, nl1_null, nl1_ra, cat1_int, cat1_ref, cat1_null, stbs_nil, stbs_cons, stb_int, stb_long, stb_ref, stb_null, stb_ra, alv_nil, alv_cons, alv1_int, alv1_ref, alv1_null, alv1_ra, List.length_nil, List.length_cons, Nat.reduceAdd, Nat.reduceLeDiff, Nat.zero_le, Option.toList_some, Option.toList_none, List.cons_append, List.nil_append, or_true, true_or, or_false, false_or, Nat.reduceEqDiff, not_true_eq_false, not_false_eq_true, false_and, and_false, false_implies, true_implies, implies_true, ne_eq, and_self, ok1, m5]
    exact q
  | succ d ih =>
    intro x hx
    obtain ⟨i, hi, si, er⟩ := rank_ex hI (w := w) (b := 0) (r := x) (by omega)
    have f0 := (tb.2.2 i hi).1 0 (by decide)
    have o0 : wF w i (fO 0) = wF w i 0 := rfl
    simp (disch := omega) only [e_L_orders_246, e_L_orders_246n, e_L_orders_247, e_L_orders_248, e_L_orders_255, e_L_orders_256, e_L_orders_258, e_L_orders_259, tand, true_and, and_true, nl1_int, nl1_ref, nl1_null, nl1_ra, cat1_int, cat1_ref, cat1_null, stbs_nil, stbs_cons, stb_int, stb_long, stb_ref, stb_null, stb_ra, alv_nil, alv_cons, alv1_int, alv1_ref, alv1_null, alv1_ra, List.length_nil, List.length_cons, Nat.reduceAdd, Nat.reduceLeDiff, Nat.zero_le, Option.toList_some, Option.toList_none, List.cons_append, List.nil_append, or_true, true_or, or_false, false_or, Nat.reduceEqDiff, not_true_eq_false, not_false_eq_true, false_and, and_false, false_implies, true_implies, implies_true, ne_eq, and_self, ok1, a1, h9, n1z]
    refine a_ord hM tb hI (by decide) (by decide) hi si er ?_
    simp (disch := omega) only [e_L_orders_262, e_L_orders_265, tand, true_and, and_true, nl1_int, nl1_ref, nl1_null, nl1_ra, cat1_int, cat1_ref, cat1_null, stbs_nil, stbs_cons, stb_int, stb_long, stb_ref, stb_null, stb_ra, alv_nil, alv_cons, alv1_int, alv1_ref, alv1_null, alv1_ra, List.length_nil, List.length_cons, Nat.reduceAdd, Nat.reduceLeDiff, Nat.zero_le, Option.toList_some, Option.toList_none, List.cons_append, List.nil_append, or_true, true_or, or_false, false_or, Nat.reduceEqDiff, not_true_eq_false, not_false_eq_true, false_and, and_false, false_implies, true_implies, implies_true, ne_eq, and_self, ok1, o0, nI_lt0, nI_add]
    simp only [e_L_orders_268, tand, true_and, and_true, nl1_int, nl1_ref, nl1_null, nl1_ra, cat1_int, cat1_ref, cat1_null, stbs_nil, stbs_cons, stb_int, stb_long, stb_ref, stb_null, stb_ra, alv_nil, alv_cons, alv1_int, alv1_ref, alv1_null, alv1_ra, List.length_nil, List.length_cons, Nat.reduceAdd, Nat.reduceLeDiff, Nat.zero_le, Option.toList_some, Option.toList_none, List.cons_append, List.nil_append, or_true, true_or, or_false, false_or, Nat.reduceEqDiff, not_true_eq_false, not_false_eq_true, false_and, and_false, false_implies, true_implies, implies_true, ne_eq, and_self, ok1]
    exact ih (x + 1) (by omega)
theorem c_Lorders1 (hM : MA g w hist st kept snap t n) (hG : Good w u) (hu : u ≤ 6000) (q : Q (some (.int (nI 1))) g) : w_L_orders [.ref 20, .int (nI 1)] g Q := by
  refine wm_at rfl ⟨trivial, trivial, trivial⟩ (show WP m_L_orders Q 0 [.ref 20, .int (nI 1), .retAddr 0, .retAddr 0, .retAddr 0, .retAddr 0, .retAddr 0, .retAddr 0, .retAddr 0, .retAddr 0] [] g from ?_)
  have tb := hG.1.1.tb hu
  have hI := hG.1.1.1
  have hO := hG.1.1.2.2.1.1
  have a1 := hM.k20
  have cl := cB_le (w := w) (b := 1)
  have e7 : cuN w st n 7 = cntN w := rfl
  have cs : cB w 1 + cB w 0 = cntN w := by have := cB_sum hI; omega
  have hh : rkS w 1 (fHd w 1) (cB w 1) = sm (hbF w) 17 := rkS_held hI (b := 1) (by decide)
  have hd : dpN w 0 1 17 = rkS w 1 (fun j => wF w j 3) (cB w 1) := dpN_all hI (fun i hi => ⟨(hO i hi).2.2.1, (hO i hi).2.2.2⟩) (b := 1) (by decide)
  have r0 : rkS w 1 (fHd w 1) 0 = 0 := rkS_0
  have r1 : rkS w 1 (fun j => wF w j 3) 0 = 0 := rkS_0
  simp (disch := omega) only [e_L_orders_0, e_L_orders_1, e_L_orders_2, e_L_orders_3, e_L_orders_4, e_L_orders_5, e_L_orders_7, e_L_orders_8, e_L_orders_11, e_L_orders_14, e_L_orders_18, e_L_orders_20, e_L_orders_21, tand, true_and, and_true, nl1_int, nl1_ref, nl1_null, nl1_ra, cat1_int, cat1_ref, cat1_null, stbs_nil, stbs_cons, stb_int, stb_long, stb_ref, stb_null, stb_ra, alv_nil, alv_cons, alv1_int, alv1_ref, alv1_null, alv1_ra, List.length_nil, List.length_cons, Nat.reduceAdd, Nat.reduceLeDiff, Nat.zero_le, Option.toList_some, Option.toList_none, List.cons_append, List.nil_append, or_true, true_or, or_false, false_or, Nat.reduceEqDiff, not_true_eq_false, not_false_eq_true, false_and, and_false, false_implies, true_implies, implies_true, ne_eq, and_self, ok1, n1z]
  have start := ord1_1 (Q := Q) hM hG hu (fun pr nu l7 l8 l9 h7 h8 h9 => by
    rw [hh]
    simp (disch := omega) only [e_L_orders_202, e_L_orders_203, e_L_orders_205, e_L_orders_206, tand, true_and, and_true, nl1_int, nl1_ref, nl1_null, nl1_ra, cat1_int, cat1_ref, cat1_null, stbs_nil, stbs_cons, stb_int, stb_long, stb_ref, stb_null, stb_ra, alv_nil, alv_cons, alv1_int, alv1_ref, alv1_null, alv1_ra, List.length_nil, List.length_cons, Nat.reduceAdd, Nat.reduceLeDiff, Nat.zero_le, Option.toList_some, Option.toList_none, List.cons_append, List.nil_append, or_true, true_or, or_false, false_or, Nat.reduceEqDiff, not_true_eq_false, not_false_eq_true, false_and, and_false, false_implies, true_implies, implies_true, ne_eq, and_self, ok1]
    refine ord2_1 hM hG hu h9 ?_ 6 0 rfl
    refine ord3_1 hM hG hu h9 ?_ (cB w 0) 0 (by omega)
    simp (disch := omega) only [e_L_orders_271, e_L_orders_273, e_L_orders_274, e_L_orders_277, e_L_orders_278, e_L_orders_280, e_L_orders_281, e_L_orders_281n, e_L_orders_282, e_L_orders_284, tand, true_and, and_true, nl1_int, nl1_ref, nl1_null, nl1_ra, cat1_int, cat1_ref, cat1_null, stbs_nil, stbs_cons, stb_int, stb_long, stb_ref, stb_null, stb_ra, alv_nil, alv_cons, alv1_int, alv1_ref, alv1_null, alv1_ra, List.length_nil, List.length_cons, Nat.reduceAdd, Nat.reduceLeDiff, Nat.zero_le, Option.toList_some, Option.toList_none, List.cons_append, List.nil_append, or_true, true_or, or_false, false_or, Nat.reduceEqDiff, not_true_eq_false, not_false_eq_true, false_and, and_false, false_implies, true_implies, implies_true, ne_eq, and_self, ok1, a1, h9, eq_self, nI_add]
    refine a_count hM tb (by decide) (by decide) ?_
    simp (disch := omega) only [e_L_orders_287, e_L_orders_290, e_L_orders_290n, e_L_orders_291, e_L_orders_292, e_L_orders_299, e_L_orders_300, e_L_orders_301, e_L_orders_304, e_L_orders_305, e_L_orders_311, tand, true_and, and_true, nl1_int, nl1_ref, nl1_null, nl1_ra, cat1_int, cat1_ref, cat1_null, stbs_nil, stbs_cons, stb_int, stb_long, stb_ref, stb_null, stb_ra, alv_nil, alv_cons, alv1_int, alv1_ref, alv1_null, alv1_ra, List.length_nil, List.length_cons, Nat.reduceAdd, Nat.reduceLeDiff, Nat.zero_le, Option.toList_some, Option.toList_none, List.cons_append, List.nil_append, or_true, true_or, or_false, false_or, Nat.reduceEqDiff, not_true_eq_false, not_false_eq_true, false_and, and_false, false_implies, true_implies, implies_true, ne_eq, and_self, ok1, a1, h9, e7, cs, eq_self, n1z]
    refine a_dep hM tb (by decide) (by decide) (by decide) ?_
    rw [hd]
    simp (disch := omega) only [e_L_orders_314, e_L_orders_316, e_L_orders_319, e_L_orders_319n, e_L_orders_320, e_L_orders_321, e_L_orders_322, e_L_orders_323, tand, true_and, and_true, nl1_int, nl1_ref, nl1_null, nl1_ra, cat1_int, cat1_ref, cat1_null, stbs_nil, stbs_cons, stb_int, stb_long, stb_ref, stb_null, stb_ra, alv_nil, alv_cons, alv1_int, alv1_ref, alv1_null, alv1_ra, List.length_nil, List.length_cons, Nat.reduceAdd, Nat.reduceLeDiff, Nat.zero_le, Option.toList_some, Option.toList_none, List.cons_append, List.nil_append, or_true, true_or, or_false, false_or, Nat.reduceEqDiff, not_true_eq_false, not_false_eq_true, false_and, and_false, false_implies, true_implies, implies_true, ne_eq, and_self, ok1, a1, h9, eq_self]
    refine a_ord0 hM tb (by decide) (by decide) (by omega) (fun i hi si => by have := btN_cB hi si; omega) ?_
    simp (disch := omega) only [e_L_orders_326, e_L_orders_328, e_L_orders_331, e_L_orders_331n, e_L_orders_332, e_L_orders_333, e_L_orders_334, e_L_orders_335, tand, true_and, and_true, nl1_int, nl1_ref, nl1_null, nl1_ra, cat1_int, cat1_ref, cat1_null, stbs_nil, stbs_cons, stb_int, stb_long, stb_ref, stb_null, stb_ra, alv_nil, alv_cons, alv1_int, alv1_ref, alv1_null, alv1_ra, List.length_nil, List.length_cons, Nat.reduceAdd, Nat.reduceLeDiff, Nat.zero_le, Option.toList_some, Option.toList_none, List.cons_append, List.nil_append, or_true, true_or, or_false, false_or, Nat.reduceEqDiff, not_true_eq_false, not_false_eq_true, false_and, and_false, false_implies, true_implies, implies_true, ne_eq, and_self, ok1, a1, h9, eq_self]
    refine a_ordM hM tb (by decide) ?_
    simp (disch := omega) only [e_L_orders_338, e_L_orders_340, e_L_orders_343, e_L_orders_344, e_L_orders_348, tand, true_and, and_true, nl1_int, nl1_ref, nl1_null, nl1_ra, cat1_int, cat1_ref, cat1_null, stbs_nil, stbs_cons, stb_int, stb_long, stb_ref, stb_null, stb_ra, alv_nil, alv_cons, alv1_int, alv1_ref, alv1_null, alv1_ra, List.length_nil, List.length_cons, Nat.reduceAdd, Nat.reduceLeDiff, Nat.zero_le, Option.toList_some, Option.toList_none, List.cons_append, List.nil_append, or_true, true_or, or_false, false_or, Nat.reduceEqDiff, not_true_eq_false, not_false_eq_true, false_and, and_false, false_implies, true_implies, implies_true, ne_eq, and_self, ok1, eq_self, bE1]
    exact q) (cB w 1) 0 501 (-1) (.retAddr 0) (.retAddr 0) (.retAddr 0) rfl rfl rfl (by omega) (by decide) (fun i hi si _ => by
      obtain ⟨_, _, q4, q5⟩ := hO i hi
      have q5' := q5 (stF_spec si).1
      refine ⟨fun e => by omega, fun _ => ?_⟩
      rw [if_pos rfl]; omega)
  rw [r0, r1] at start
  exact start
theorem ord1_0 (hM : MA g w hist st kept snap t n) (hG : Good w u) (hu : u ≤ 6000) (q : ∀ (pr : Nat) (nu : Int32) (l7 l8 l9 : Value), stb g l7 = True → stb g l8 = True → stb g l9 = True → WP m_L_orders Q 202 [.ref 20, .int (nI 0), .int (nI (cB w 0)), .int (nI (rkS w 0 (fHd w 0) (cB w 0))), .int (nI (rkS w 0 (fun j => wF w j 3) (cB w 0))), .int (nI pr), .int nu, l7, l8, l9] [] g) : ∀ (d x pr : Nat) (nu : Int32) (l7 l8 l9 : Value), stb g l7 = True → stb g l8 = True → stb g l9 = True → x + d = cB w 0 → pr < 2 ^ 20 → PvO w 0 x pr nu → WP m_L_orders Q 23 [.ref 20, .int (nI 0), .int (nI x), .int (nI (rkS w 0 (fHd w 0) x)), .int (nI (rkS w 0 (fun j => wF w j 3) x)), .int (nI pr), .int nu, l7, l8, l9] [] g := by
  have tb := hG.1.1.tb hu
  have hI := hG.1.1.1
  have hO := hG.1.1.2.2.1.1
  have a1 := hM.k20
  have cl := cB_le (w := w) (b := 0)
  have hn : ∀ i, i < 17 → wF w i 0 < 2 ^ 28 := fun i hi => (tb.2.2 i hi).1 0 (by decide)
  intro d
  induction d with
  | zero =>
    intro x pr nu l7 l8 l9 h7 h8 h9 hx hpr hP
    have e : x = cB w 0 := by omega
    subst e
    have m5 : ((-5 : Int32) < 0) = True := propext ⟨fun _ => trivial, fun _ => by decide⟩
    simp (disch := omega) only [e_L_orders_23, e_L_orders_23n, e_L_orders_24, e_L_orders_25, e_L_orders_26, e_L_orders_27, tand, true_and, and_true, nl1_int, nl1_ref, nl1_null, nl1_ra, cat1_int, cat1_ref, cat1_null, stbs_nil, stbs_cons, stb_int, stb_long, stb_ref, stb_null, stb_ra, alv_nil, alv_cons, alv1_int, alv1_ref, alv1_null, alv1_ra, List.length_nil, List.length_cons, Nat.reduceAdd, Nat.reduceLeDiff, Nat.zero_le, Option.toList_some, Option.toList_none, List.cons_append, List.nil_append, or_true, true_or, or_false, false_or, Nat.reduceEqDiff, not_true_eq_false, not_false_eq_true, false_and, and_false, false_implies, true_implies, implies_true, ne_eq, and_self, ok1, a1, h7, h8, h9]
    refine a_ord0 hM tb (by decide) (by decide) (by omega) (fun i hi si => by have := btN_cB hi si; omega) ?_
    simp (disch := omega) only [e_L_orders_30, tand, true_and, and_true, nl1_int, nl1_ref, nl1_null, nl1_ra, cat1_int, cat1_ref, cat1_null, stbs_nil, stbs_cons, stb_int, stb_long, stb_ref, stb_null, stb_ra, alv_nil, alv_cons, alv1_int, alv1_ref, alv1_null, alv1_ra, List.length_nil, List.length_cons, Nat.reduceAdd, Nat.reduceLeDiff, Nat.zero_le, Option.toList_some, Option.toList_none, List.cons_append, List.nil_append, or_true, true_or, or_false, false_or, Nat.reduceEqDiff, not_true_eq_false, not_false_eq_true, false_and, and_false, false_implies, true_implies, implies_true, ne_eq, and_self, ok1, m5]
    exact q pr nu l7 l8 l9 h7 h8 h9
  | succ d ih =>
    intro x pr nu l7 l8 l9 h7 h8 h9 hx hpr hP
    obtain ⟨i, hi, si, er⟩ := rank_ex hI (w := w) (b := 0) (r := x) (by omega)
    obtain ⟨i1, i2⟩ := stF_spec si
    obtain ⟨q0, q3, q4, q5⟩ := hO i hi
    have num := hI.2.2.2 i hi i1
    have kln := (hI.2.1 i hi).2.1
    have f0 := hn i hi
    have f6 := tb.1 6 (by decide)
    have o0 : wF w i (fO 0) = wF w i 0 := rfl
    have o1 : wF w i (fO 1) = wF w i 2 := rfl
    have o2 : wF w i (fO 2) = wF w i 3 := rfl
    have o3 : wF w i (fO 3) = wF w i 4 := rfl
    have e8 : cuN w st n 8 = wS w 6 := rfl
    have q5' := q5 i1
    obtain ⟨v1, v2⟩ := hP i hi si (by omega)
    have rH : rkS w 0 (fHd w 0) (x + 1) = rkS w 0 (fHd w 0) x + wF w i 3 := rkS_s hI hi si er
    have rP : rkS w 0 (fun j => wF w j 3) (x + 1) = rkS w 0 (fun j => wF w j 3) x + wF w i 3 := rkS_s hI hi si er
    have hdp : rkS w 0 (fun j => wF w j 3) (x + 1) ≤ dpN w 1 (wF w i 4) 17 := rkS_dep hI (b := 0) (by decide) hi si er
    have hdl := dpN_le (w := w) (b := 1) (p := wF w i 4) (fun i hi => (hO i hi).2.1)
    have next := ih (x + 1) (wF w i 4) (nI (wF w i 0)) (.int (nI (wF w i 4))) (.int (nI (wF w i 3))) (.int (nI 1)) rfl rfl rfl (by omega) (by omega) (PvO.next hI hn (by decide) hi si er)
    rw [rH, rP] at next
    rw [rP] at hdp
    generalize rkS w 0 (fHd w 0) x = H at *
    generalize rkS w 0 (fun j => wF w j 3) x = P at *
    have l31 : ¬ wF w i 3 < 1 := by omega
    have n6 : ¬ wS w 6 ≤ wF w i 0 := by omega
    have tail : WP m_L_orders Q 91 [.ref 20, .int (nI 0), .int (nI x), .int (nI H), .int (nI P), .int (nI pr), .int nu, .int (nI (wF w i 4)), .int (nI (wF w i 3)), l9] [] g := by
      simp (disch := omega) only [e_L_orders_91, e_L_orders_92, e_L_orders_96, e_L_orders_98, e_L_orders_100, e_L_orders_103, e_L_orders_105, e_L_orders_106, e_L_orders_109, e_L_orders_109n, e_L_orders_110, e_L_orders_111, e_L_orders_112, e_L_orders_113, tand, true_and, and_true, nl1_int, nl1_ref, nl1_null, nl1_ra, cat1_int, cat1_ref, cat1_null, stbs_nil, stbs_cons, stb_int, stb_long, stb_ref, stb_null, stb_ra, alv_nil, alv_cons, alv1_int, alv1_ref, alv1_null, alv1_ra, List.length_nil, List.length_cons, Nat.reduceAdd, Nat.reduceLeDiff, Nat.zero_le, Option.toList_some, Option.toList_none, List.cons_append, List.nil_append, or_true, true_or, or_false, false_or, Nat.reduceEqDiff, not_true_eq_false, not_false_eq_true, false_and, and_false, false_implies, true_implies, implies_true, ne_eq, and_self, ok1, a1, n1z, nI_ltE, l31]
      refine a_ord hM tb hI (by decide) (by decide) hi si er ?_
      simp (disch := omega) only [e_L_orders_116, e_L_orders_116n, e_L_orders_117, e_L_orders_119, tand, true_and, and_true, nl1_int, nl1_ref, nl1_null, nl1_ra, cat1_int, cat1_ref, cat1_null, stbs_nil, stbs_cons, stb_int, stb_long, stb_ref, stb_null, stb_ra, alv_nil, alv_cons, alv1_int, alv1_ref, alv1_null, alv1_ra, List.length_nil, List.length_cons, Nat.reduceAdd, Nat.reduceLeDiff, Nat.zero_le, Option.toList_some, Option.toList_none, List.cons_append, List.nil_append, or_true, true_or, or_false, false_or, Nat.reduceEqDiff, not_true_eq_false, not_false_eq_true, false_and, and_false, false_implies, true_implies, implies_true, ne_eq, and_self, ok1, a1, o0]
      refine a_count hM tb (by decide) (by decide) ?_
      simp (disch := omega) only [e_L_orders_122, e_L_orders_125, e_L_orders_125n, e_L_orders_126, e_L_orders_127, e_L_orders_128, e_L_orders_129, tand, true_and, and_true, nl1_int, nl1_ref, nl1_null, nl1_ra, cat1_int, cat1_ref, cat1_null, stbs_nil, stbs_cons, stb_int, stb_long, stb_ref, stb_null, stb_ra, alv_nil, alv_cons, alv1_int, alv1_ref, alv1_null, alv1_ra, List.length_nil, List.length_cons, Nat.reduceAdd, Nat.reduceLeDiff, Nat.zero_le, Option.toList_some, Option.toList_none, List.cons_append, List.nil_append, or_true, true_or, or_false, false_or, Nat.reduceEqDiff, not_true_eq_false, not_false_eq_true, false_and, and_false, false_implies, true_implies, implies_true, ne_eq, and_self, ok1, a1, e8, nI_leE, n6]
      refine a_ord hM tb hI (by decide) (by decide) hi si er ?_
      simp (disch := omega) only [e_L_orders_132, e_L_orders_137, e_L_orders_139, e_L_orders_141, e_L_orders_142, e_L_orders_144, e_L_orders_145, e_L_orders_146, e_L_orders_157, e_L_orders_159, e_L_orders_160, e_L_orders_161, e_L_orders_161n, e_L_orders_162, e_L_orders_163, e_L_orders_166, e_L_orders_167, e_L_orders_171, e_L_orders_173, tand, true_and, and_true, nl1_int, nl1_ref, nl1_null, nl1_ra, cat1_int, cat1_ref, cat1_null, stbs_nil, stbs_cons, stb_int, stb_long, stb_ref, stb_null, stb_ra, alv_nil, alv_cons, alv1_int, alv1_ref, alv1_null, alv1_ra, List.length_nil, List.length_cons, Nat.reduceAdd, Nat.reduceLeDiff, Nat.zero_le, Option.toList_some, Option.toList_none, List.cons_append, List.nil_append, or_true, true_or, or_false, false_or, Nat.reduceEqDiff, not_true_eq_false, not_false_eq_true, false_and, and_false, false_implies, true_implies, implies_true, ne_eq, and_self, ok1, a1, o1, nI_0le, n0z, nI_add, pk_mul]
      refine a_dep hM tb (by decide) (by omega) (by omega) ?_
      simp (disch := omega) only [e_L_orders_176, e_L_orders_178, e_L_orders_181, e_L_orders_182, e_L_orders_183, e_L_orders_185, e_L_orders_187, e_L_orders_187n, e_L_orders_188, e_L_orders_189, e_L_orders_190, e_L_orders_191, tand, true_and, and_true, nl1_int, nl1_ref, nl1_null, nl1_ra, cat1_int, cat1_ref, cat1_null, stbs_nil, stbs_cons, stb_int, stb_long, stb_ref, stb_null, stb_ra, alv_nil, alv_cons, alv1_int, alv1_ref, alv1_null, alv1_ra, List.length_nil, List.length_cons, Nat.reduceAdd, Nat.reduceLeDiff, Nat.zero_le, Option.toList_some, Option.toList_none, List.cons_append, List.nil_append, or_true, true_or, or_false, false_or, Nat.reduceEqDiff, not_true_eq_false, not_false_eq_true, false_and, and_false, false_implies, true_implies, implies_true, ne_eq, and_self, ok1, a1, nI_leE, hdp]
      refine a_ord hM tb hI (by decide) (by decide) hi si er ?_
      simp (disch := omega) only [e_L_orders_194, e_L_orders_196, tand, true_and, and_true, nl1_int, nl1_ref, nl1_null, nl1_ra, cat1_int, cat1_ref, cat1_null, stbs_nil, stbs_cons, stb_int, stb_long, stb_ref, stb_null, stb_ra, alv_nil, alv_cons, alv1_int, alv1_ref, alv1_null, alv1_ra, List.length_nil, List.length_cons, Nat.reduceAdd, Nat.reduceLeDiff, Nat.zero_le, Option.toList_some, Option.toList_none, List.cons_append, List.nil_append, or_true, true_or, or_false, false_or, Nat.reduceEqDiff, not_true_eq_false, not_false_eq_true, false_and, and_false, false_implies, true_implies, implies_true, ne_eq, and_self, ok1, o0, nI_add]
      simp only [e_L_orders_199, tand, true_and, and_true, nl1_int, nl1_ref, nl1_null, nl1_ra, cat1_int, cat1_ref, cat1_null, stbs_nil, stbs_cons, stb_int, stb_long, stb_ref, stb_null, stb_ra, alv_nil, alv_cons, alv1_int, alv1_ref, alv1_null, alv1_ra, List.length_nil, List.length_cons, Nat.reduceAdd, Nat.reduceLeDiff, Nat.zero_le, Option.toList_some, Option.toList_none, List.cons_append, List.nil_append, or_true, true_or, or_false, false_or, Nat.reduceEqDiff, not_true_eq_false, not_false_eq_true, false_and, and_false, false_implies, true_implies, implies_true, ne_eq, and_self, ok1]
      exact next
    simp (disch := omega) only [e_L_orders_23, e_L_orders_23n, e_L_orders_24, e_L_orders_25, e_L_orders_26, e_L_orders_27, tand, true_and, and_true, nl1_int, nl1_ref, nl1_null, nl1_ra, cat1_int, cat1_ref, cat1_null, stbs_nil, stbs_cons, stb_int, stb_long, stb_ref, stb_null, stb_ra, alv_nil, alv_cons, alv1_int, alv1_ref, alv1_null, alv1_ra, List.length_nil, List.length_cons, Nat.reduceAdd, Nat.reduceLeDiff, Nat.zero_le, Option.toList_some, Option.toList_none, List.cons_append, List.nil_append, or_true, true_or, or_false, false_or, Nat.reduceEqDiff, not_true_eq_false, not_false_eq_true, false_and, and_false, false_implies, true_implies, implies_true, ne_eq, and_self, ok1, a1, h7, h8, h9]
    refine a_ord hM tb hI (by decide) (by decide) hi si er ?_
    simp (disch := omega) only [e_L_orders_30, e_L_orders_33, e_L_orders_33n, e_L_orders_34, e_L_orders_35, e_L_orders_36, e_L_orders_37, tand, true_and, and_true, nl1_int, nl1_ref, nl1_null, nl1_ra, cat1_int, cat1_ref, cat1_null, stbs_nil, stbs_cons, stb_int, stb_long, stb_ref, stb_null, stb_ra, alv_nil, alv_cons, alv1_int, alv1_ref, alv1_null, alv1_ra, List.length_nil, List.length_cons, Nat.reduceAdd, Nat.reduceLeDiff, Nat.zero_le, Option.toList_some, Option.toList_none, List.cons_append, List.nil_append, or_true, true_or, or_false, false_or, Nat.reduceEqDiff, not_true_eq_false, not_false_eq_true, false_and, and_false, false_implies, true_implies, implies_true, ne_eq, and_self, ok1, a1, h7, h8, h9, o0, nI_lt0]
    refine a_ord hM tb hI (by decide) (by decide) hi si er ?_
    simp (disch := omega) only [e_L_orders_40, e_L_orders_42, e_L_orders_42n, e_L_orders_43, e_L_orders_44, e_L_orders_45, e_L_orders_46, tand, true_and, and_true, nl1_int, nl1_ref, nl1_null, nl1_ra, cat1_int, cat1_ref, cat1_null, stbs_nil, stbs_cons, stb_int, stb_long, stb_ref, stb_null, stb_ra, alv_nil, alv_cons, alv1_int, alv1_ref, alv1_null, alv1_ra, List.length_nil, List.length_cons, Nat.reduceAdd, Nat.reduceLeDiff, Nat.zero_le, Option.toList_some, Option.toList_none, List.cons_append, List.nil_append, or_true, true_or, or_false, false_or, Nat.reduceEqDiff, not_true_eq_false, not_false_eq_true, false_and, and_false, false_implies, true_implies, implies_true, ne_eq, and_self, ok1, a1, h7, h8, h9, o3]
    refine a_ord hM tb hI (by decide) (by decide) hi si er ?_
    by_cases he : wF w i 4 = pr
    · have v1' := v1 he
      simp (disch := omega) only [e_L_orders_49, e_L_orders_51, e_L_orders_53, e_L_orders_55, e_L_orders_58, e_L_orders_58n, e_L_orders_59, e_L_orders_60, e_L_orders_61, e_L_orders_62, tand, true_and, and_true, nl1_int, nl1_ref, nl1_null, nl1_ra, cat1_int, cat1_ref, cat1_null, stbs_nil, stbs_cons, stb_int, stb_long, stb_ref, stb_null, stb_ra, alv_nil, alv_cons, alv1_int, alv1_ref, alv1_null, alv1_ra, List.length_nil, List.length_cons, Nat.reduceAdd, Nat.reduceLeDiff, Nat.zero_le, Option.toList_some, Option.toList_none, List.cons_append, List.nil_append, or_true, true_or, or_false, false_or, Nat.reduceEqDiff, not_true_eq_false, not_false_eq_true, false_and, and_false, false_implies, true_implies, implies_true, ne_eq, and_self, ok1, a1, h7, h8, h9, o2, nI_eqE, he, eq_self]
      refine a_ord hM tb hI (by decide) (by decide) hi si er ?_
      simp (disch := omega) only [e_L_orders_65, e_L_orders_67, tand, true_and, and_true, nl1_int, nl1_ref, nl1_null, nl1_ra, cat1_int, cat1_ref, cat1_null, stbs_nil, stbs_cons, stb_int, stb_long, stb_ref, stb_null, stb_ra, alv_nil, alv_cons, alv1_int, alv1_ref, alv1_null, alv1_ra, List.length_nil, List.length_cons, Nat.reduceAdd, Nat.reduceLeDiff, Nat.zero_le, Option.toList_some, Option.toList_none, List.cons_append, List.nil_append, or_true, true_or, or_false, false_or, Nat.reduceEqDiff, not_true_eq_false, not_false_eq_true, false_and, and_false, false_implies, true_implies, implies_true, ne_eq, and_self, ok1, o0, v1']
      rw [he] at tail
      exact tail
    · have hv := v2 he
      rw [if_neg (by decide)] at hv
      have hge : ¬ wF w i 4 ≤ pr := by omega
      simp (disch := omega) only [e_L_orders_49, e_L_orders_51, e_L_orders_53, e_L_orders_55, e_L_orders_70, e_L_orders_71, e_L_orders_84, e_L_orders_86, e_L_orders_88, tand, true_and, and_true, nl1_int, nl1_ref, nl1_null, nl1_ra, cat1_int, cat1_ref, cat1_null, stbs_nil, stbs_cons, stb_int, stb_long, stb_ref, stb_null, stb_ra, alv_nil, alv_cons, alv1_int, alv1_ref, alv1_null, alv1_ra, List.length_nil, List.length_cons, Nat.reduceAdd, Nat.reduceLeDiff, Nat.zero_le, Option.toList_some, Option.toList_none, List.cons_append, List.nil_append, or_true, true_or, or_false, false_or, Nat.reduceEqDiff, not_true_eq_false, not_false_eq_true, false_and, and_false, false_implies, true_implies, implies_true, ne_eq, and_self, ok1, h7, h8, h9, o2, nI_eqE, he, n0z, nI_leE, hge]
      exact tail
theorem ord2_0 (hM : MA g w hist st kept snap t n) (hG : Good w u) (hu : u ≤ 6000) {l2 l3 l4 l5 l6 : Int32} {l9 : Value} (h9 : stb g l9 = True) (q : WP m_L_orders Q 246 [.ref 20, .int (nI 0), .int l2, .int l3, .int l4, .int l5, .int l6, .int (nI (sm (fun i => rt (wO w i)) 17)), .int (nI 0), l9] [] g) : ∀ (d k : Nat), k + d = 6 → WP m_L_orders Q 208 [.ref 20, .int (nI 0), .int l2, .int l3, .int l4, .int l5, .int l6, .int (nI (sm (ofN w) k)), .int (nI k), l9] [] g := by
  have tb := hG.1.1.tb hu
  have a1 := hM.k20
  intro d
  induction d with
  | zero =>
    intro k hk
    have e : k = 6 := by omega
    subst e
    have es : sm (ofN w) 6 = sm (fun i => rt (wO w i)) 17 := sm_cls hG.1.1.1
    rw [es]
    simp (disch := omega) only [e_L_orders_208, e_L_orders_210, e_L_orders_212, e_L_orders_243, e_L_orders_244, tand, true_and, and_true, nl1_int, nl1_ref, nl1_null, nl1_ra, cat1_int, cat1_ref, cat1_null, stbs_nil, stbs_cons, stb_int, stb_long, stb_ref, stb_null, stb_ra, alv_nil, alv_cons, alv1_int, alv1_ref, alv1_null, alv1_ra, List.length_nil, List.length_cons, Nat.reduceAdd, Nat.reduceLeDiff, Nat.zero_le, Option.toList_some, Option.toList_none, List.cons_append, List.nil_append, or_true, true_or, or_false, false_or, Nat.reduceEqDiff, not_true_eq_false, not_false_eq_true, false_and, and_false, false_implies, true_implies, implies_true, ne_eq, and_self, ok1, nI_leE]
    exact q
  | succ d ih =>
    intro k hk
    have hlt : ¬ 6 ≤ k := by omega
    have e : sm (ofN w) (k + 1) = sm (ofN w) k + ofN w k := rfl
    have ek : kaN w k 10 = ofN w k := rfl
    have next := ih (k + 1) (by omega)
    rw [e] at next
    simp (disch := omega) only [e_L_orders_208, e_L_orders_210, e_L_orders_212, e_L_orders_215, e_L_orders_217, e_L_orders_217n, e_L_orders_218, e_L_orders_220, e_L_orders_221, e_L_orders_229, e_L_orders_231, tand, true_and, and_true, nl1_int, nl1_ref, nl1_null, nl1_ra, cat1_int, cat1_ref, cat1_null, stbs_nil, stbs_cons, stb_int, stb_long, stb_ref, stb_null, stb_ra, alv_nil, alv_cons, alv1_int, alv1_ref, alv1_null, alv1_ra, List.length_nil, List.length_cons, Nat.reduceAdd, Nat.reduceLeDiff, Nat.zero_le, Option.toList_some, Option.toList_none, List.cons_append, List.nil_append, or_true, true_or, or_false, false_or, Nat.reduceEqDiff, not_true_eq_false, not_false_eq_true, false_and, and_false, false_implies, true_implies, implies_true, ne_eq, and_self, ok1, a1, h9, nI_leE, hlt, n0z]
    refine a_kiln hM tb (by omega) (by decide) (by decide) ?_
    simp (disch := omega) only [e_L_orders_234, e_L_orders_235, e_L_orders_237, tand, true_and, and_true, nl1_int, nl1_ref, nl1_null, nl1_ra, cat1_int, cat1_ref, cat1_null, stbs_nil, stbs_cons, stb_int, stb_long, stb_ref, stb_null, stb_ra, alv_nil, alv_cons, alv1_int, alv1_ref, alv1_null, alv1_ra, List.length_nil, List.length_cons, Nat.reduceAdd, Nat.reduceLeDiff, Nat.zero_le, Option.toList_some, Option.toList_none, List.cons_append, List.nil_append, or_true, true_or, or_false, false_or, Nat.reduceEqDiff, not_true_eq_false, not_false_eq_true, false_and, and_false, false_implies, true_implies, implies_true, ne_eq, and_self, ok1, ek, nI_add]
    simp only [e_L_orders_240, tand, true_and, and_true, nl1_int, nl1_ref, nl1_null, nl1_ra, cat1_int, cat1_ref, cat1_null, stbs_nil, stbs_cons, stb_int, stb_long, stb_ref, stb_null, stb_ra, alv_nil, alv_cons, alv1_int, alv1_ref, alv1_null, alv1_ra, List.length_nil, List.length_cons, Nat.reduceAdd, Nat.reduceLeDiff, Nat.zero_le, Option.toList_some, Option.toList_none, List.cons_append, List.nil_append, or_true, true_or, or_false, false_or, Nat.reduceEqDiff, not_true_eq_false, not_false_eq_true, false_and, and_false, false_implies, true_implies, implies_true, ne_eq, and_self, ok1]
    exact next
theorem ord3_0 (hM : MA g w hist st kept snap t n) (hG : Good w u) (hu : u ≤ 6000) {l2 l3 l4 l5 l6 l7 : Int32} {l9 : Value} (h9 : stb g l9 = True) (q : WP m_L_orders Q 271 [.ref 20, .int (nI 0), .int l2, .int l3, .int l4, .int l5, .int l6, .int l7, .int (nI (cB w 1)), l9] [] g) : ∀ (d x : Nat), x + d = cB w 1 → WP m_L_orders Q 246 [.ref 20, .int (nI 0), .int l2, .int l3, .int l4, .int l5, .int l6, .int l7, .int (nI x), l9] [] g := by
  have tb := hG.1.1.tb hu
  have hI := hG.1.1.1
  have a1 := hM.k20
  have cl := cB_le (w := w) (b := 1)
  intro d
  induction d with
  | zero =>
    intro x hx
    have e : x = cB w 1 := by omega
    subst e
    have m5 : ((-5 : Int32) < 0) = True := propext ⟨fun _ => trivial, fun _ => by decide⟩
    simp (disch := omega) only [e_L_orders_246, e_L_orders_246n, e_L_orders_247, e_L_orders_248, e_L_orders_251, e_L_orders_252, e_L_orders_256, e_L_orders_258, e_L_orders_259, tand, true_and, and_true, nl1_int, nl1_ref, nl1_null, nl1_ra, cat1_int, cat1_ref, cat1_null, stbs_nil, stbs_cons, stb_int, stb_long, stb_ref, stb_null, stb_ra, alv_nil, alv_cons, alv1_int, alv1_ref, alv1_null, alv1_ra, List.length_nil, List.length_cons, Nat.reduceAdd, Nat.reduceLeDiff, Nat.zero_le, Option.toList_some, Option.toList_none, List.cons_append, List.nil_append, or_true, true_or, or_false, false_or, Nat.reduceEqDiff, not_true_eq_false, not_false_eq_true, false_and, and_false, false_implies, true_implies, implies_true, ne_eq, and_self, ok1, a1, h9, n0z]
    refine a_ord0 hM tb (by decide) (by decide) (by omega) (fun i hi si => by have := btN_cB hi si; omega) ?_
    simp (disch := omega) only [e_L_orders_262, tand, true_and, and_true, nl1_int, nl1_ref, nl1_null, nl1_ra, cat1_int, cat1_ref, cat1_null, stbs_nil, stbs_cons, stb_int, stb_long, stb_ref, stb_null, stb_ra, alv_nil, alv_cons, alv1_int, alv1_ref, alv1_null, alv1_ra, List.length_nil, List.length_cons, Nat.reduceAdd, Nat.reduceLeDiff, Nat.zero_le, Option.toList_some, Option.toList_none, List.cons_append, List.nil_append, or_true, true_or, or_false, false_or, Nat.reduceEqDiff, not_true_eq_false, not_false_eq_true, false_and, and_false, false_implies, true_implies, implies_true, ne_eq, and_self, ok1, m5]
    exact q
  | succ d ih =>
    intro x hx
    obtain ⟨i, hi, si, er⟩ := rank_ex hI (w := w) (b := 1) (r := x) (by omega)
    have f0 := (tb.2.2 i hi).1 0 (by decide)
    have o0 : wF w i (fO 0) = wF w i 0 := rfl
    simp (disch := omega) only [e_L_orders_246, e_L_orders_246n, e_L_orders_247, e_L_orders_248, e_L_orders_251, e_L_orders_252, e_L_orders_256, e_L_orders_258, e_L_orders_259, tand, true_and, and_true, nl1_int, nl1_ref, nl1_null, nl1_ra, cat1_int, cat1_ref, cat1_null, stbs_nil, stbs_cons, stb_int, stb_long, stb_ref, stb_null, stb_ra, alv_nil, alv_cons, alv1_int, alv1_ref, alv1_null, alv1_ra, List.length_nil, List.length_cons, Nat.reduceAdd, Nat.reduceLeDiff, Nat.zero_le, Option.toList_some, Option.toList_none, List.cons_append, List.nil_append, or_true, true_or, or_false, false_or, Nat.reduceEqDiff, not_true_eq_false, not_false_eq_true, false_and, and_false, false_implies, true_implies, implies_true, ne_eq, and_self, ok1, a1, h9, n0z]
    refine a_ord hM tb hI (by decide) (by decide) hi si er ?_
    simp (disch := omega) only [e_L_orders_262, e_L_orders_265, tand, true_and, and_true, nl1_int, nl1_ref, nl1_null, nl1_ra, cat1_int, cat1_ref, cat1_null, stbs_nil, stbs_cons, stb_int, stb_long, stb_ref, stb_null, stb_ra, alv_nil, alv_cons, alv1_int, alv1_ref, alv1_null, alv1_ra, List.length_nil, List.length_cons, Nat.reduceAdd, Nat.reduceLeDiff, Nat.zero_le, Option.toList_some, Option.toList_none, List.cons_append, List.nil_append, or_true, true_or, or_false, false_or, Nat.reduceEqDiff, not_true_eq_false, not_false_eq_true, false_and, and_false, false_implies, true_implies, implies_true, ne_eq, and_self, ok1, o0, nI_lt0, nI_add]
    simp only [e_L_orders_268, tand, true_and, and_true, nl1_int, nl1_ref, nl1_null, nl1_ra, cat1_int, cat1_ref, cat1_null, stbs_nil, stbs_cons, stb_int, stb_long, stb_ref, stb_null, stb_ra, alv_nil, alv_cons, alv1_int, alv1_ref, alv1_null, alv1_ra, List.length_nil, List.length_cons, Nat.reduceAdd, Nat.reduceLeDiff, Nat.zero_le, Option.toList_some, Option.toList_none, List.cons_append, List.nil_append, or_true, true_or, or_false, false_or, Nat.reduceEqDiff, not_true_eq_false, not_false_eq_true, false_and, and_false, false_implies, true_implies, implies_true, ne_eq, and_self, ok1]
    exact ih (x + 1) (by omega)
theorem c_Lorders0 (hM : MA g w hist st kept snap t n) (hG : Good w u) (hu : u ≤ 6000) (q : Q (some (.int (nI 1))) g) : w_L_orders [.ref 20, .int (nI 0)] g Q := by
  refine wm_at rfl ⟨trivial, trivial, trivial⟩ (show WP m_L_orders Q 0 [.ref 20, .int (nI 0), .retAddr 0, .retAddr 0, .retAddr 0, .retAddr 0, .retAddr 0, .retAddr 0, .retAddr 0, .retAddr 0] [] g from ?_)
  have tb := hG.1.1.tb hu
  have hI := hG.1.1.1
  have hO := hG.1.1.2.2.1.1
  have a1 := hM.k20
  have cl := cB_le (w := w) (b := 0)
  have e7 : cuN w st n 7 = cntN w := rfl
  have cs : cB w 0 + cB w 1 = cntN w := by have := cB_sum hI; omega
  have hh : rkS w 0 (fHd w 0) (cB w 0) = sm (fun i => rt (wO w i)) 17 := rkS_held hI (b := 0) (by decide)
  have hd : dpN w 1 500 17 = rkS w 0 (fun j => wF w j 3) (cB w 0) := dpN_all hI (fun i hi => ⟨(hO i hi).2.2.1, (hO i hi).2.2.2⟩) (b := 0) (by decide)
  have r0 : rkS w 0 (fHd w 0) 0 = 0 := rkS_0
  have r1 : rkS w 0 (fun j => wF w j 3) 0 = 0 := rkS_0
  simp (disch := omega) only [e_L_orders_0, e_L_orders_1, e_L_orders_2, e_L_orders_3, e_L_orders_4, e_L_orders_5, e_L_orders_7, e_L_orders_8, e_L_orders_17, e_L_orders_18, e_L_orders_20, e_L_orders_21, tand, true_and, and_true, nl1_int, nl1_ref, nl1_null, nl1_ra, cat1_int, cat1_ref, cat1_null, stbs_nil, stbs_cons, stb_int, stb_long, stb_ref, stb_null, stb_ra, alv_nil, alv_cons, alv1_int, alv1_ref, alv1_null, alv1_ra, List.length_nil, List.length_cons, Nat.reduceAdd, Nat.reduceLeDiff, Nat.zero_le, Option.toList_some, Option.toList_none, List.cons_append, List.nil_append, or_true, true_or, or_false, false_or, Nat.reduceEqDiff, not_true_eq_false, not_false_eq_true, false_and, and_false, false_implies, true_implies, implies_true, ne_eq, and_self, ok1, n0z]
  have start := ord1_0 (Q := Q) hM hG hu (fun pr nu l7 l8 l9 h7 h8 h9 => by
    rw [hh]
    simp (disch := omega) only [e_L_orders_202, e_L_orders_203, e_L_orders_205, e_L_orders_206, tand, true_and, and_true, nl1_int, nl1_ref, nl1_null, nl1_ra, cat1_int, cat1_ref, cat1_null, stbs_nil, stbs_cons, stb_int, stb_long, stb_ref, stb_null, stb_ra, alv_nil, alv_cons, alv1_int, alv1_ref, alv1_null, alv1_ra, List.length_nil, List.length_cons, Nat.reduceAdd, Nat.reduceLeDiff, Nat.zero_le, Option.toList_some, Option.toList_none, List.cons_append, List.nil_append, or_true, true_or, or_false, false_or, Nat.reduceEqDiff, not_true_eq_false, not_false_eq_true, false_and, and_false, false_implies, true_implies, implies_true, ne_eq, and_self, ok1]
    refine ord2_0 hM hG hu h9 ?_ 6 0 rfl
    refine ord3_0 hM hG hu h9 ?_ (cB w 1) 0 (by omega)
    simp (disch := omega) only [e_L_orders_271, e_L_orders_273, e_L_orders_274, e_L_orders_277, e_L_orders_278, e_L_orders_280, e_L_orders_281, e_L_orders_281n, e_L_orders_282, e_L_orders_284, tand, true_and, and_true, nl1_int, nl1_ref, nl1_null, nl1_ra, cat1_int, cat1_ref, cat1_null, stbs_nil, stbs_cons, stb_int, stb_long, stb_ref, stb_null, stb_ra, alv_nil, alv_cons, alv1_int, alv1_ref, alv1_null, alv1_ra, List.length_nil, List.length_cons, Nat.reduceAdd, Nat.reduceLeDiff, Nat.zero_le, Option.toList_some, Option.toList_none, List.cons_append, List.nil_append, or_true, true_or, or_false, false_or, Nat.reduceEqDiff, not_true_eq_false, not_false_eq_true, false_and, and_false, false_implies, true_implies, implies_true, ne_eq, and_self, ok1, a1, h9, eq_self, nI_add]
    refine a_count hM tb (by decide) (by decide) ?_
    simp (disch := omega) only [e_L_orders_287, e_L_orders_290, e_L_orders_290n, e_L_orders_291, e_L_orders_292, e_L_orders_295, e_L_orders_296, e_L_orders_299, e_L_orders_300, e_L_orders_301, e_L_orders_308, e_L_orders_311, tand, true_and, and_true, nl1_int, nl1_ref, nl1_null, nl1_ra, cat1_int, cat1_ref, cat1_null, stbs_nil, stbs_cons, stb_int, stb_long, stb_ref, stb_null, stb_ra, alv_nil, alv_cons, alv1_int, alv1_ref, alv1_null, alv1_ra, List.length_nil, List.length_cons, Nat.reduceAdd, Nat.reduceLeDiff, Nat.zero_le, Option.toList_some, Option.toList_none, List.cons_append, List.nil_append, or_true, true_or, or_false, false_or, Nat.reduceEqDiff, not_true_eq_false, not_false_eq_true, false_and, and_false, false_implies, true_implies, implies_true, ne_eq, and_self, ok1, a1, h9, e7, cs, eq_self, n0z]
    refine a_dep hM tb (by decide) (by decide) (by decide) ?_
    rw [hd]
    simp (disch := omega) only [e_L_orders_314, e_L_orders_316, e_L_orders_319, e_L_orders_319n, e_L_orders_320, e_L_orders_321, e_L_orders_322, e_L_orders_323, tand, true_and, and_true, nl1_int, nl1_ref, nl1_null, nl1_ra, cat1_int, cat1_ref, cat1_null, stbs_nil, stbs_cons, stb_int, stb_long, stb_ref, stb_null, stb_ra, alv_nil, alv_cons, alv1_int, alv1_ref, alv1_null, alv1_ra, List.length_nil, List.length_cons, Nat.reduceAdd, Nat.reduceLeDiff, Nat.zero_le, Option.toList_some, Option.toList_none, List.cons_append, List.nil_append, or_true, true_or, or_false, false_or, Nat.reduceEqDiff, not_true_eq_false, not_false_eq_true, false_and, and_false, false_implies, true_implies, implies_true, ne_eq, and_self, ok1, a1, h9, eq_self]
    refine a_ord0 hM tb (by decide) (by decide) (by omega) (fun i hi si => by have := btN_cB hi si; omega) ?_
    simp (disch := omega) only [e_L_orders_326, e_L_orders_328, e_L_orders_331, e_L_orders_331n, e_L_orders_332, e_L_orders_333, e_L_orders_334, e_L_orders_335, tand, true_and, and_true, nl1_int, nl1_ref, nl1_null, nl1_ra, cat1_int, cat1_ref, cat1_null, stbs_nil, stbs_cons, stb_int, stb_long, stb_ref, stb_null, stb_ra, alv_nil, alv_cons, alv1_int, alv1_ref, alv1_null, alv1_ra, List.length_nil, List.length_cons, Nat.reduceAdd, Nat.reduceLeDiff, Nat.zero_le, Option.toList_some, Option.toList_none, List.cons_append, List.nil_append, or_true, true_or, or_false, false_or, Nat.reduceEqDiff, not_true_eq_false, not_false_eq_true, false_and, and_false, false_implies, true_implies, implies_true, ne_eq, and_self, ok1, a1, h9, eq_self]
    refine a_ordM hM tb (by decide) ?_
    simp (disch := omega) only [e_L_orders_338, e_L_orders_340, e_L_orders_343, e_L_orders_344, e_L_orders_348, tand, true_and, and_true, nl1_int, nl1_ref, nl1_null, nl1_ra, cat1_int, cat1_ref, cat1_null, stbs_nil, stbs_cons, stb_int, stb_long, stb_ref, stb_null, stb_ra, alv_nil, alv_cons, alv1_int, alv1_ref, alv1_null, alv1_ra, List.length_nil, List.length_cons, Nat.reduceAdd, Nat.reduceLeDiff, Nat.zero_le, Option.toList_some, Option.toList_none, List.cons_append, List.nil_append, or_true, true_or, or_false, false_or, Nat.reduceEqDiff, not_true_eq_false, not_false_eq_true, false_and, and_false, false_implies, true_implies, implies_true, ne_eq, and_self, ok1, eq_self, bE1]
    exact q) (cB w 0) 0 0 (-1) (.retAddr 0) (.retAddr 0) (.retAddr 0) rfl rfl rfl (by omega) (by decide) (fun i hi si _ => by
      obtain ⟨_, _, q4, q5⟩ := hO i hi
      have q5' := q5 (stF_spec si).1
      refine ⟨fun e => by omega, fun _ => ?_⟩
      rw [if_neg (by decide)]; omega)
  rw [r0, r1] at start
  exact start
end Lor
