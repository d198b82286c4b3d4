/-! ===== the law asks a kiln ===== -/
theorem nI_prd {d : Nat} : nI (d + 1) + -1 = nI d := by
  rw [← nI_add, Int32.add_assoc, show nI 1 + -1 = 0 from by decide +kernel, Int32.add_zero]
theorem nI_sbL {x y : Nat} (hx : x < 2 ^ 30) (hy : y < 2 ^ 30) : (nI x - nI y ≤ 0) = (x ≤ y) := by
  have e := nI_subT hx hy
  refine propext ?_
  rw [Int32.le_iff_toInt_le, e, show (0 : Int32).toInt = 0 from rfl]
  omega
/-- the oldest of the years from d on -/
def OldD (r : Nat → Nat) (Y d : Nat) (v : Int32) : Prop := (∃ z, d ≤ z ∧ z ≤ Y ∧ 0 < r z ∧ (∀ x, d ≤ x → x < z → r x = 0) ∧ v = nI z) ∨ ((∀ x, d ≤ x → x ≤ Y → r x = 0) ∧ v = -5)
section Lki
variable {w snap : Rw} {u k st kept n : Nat} {t : Nat → Nat} {hist : Nat → Rw} {Q : mQ} {g : mG}
theorem kil_loop (hM : MA g w hist st kept snap t n) (hG : Good w u) (hu : u ≤ 6000) (hk : k < 6) (q : ∀ (old : Int32) (l5 : Value), stb g l5 = True → OldR (wP w k) old → WP m_L_kiln Q 56 [.ref 20, .int (nI k), .int (nI (rt (wP w k))), .int old, .int (-1), l5] [] g) : ∀ (d S : Nat) (old yv : Int32) (l5 : Value), stb g l5 = True → d ≤ wS w 0 + 1 → S + sm (wP w k) d = sm (wP w k) (wS w 0 + 1) → OldD (wP w k) (wS w 0) d old → (d = 0 → yv = -1) → (∀ d', d = d' + 1 → yv = nI d') → WP m_L_kiln Q 12 [.ref 20, .int (nI k), .int (nI S), .int old, .int yv, l5] [] g := by
  have tb := hG.1.1.tb hu
  have hy := hG.1.1.1.1.1
  have hz := hG.1.1.1.1.2.1 k hk
  have a1 := hM.k20
  intro d
  induction d with
  | zero =>
    intro S old yv l5 hl hd hS ho h0 h1
    have e := h0 rfl
    subst e
    have m1 : ((-1 : Int32) < 0) = True := propext ⟨fun _ => trivial, fun _ => by decide⟩
    simp (disch := omega) only [e_L_kiln_12, e_L_kiln_14, tand, true_and, and_true, nl1_int, nl1_ref, nl1_null, nl1_ra, cat1_int, cat1_ref, cat1_null, stbs_nil, stbs_cons, stb_int, stb_long, stb_ref, stb_null, stb_ra, alv_nil, alv_cons, alv1_int, alv1_ref, alv1_null, alv1_ra, List.length_nil, List.length_cons, Nat.reduceAdd, Nat.reduceLeDiff, Nat.zero_le, Option.toList_some, Option.toList_none, List.cons_append, List.nil_append, or_true, true_or, or_false, false_or, Nat.reduceEqDiff, not_true_eq_false, not_false_eq_true, false_and, and_false, false_implies, true_implies, implies_true, ne_eq, and_self, ok1, m1]
    have eS : S = rt (wP w k) := by
      have e2 : rt (wP w k) = sm (wP w k) (wS w 0 + 1) := sm_split 2000 (by omega) fun i h1 _ => hz i (by omega)
      have e3 : sm (wP w k) 0 = 0 := rfl
      omega
    rw [eS]
    refine q old l5 hl ?_
    rcases ho with ⟨z, _, z2, z3, z4, z5⟩ | ⟨z1, z2⟩
    · exact Or.inl ⟨z, by omega, z3, fun x hx => z4 x (Nat.zero_le _) hx, z5⟩
    · refine Or.inr ⟨fun z => ?_, z2⟩
      by_cases hzy : z ≤ wS w 0
      · exact z1 z (Nat.zero_le _) hzy
      · exact hz z (by omega)
  | succ d ih =>
    intro S old yv l5 hl hd hS ho h0 h1
    have e := h1 d rfl
    subst e
    have hrd : wP w k d ≤ rt (wP w k) := rt_ge (by omega)
    have hrt := (tb.2.1 k hk).2
    have es : sm (wP w k) (d + 1) = sm (wP w k) d + wP w k d := rfl
    have next : ∀ old', OldD (wP w k) (wS w 0) d old' → WP m_L_kiln Q 12 [.ref 20, .int (nI k), .int (nI (S + wP w k d)), .int old', .int (nI d + -1), .int (nI (wP w k d))] [] g := fun old' ho' => by
      refine ih (S + wP w k d) old' (nI d + -1) (.int (nI (wP w k d))) rfl (by omega) (by omega) ho' (fun e => ?_) (fun d' e => ?_)
      · rw [e]; decide +kernel
      · rw [e]; exact nI_prd
    simp (disch := omega) only [e_L_kiln_12, e_L_kiln_14, e_L_kiln_17, e_L_kiln_17n, e_L_kiln_18, e_L_kiln_19, e_L_kiln_21, tand, true_and, and_true, nl1_int, nl1_ref, nl1_null, nl1_ra, cat1_int, cat1_ref, cat1_null, stbs_nil, stbs_cons, stb_int, stb_long, stb_ref, stb_null, stb_ra, alv_nil, alv_cons, alv1_int, alv1_ref, alv1_null, alv1_ra, List.length_nil, List.length_cons, Nat.reduceAdd, Nat.reduceLeDiff, Nat.zero_le, Option.toList_some, Option.toList_none, List.cons_append, List.nil_append, or_true, true_or, or_false, false_or, Nat.reduceEqDiff, not_true_eq_false, not_false_eq_true, false_and, and_false, false_implies, true_implies, implies_true, ne_eq, and_self, ok1, a1, nI_lt0, hl]
    refine a_ofYear hM hy hk (by omega) ?_
    by_cases hr : wP w k d = 0
    · simp (disch := omega) only [e_L_kiln_24, e_L_kiln_26, e_L_kiln_27, e_L_kiln_29, e_L_kiln_30, e_L_kiln_31, e_L_kiln_33, e_L_kiln_41, e_L_kiln_42, e_L_kiln_43, e_L_kiln_45, e_L_kiln_50, tand, true_and, and_true, nl1_int, nl1_ref, nl1_null, nl1_ra, cat1_int, cat1_ref, cat1_null, stbs_nil, stbs_cons, stb_int, stb_long, stb_ref, stb_null, stb_ra, alv_nil, alv_cons, alv1_int, alv1_ref, alv1_null, alv1_ra, List.length_nil, List.length_cons, Nat.reduceAdd, Nat.reduceLeDiff, Nat.zero_le, Option.toList_some, Option.toList_none, List.cons_append, List.nil_append, or_true, true_or, or_false, false_or, Nat.reduceEqDiff, not_true_eq_false, not_false_eq_true, false_and, and_false, false_implies, true_implies, implies_true, ne_eq, and_self, ok1, nI_le0, nI_0le, hr, nI_add]
      simp only [e_L_kiln_53, tand, true_and, and_true, nl1_int, nl1_ref, nl1_null, nl1_ra, cat1_int, cat1_ref, cat1_null, stbs_nil, stbs_cons, stb_int, stb_long, stb_ref, stb_null, stb_ra, alv_nil, alv_cons, alv1_int, alv1_ref, alv1_null, alv1_ra, List.length_nil, List.length_cons, Nat.reduceAdd, Nat.reduceLeDiff, Nat.zero_le, Option.toList_some, Option.toList_none, List.cons_append, List.nil_append, or_true, true_or, or_false, false_or, Nat.reduceEqDiff, not_true_eq_false, not_false_eq_true, false_and, and_false, false_implies, true_implies, implies_true, ne_eq, and_self, ok1]
      have nx := next old (by
        rcases ho with ⟨z, z1, z2, z3, z4, z5⟩ | ⟨z1, z2⟩
        · refine Or.inl ⟨z, by omega, z2, z3, fun x hx hx2 => ?_, z5⟩
          by_cases e : x = d
          · rw [e]; exact hr
          · exact z4 x (by omega) hx2
        · refine Or.inr ⟨fun x hx hx2 => ?_, z2⟩
          by_cases e : x = d
          · rw [e]; exact hr
          · exact z1 x (by omega) hx2)
      rw [hr] at nx
      exact nx
    · simp (disch := omega) only [e_L_kiln_24, e_L_kiln_26, e_L_kiln_27, e_L_kiln_29, e_L_kiln_30, e_L_kiln_31, e_L_kiln_33, e_L_kiln_36, e_L_kiln_38, e_L_kiln_42, e_L_kiln_43, e_L_kiln_45, e_L_kiln_50, tand, true_and, and_true, nl1_int, nl1_ref, nl1_null, nl1_ra, cat1_int, cat1_ref, cat1_null, stbs_nil, stbs_cons, stb_int, stb_long, stb_ref, stb_null, stb_ra, alv_nil, alv_cons, alv1_int, alv1_ref, alv1_null, alv1_ra, List.length_nil, List.length_cons, Nat.reduceAdd, Nat.reduceLeDiff, Nat.zero_le, Option.toList_some, Option.toList_none, List.cons_append, List.nil_append, or_true, true_or, or_false, false_or, Nat.reduceEqDiff, not_true_eq_false, not_false_eq_true, false_and, and_false, false_implies, true_implies, implies_true, ne_eq, and_self, ok1, nI_le0, nI_0le, hr, nI_add]
      simp only [e_L_kiln_53, tand, true_and, and_true, nl1_int, nl1_ref, nl1_null, nl1_ra, cat1_int, cat1_ref, cat1_null, stbs_nil, stbs_cons, stb_int, stb_long, stb_ref, stb_null, stb_ra, alv_nil, alv_cons, alv1_int, alv1_ref, alv1_null, alv1_ra, List.length_nil, List.length_cons, Nat.reduceAdd, Nat.reduceLeDiff, Nat.zero_le, Option.toList_some, Option.toList_none, List.cons_append, List.nil_append, or_true, true_or, or_false, false_or, Nat.reduceEqDiff, not_true_eq_false, not_false_eq_true, false_and, and_false, false_implies, true_implies, implies_true, ne_eq, and_self, ok1]
      exact next (nI d) (Or.inl ⟨d, Nat.le_refl _, by omega, by omega, fun x hx hx2 => by omega, rfl⟩)
theorem c_Lkiln (hM : MA g w hist st kept snap t n) (hG : Good w u) (hu : u ≤ 6000) (hk : k < 6) (q : Q (some (.int (nI 1))) g) : w_L_kiln [.ref 20, .int (nI k)] g Q := by
  refine wm_at rfl ⟨trivial, trivial, trivial⟩ (show WP m_L_kiln Q 0 [.ref 20, .int (nI k), .retAddr 0, .retAddr 0, .retAddr 0, .retAddr 0] [] g from ?_)
  have tb := hG.1.1.tb hu
  have hy := hG.1.1.1.1.1
  have a1 := hM.k20
  obtain ⟨kf, kt⟩ := tb.2.1 k hk
  have f0 := kf 0 (by decide)
  have f1 := kf 1 (by decide)
  have f2 := kf 2 (by decide)
  have f3 := kf 3 (by decide)
  have f4 := kf 4 (by decide)
  have f5 := kf 5 (by decide)
  have hle := (hG.1.1.2.2.2.2 k hk).1
  have e0 : cuN w st n 0 = wS w 0 := rfl
  have k0 : kaN w k 0 = wK w k 0 := rfl
  have k1 : kaN w k 1 = rt (wP w k) := rfl
  have k2 : kaN w k 2 = wK w k 1 := rfl
  have k3 : kaN w k 3 = wK w k 2 := rfl
  have k4 : kaN w k 4 = wK w k 3 := rfl
  have k5 : kaN w k 5 = wK w k 4 := rfl
  have k6 : kaN w k 6 = wK w k 5 := rfl
  have k8 : kaN w k 8 = wK w k 2 + wK w k 4 + wK w k 5 - wK w k 3 - rt (wP w k) := rfl
  simp (disch := omega) only [e_L_kiln_0, e_L_kiln_1, e_L_kiln_2, e_L_kiln_4, e_L_kiln_5, e_L_kiln_5n, e_L_kiln_6, e_L_kiln_7, tand, true_and, and_true, nl1_int, nl1_ref, nl1_null, nl1_ra, cat1_int, cat1_ref, cat1_null, stbs_nil, stbs_cons, stb_int, stb_long, stb_ref, stb_null, stb_ra, alv_nil, alv_cons, alv1_int, alv1_ref, alv1_null, alv1_ra, List.length_nil, List.length_cons, Nat.reduceAdd, Nat.reduceLeDiff, Nat.zero_le, Option.toList_some, Option.toList_none, List.cons_append, List.nil_append, or_true, true_or, or_false, false_or, Nat.reduceEqDiff, not_true_eq_false, not_false_eq_true, false_and, and_false, false_implies, true_implies, implies_true, ne_eq, and_self, ok1, a1]
  refine a_count hM tb (by decide) (by decide) ?_
  simp (disch := omega) only [e_L_kiln_10, tand, true_and, and_true, nl1_int, nl1_ref, nl1_null, nl1_ra, cat1_int, cat1_ref, cat1_null, stbs_nil, stbs_cons, stb_int, stb_long, stb_ref, stb_null, stb_ra, alv_nil, alv_cons, alv1_int, alv1_ref, alv1_null, alv1_ra, List.length_nil, List.length_cons, Nat.reduceAdd, Nat.reduceLeDiff, Nat.zero_le, Option.toList_some, Option.toList_none, List.cons_append, List.nil_append, or_true, true_or, or_false, false_or, Nat.reduceEqDiff, not_true_eq_false, not_false_eq_true, false_and, and_false, false_implies, true_implies, implies_true, ne_eq, and_self, ok1, e0]
  refine kil_loop hM hG hu hk (fun old l5 hl ho => ?_) (wS w 0 + 1) 0 (-5) (nI (wS w 0)) (.retAddr 0) rfl (Nat.le_refl _) (by omega) (Or.inr ⟨fun x h1 h2 => by omega, rfl⟩) (fun e => by omega) (fun d' e => by rw [show wS w 0 = d' by omega])
  simp (disch := omega) only [e_L_kiln_56, e_L_kiln_56n, e_L_kiln_57, e_L_kiln_58, e_L_kiln_59, tand, true_and, and_true, nl1_int, nl1_ref, nl1_null, nl1_ra, cat1_int, cat1_ref, cat1_null, stbs_nil, stbs_cons, stb_int, stb_long, stb_ref, stb_null, stb_ra, alv_nil, alv_cons, alv1_int, alv1_ref, alv1_null, alv1_ra, List.length_nil, List.length_cons, Nat.reduceAdd, Nat.reduceLeDiff, Nat.zero_le, Option.toList_some, Option.toList_none, List.cons_append, List.nil_append, or_true, true_or, or_false, false_or, Nat.reduceEqDiff, not_true_eq_false, not_false_eq_true, false_and, and_false, false_implies, true_implies, implies_true, ne_eq, and_self, ok1, a1, hl]
  refine a_kiln hM tb hk (by decide) (by decide) ?_
  simp (disch := omega) only [e_L_kiln_62, e_L_kiln_62n, e_L_kiln_63, e_L_kiln_64, e_L_kiln_65, tand, true_and, and_true, nl1_int, nl1_ref, nl1_null, nl1_ra, cat1_int, cat1_ref, cat1_null, stbs_nil, stbs_cons, stb_int, stb_long, stb_ref, stb_null, stb_ra, alv_nil, alv_cons, alv1_int, alv1_ref, alv1_null, alv1_ra, List.length_nil, List.length_cons, Nat.reduceAdd, Nat.reduceLeDiff, Nat.zero_le, Option.toList_some, Option.toList_none, List.cons_append, List.nil_append, or_true, true_or, or_false, false_or, Nat.reduceEqDiff, not_true_eq_false, not_false_eq_true, false_and, and_false, false_implies, true_implies, implies_true, ne_eq, and_self, ok1, a1, hl, k3]
  refine a_kiln hM tb hk (by decide) (by decide) ?_
  simp (disch := omega) only [e_L_kiln_68, e_L_kiln_69, e_L_kiln_69n, e_L_kiln_70, e_L_kiln_71, e_L_kiln_73, tand, true_and, and_true, nl1_int, nl1_ref, nl1_null, nl1_ra, cat1_int, cat1_ref, cat1_null, stbs_nil, stbs_cons, stb_int, stb_long, stb_ref, stb_null, stb_ra, alv_nil, alv_cons, alv1_int, alv1_ref, alv1_null, alv1_ra, List.length_nil, List.length_cons, Nat.reduceAdd, Nat.reduceLeDiff, Nat.zero_le, Option.toList_some, Option.toList_none, List.cons_append, List.nil_append, or_true, true_or, or_false, false_or, Nat.reduceEqDiff, not_true_eq_false, not_false_eq_true, false_and, and_false, false_implies, true_implies, implies_true, ne_eq, and_self, ok1, a1, hl, k5, nI_add]
  refine a_kiln hM tb hk (by decide) (by decide) ?_
  simp (disch := omega) only [e_L_kiln_76, e_L_kiln_77, e_L_kiln_77n, e_L_kiln_78, e_L_kiln_79, e_L_kiln_80, tand, true_and, and_true, nl1_int, nl1_ref, nl1_null, nl1_ra, cat1_int, cat1_ref, cat1_null, stbs_nil, stbs_cons, stb_int, stb_long, stb_ref, stb_null, stb_ra, alv_nil, alv_cons, alv1_int, alv1_ref, alv1_null, alv1_ra, List.length_nil, List.length_cons, Nat.reduceAdd, Nat.reduceLeDiff, Nat.zero_le, Option.toList_some, Option.toList_none, List.cons_append, List.nil_append, or_true, true_or, or_false, false_or, Nat.reduceEqDiff, not_true_eq_false, not_false_eq_true, false_and, and_false, false_implies, true_implies, implies_true, ne_eq, and_self, ok1, a1, hl, k6, nI_add]
  refine a_kiln hM tb hk (by decide) (by decide) ?_
  simp (disch := omega) only [e_L_kiln_83, e_L_kiln_84, e_L_kiln_85, e_L_kiln_86, e_L_kiln_88, e_L_kiln_88n, e_L_kiln_89, e_L_kiln_90, e_L_kiln_91, tand, true_and, and_true, nl1_int, nl1_ref, nl1_null, nl1_ra, cat1_int, cat1_ref, cat1_null, stbs_nil, stbs_cons, stb_int, stb_long, stb_ref, stb_null, stb_ra, alv_nil, alv_cons, alv1_int, alv1_ref, alv1_null, alv1_ra, List.length_nil, List.length_cons, Nat.reduceAdd, Nat.reduceLeDiff, Nat.zero_le, Option.toList_some, Option.toList_none, List.cons_append, List.nil_append, or_true, true_or, or_false, false_or, Nat.reduceEqDiff, not_true_eq_false, not_false_eq_true, false_and, and_false, false_implies, true_implies, implies_true, ne_eq, and_self, ok1, a1, hl, k4, nI_sub2]
  refine a_kiln hM tb hk (by decide) (by decide) ?_
  simp (disch := omega) only [e_L_kiln_94, e_L_kiln_95, e_L_kiln_98, e_L_kiln_98n, e_L_kiln_99, e_L_kiln_100, e_L_kiln_102, tand, true_and, and_true, nl1_int, nl1_ref, nl1_null, nl1_ra, cat1_int, cat1_ref, cat1_null, stbs_nil, stbs_cons, stb_int, stb_long, stb_ref, stb_null, stb_ra, alv_nil, alv_cons, alv1_int, alv1_ref, alv1_null, alv1_ra, List.length_nil, List.length_cons, Nat.reduceAdd, Nat.reduceLeDiff, Nat.zero_le, Option.toList_some, Option.toList_none, List.cons_append, List.nil_append, or_true, true_or, or_false, false_or, Nat.reduceEqDiff, not_true_eq_false, not_false_eq_true, false_and, and_false, false_implies, true_implies, implies_true, ne_eq, and_self, ok1, a1, hl, k1, eq_self]
  refine a_kiln9 hM tb hk fun r hr => ?_
  rw [hr.uniq ho]
  simp (disch := omega) only [e_L_kiln_105, e_L_kiln_106, e_L_kiln_109, e_L_kiln_109n, e_L_kiln_110, e_L_kiln_111, e_L_kiln_113, tand, true_and, and_true, nl1_int, nl1_ref, nl1_null, nl1_ra, cat1_int, cat1_ref, cat1_null, stbs_nil, stbs_cons, stb_int, stb_long, stb_ref, stb_null, stb_ra, alv_nil, alv_cons, alv1_int, alv1_ref, alv1_null, alv1_ra, List.length_nil, List.length_cons, Nat.reduceAdd, Nat.reduceLeDiff, Nat.zero_le, Option.toList_some, Option.toList_none, List.cons_append, List.nil_append, or_true, true_or, or_false, false_or, Nat.reduceEqDiff, not_true_eq_false, not_false_eq_true, false_and, and_false, false_implies, true_implies, implies_true, ne_eq, and_self, ok1, a1, hl, eq_self]
  refine a_kiln hM tb hk (by decide) (by decide) ?_
  have tail : ∀ lk : Int32, WP m_L_kiln Q 130 [.ref 20, .int (nI k), .int (nI (rt (wP w k))), .int old, .int lk, l5] [] g := fun lk => by
    simp (disch := omega) only [e_L_kiln_130, e_L_kiln_130n, e_L_kiln_131, e_L_kiln_132, e_L_kiln_133, tand, true_and, and_true, nl1_int, nl1_ref, nl1_null, nl1_ra, cat1_int, cat1_ref, cat1_null, stbs_nil, stbs_cons, stb_int, stb_long, stb_ref, stb_null, stb_ra, alv_nil, alv_cons, alv1_int, alv1_ref, alv1_null, alv1_ra, List.length_nil, List.length_cons, Nat.reduceAdd, Nat.reduceLeDiff, Nat.zero_le, Option.toList_some, Option.toList_none, List.cons_append, List.nil_append, or_true, true_or, or_false, false_or, Nat.reduceEqDiff, not_true_eq_false, not_false_eq_true, false_and, and_false, false_implies, true_implies, implies_true, ne_eq, and_self, ok1, a1, hl]
    refine a_kiln hM tb hk (by decide) (by decide) ?_
    simp (disch := omega) only [e_L_kiln_136, e_L_kiln_136n, e_L_kiln_137, e_L_kiln_138, e_L_kiln_139, tand, true_and, and_true, nl1_int, nl1_ref, nl1_null, nl1_ra, cat1_int, cat1_ref, cat1_null, stbs_nil, stbs_cons, stb_int, stb_long, stb_ref, stb_null, stb_ra, alv_nil, alv_cons, alv1_int, alv1_ref, alv1_null, alv1_ra, List.length_nil, List.length_cons, Nat.reduceAdd, Nat.reduceLeDiff, Nat.zero_le, Option.toList_some, Option.toList_none, List.cons_append, List.nil_append, or_true, true_or, or_false, false_or, Nat.reduceEqDiff, not_true_eq_false, not_false_eq_true, false_and, and_false, false_implies, true_implies, implies_true, ne_eq, and_self, ok1, a1, hl, k2]
    refine a_kiln hM tb hk (by decide) (by decide) ?_
    have hlt : ¬ wK w k 1 < wK w k 2 := by omega
    simp (disch := omega) only [e_L_kiln_142, e_L_kiln_145, e_L_kiln_145n, e_L_kiln_146, e_L_kiln_147, e_L_kiln_148, tand, true_and, and_true, nl1_int, nl1_ref, nl1_null, nl1_ra, cat1_int, cat1_ref, cat1_null, stbs_nil, stbs_cons, stb_int, stb_long, stb_ref, stb_null, stb_ra, alv_nil, alv_cons, alv1_int, alv1_ref, alv1_null, alv1_ra, List.length_nil, List.length_cons, Nat.reduceAdd, Nat.reduceLeDiff, Nat.zero_le, Option.toList_some, Option.toList_none, List.cons_append, List.nil_append, or_true, true_or, or_false, false_or, Nat.reduceEqDiff, not_true_eq_false, not_false_eq_true, false_and, and_false, false_implies, true_implies, implies_true, ne_eq, and_self, ok1, a1, hl, k3, nI_ltE, hlt]
    refine a_kiln hM tb hk (by decide) (by decide) ?_
    simp (disch := omega) only [e_L_kiln_151, e_L_kiln_154, e_L_kiln_155, e_L_kiln_159, tand, true_and, and_true, nl1_int, nl1_ref, nl1_null, nl1_ra, cat1_int, cat1_ref, cat1_null, stbs_nil, stbs_cons, stb_int, stb_long, stb_ref, stb_null, stb_ra, alv_nil, alv_cons, alv1_int, alv1_ref, alv1_null, alv1_ra, List.length_nil, List.length_cons, Nat.reduceAdd, Nat.reduceLeDiff, Nat.zero_le, Option.toList_some, Option.toList_none, List.cons_append, List.nil_append, or_true, true_or, or_false, false_or, Nat.reduceEqDiff, not_true_eq_false, not_false_eq_true, false_and, and_false, false_implies, true_implies, implies_true, ne_eq, and_self, ok1, k0, nI_lt0, bE1]
    exact q
  by_cases hlk : wK w k 2 + wK w k 4 + wK w k 5 ≤ wK w k 3 + rt (wP w k)
  · have ez : wK w k 2 + wK w k 4 + wK w k 5 - wK w k 3 - rt (wP w k) = 0 := by omega
    simp (disch := omega) only [e_L_kiln_116, e_L_kiln_118, e_L_kiln_126, e_L_kiln_127, tand, true_and, and_true, nl1_int, nl1_ref, nl1_null, nl1_ra, cat1_int, cat1_ref, cat1_null, stbs_nil, stbs_cons, stb_int, stb_long, stb_ref, stb_null, stb_ra, alv_nil, alv_cons, alv1_int, alv1_ref, alv1_null, alv1_ra, List.length_nil, List.length_cons, Nat.reduceAdd, Nat.reduceLeDiff, Nat.zero_le, Option.toList_some, Option.toList_none, List.cons_append, List.nil_append, or_true, true_or, or_false, false_or, Nat.reduceEqDiff, not_true_eq_false, not_false_eq_true, false_and, and_false, false_implies, true_implies, implies_true, ne_eq, and_self, ok1, k8, nI_sbL, hlk, ez, eq_self]
    exact tail _
  · have es : nI (wK w k 2 + wK w k 4 + wK w k 5) - nI (wK w k 3 + rt (wP w k)) = nI (wK w k 2 + wK w k 4 + wK w k 5 - (wK w k 3 + rt (wP w k))) := pk_sub (by omega)
    have ez : wK w k 2 + wK w k 4 + wK w k 5 - wK w k 3 - rt (wP w k) = wK w k 2 + wK w k 4 + wK w k 5 - (wK w k 3 + rt (wP w k)) := by omega
    have hn0 : ¬ wK w k 2 + wK w k 4 + wK w k 5 - (wK w k 3 + rt (wP w k)) = 0 := by omega
    simp (disch := omega) only [e_L_kiln_116, e_L_kiln_118, e_L_kiln_121, e_L_kiln_123, e_L_kiln_127, tand, true_and, and_true, nl1_int, nl1_ref, nl1_null, nl1_ra, cat1_int, cat1_ref, cat1_null, stbs_nil, stbs_cons, stb_int, stb_long, stb_ref, stb_null, stb_ra, alv_nil, alv_cons, alv1_int, alv1_ref, alv1_null, alv1_ra, List.length_nil, List.length_cons, Nat.reduceAdd, Nat.reduceLeDiff, Nat.zero_le, Option.toList_some, Option.toList_none, List.cons_append, List.nil_append, or_true, true_or, or_false, false_or, Nat.reduceEqDiff, not_true_eq_false, not_false_eq_true, false_and, and_false, false_implies, true_implies, implies_true, ne_eq, and_self, ok1, k8, es, ez, nI_le0, hn0, eq_self]
    exact tail _
end Lki
