/-! ===== the law's digest: a function of the town ===== -/
def AskO (w : Rw) (spec : mS) (args : List Value) : Prop := ∃ v : Int32, ∀ (g : mG) (hist : Nat → Rw) (st kept : Nat) (snap : Rw) (t : Nat → Nat) (n : Nat) (Q : mQ), MA g w hist st kept snap t n → Q (some (.int v)) g → spec args g Q
def DgW (w : Rw) (pc : Nat) (ls : List Value) (d : Int64) : Prop := ∀ (g : mG) (hist : Nat → Rw) (st kept : Nat) (snap : Rw) (t : Nat → Nat) (n : Nat) (Q : mQ), MA g w hist st kept snap t n → Q (some (.long d)) g → WP m_L_digest Q pc ls [] g
section Dig
variable {w : Rw} {u : Nat}
theorem ask_count (hG : Good w u) (hu : u ≤ 6000) {s : Nat} (hs : s ≤ 18) : AskO w w_X6_count [.ref 20, .int (nI s)] := by
  have tb := hG.1.1.tb hu
  by_cases h10 : s = 10
  · subst h10
    exact ⟨_, fun g hist st kept snap t n Q hM q => a_count10 hM tb q⟩
  · refine ⟨nI (cuN w 0 0 s), fun g hist st kept snap t n Q hM q => a_count hM tb (by omega) h10 ?_⟩
    have e : cuN w st n s = cuN w 0 0 s := by
      unfold cuN
      have h19 : s < 19 := by omega
      simp only [h19, if_true]
    rw [e]
    exact q
theorem ask_kiln (hG : Good w u) (hu : u ≤ 6000) {k s : Nat} (hk : k < 6) (hs : s ≤ 11) : AskO w w_X6_kiln [.ref 20, .int (nI k), .int (nI s)] := by
  have tb := hG.1.1.tb hu
  by_cases h9 : s = 9
  · subst h9
    by_cases hr : ∃ r, OldR (wP w k) r
    · obtain ⟨r, hr⟩ := hr
      refine ⟨r, fun g hist st kept snap t n Q hM q => a_kiln9 hM tb hk fun r' hr' => ?_⟩
      rw [hr'.uniq hr]
      exact q
    · exact ⟨0, fun g hist st kept snap t n Q hM q => a_kiln9 hM tb hk fun r' hr' => absurd ⟨r', hr'⟩ hr⟩
  · exact ⟨_, fun g hist st kept snap t n Q hM q => a_kiln hM tb hk hs h9 q⟩
theorem ask_ofYear (hG : Good w u) {k y : Nat} (hk : k < 6) (hy : y ≤ wS w 0) : AskO w w_X6_ofYear [.ref 20, .int (nI k), .int (nI y)] :=
  ⟨_, fun _ _ _ _ _ _ _ _ hM q => a_ofYear hM hG.1.1.1.1.1 hk hy q⟩
theorem ask_order (hG : Good w u) (hu : u ≤ 6000) {b r s : Nat} (hb : b ≤ 1) (hs : s ≤ 3) (hr : r < 2 ^ 30) : AskO w w_X6_order [.ref 20, .int (nI b), .int (nI r), .int (nI s)] := by
  have tb := hG.1.1.tb hu
  by_cases h : ∃ i, i < 17 ∧ stF w b i = true ∧ btN w i = r
  · obtain ⟨i, hi, si, er⟩ := h
    exact ⟨_, fun g hist st kept snap t n Q hM q => a_ord hM tb hG.1.1.1 hb hs hi si er q⟩
  · exact ⟨_, fun g hist st kept snap t n Q hM q => a_ord0 hM tb hb hs hr (fun i hi si er => h ⟨i, hi, si, er⟩) q⟩
theorem dg3i (hG : Good w u) (hu : u ≤ 6000) {r : Nat} (hr : r < 2 ^ 30) (next : ∀ h : Int64, ∃ d, DgW w 159 [.ref 20, .long h, .retAddr 0, .int (nI r), .int (nI 4)] d) : ∀ (k i : Nat) (h : Int64), i + k = 4 → ∃ d, DgW w 117 [.ref 20, .long h, .retAddr 0, .int (nI r), .int (nI i)] d := by
  intro k
  induction k with
  | zero =>
    intro i h hi
    have e : i = 4 := by omega
    subst e
    obtain ⟨d, hd⟩ := next h
    refine ⟨d, fun g hist st kept snap t n Q hM q => ?_⟩
    simp (disch := omega) only [e_L_digest_117, e_L_digest_119, e_L_digest_120, tand, true_and, and_true, nl1_int, nl1_ref, nl1_null, nl1_ra, cat1_int, cat1_ref, cat1_null, stbs_nil, stbs_cons, stb_int, stb_long, stb_ref, stb_null, stb_ra, alv_nil, alv_cons, alv1_int, alv1_ref, alv1_null, alv1_ra, List.length_nil, List.length_cons, Nat.reduceAdd, Nat.reduceLeDiff, Nat.zero_le, Option.toList_some, Option.toList_none, List.cons_append, List.nil_append, or_true, true_or, or_false, false_or, Nat.reduceEqDiff, not_true_eq_false, not_false_eq_true, false_and, and_false, false_implies, true_implies, implies_true, ne_eq, and_self, ok1, nI_leE]
    exact hd g hist st kept snap t n Q hM q
  | succ k ih =>
    intro i h hi
    have hlt : ¬ 4 ≤ i := by omega
    obtain ⟨v1, h1⟩ := ask_order hG hu (b := 1) (r := r) (s := i) (by decide) (by omega) hr
    obtain ⟨v2, h2⟩ := ask_order hG hu (b := 0) (r := r) (s := i) (by decide) (by omega) hr
    obtain ⟨d, hd⟩ := ih (i + 1) (31 * h + 3 * v1.toInt64 + v2.toInt64) (by omega)
    refine ⟨d, fun g hist st kept snap t n Q hM q => ?_⟩
    have a1 := hM.k20
    simp (disch := omega) only [e_L_digest_117, e_L_digest_119, e_L_digest_120, e_L_digest_123, e_L_digest_126, e_L_digest_127, e_L_digest_128, e_L_digest_131, e_L_digest_131n, e_L_digest_132, e_L_digest_133, e_L_digest_134, e_L_digest_136, tand, true_and, and_true, nl1_int, nl1_ref, nl1_null, nl1_ra, cat1_int, cat1_ref, cat1_null, stbs_nil, stbs_cons, stb_int, stb_long, stb_ref, stb_null, stb_ra, alv_nil, alv_cons, alv1_int, alv1_ref, alv1_null, alv1_ra, List.length_nil, List.length_cons, Nat.reduceAdd, Nat.reduceLeDiff, Nat.zero_le, Option.toList_some, Option.toList_none, List.cons_append, List.nil_append, or_true, true_or, or_false, false_or, Nat.reduceEqDiff, not_true_eq_false, not_false_eq_true, false_and, and_false, false_implies, true_implies, implies_true, ne_eq, and_self, ok1, a1, nI_leE, hlt]
    refine h1 g hist st kept snap t n _ hM ?_
    simp (disch := omega) only [e_L_digest_139, e_L_digest_140, e_L_digest_141, e_L_digest_142, e_L_digest_142n, e_L_digest_143, e_L_digest_144, e_L_digest_145, e_L_digest_147, tand, true_and, and_true, nl1_int, nl1_ref, nl1_null, nl1_ra, cat1_int, cat1_ref, cat1_null, stbs_nil, stbs_cons, stb_int, stb_long, stb_ref, stb_null, stb_ra, alv_nil, alv_cons, alv1_int, alv1_ref, alv1_null, alv1_ra, List.length_nil, List.length_cons, Nat.reduceAdd, Nat.reduceLeDiff, Nat.zero_le, Option.toList_some, Option.toList_none, List.cons_append, List.nil_append, or_true, true_or, or_false, false_or, Nat.reduceEqDiff, not_true_eq_false, not_false_eq_true, false_and, and_false, false_implies, true_implies, implies_true, ne_eq, and_self, ok1, a1]
    refine h2 g hist st kept snap t n _ hM ?_
    simp (disch := omega) only [e_L_digest_150, e_L_digest_151, e_L_digest_152, e_L_digest_153, tand, true_and, and_true, nl1_int, nl1_ref, nl1_null, nl1_ra, cat1_int, cat1_ref, cat1_null, stbs_nil, stbs_cons, stb_int, stb_long, stb_ref, stb_null, stb_ra, alv_nil, alv_cons, alv1_int, alv1_ref, alv1_null, alv1_ra, List.length_nil, List.length_cons, Nat.reduceAdd, Nat.reduceLeDiff, Nat.zero_le, Option.toList_some, Option.toList_none, List.cons_append, List.nil_append, or_true, true_or, or_false, false_or, Nat.reduceEqDiff, not_true_eq_false, not_false_eq_true, false_and, and_false, false_implies, true_implies, implies_true, ne_eq, and_self, ok1, nI_add]
    simp only [e_L_digest_156, tand, true_and, and_true, nl1_int, nl1_ref, nl1_null, nl1_ra, cat1_int, cat1_ref, cat1_null, stbs_nil, stbs_cons, stb_int, stb_long, stb_ref, stb_null, stb_ra, alv_nil, alv_cons, alv1_int, alv1_ref, alv1_null, alv1_ra, List.length_nil, List.length_cons, Nat.reduceAdd, Nat.reduceLeDiff, Nat.zero_le, Option.toList_some, Option.toList_none, List.cons_append, List.nil_append, or_true, true_or, or_false, false_or, Nat.reduceEqDiff, not_true_eq_false, not_false_eq_true, false_and, and_false, false_implies, true_implies, implies_true, ne_eq, and_self, ok1]
    exact hd g hist st kept snap t n Q hM q
theorem dg3 (hG : Good w u) (hu : u ≤ 6000) : ∀ (k r : Nat) (h : Int64) (l4 : Value), r + k = 16 → ∃ d, DgW w 108 [.ref 20, .long h, .retAddr 0, .int (nI r), l4] d := by
  intro k
  induction k with
  | zero =>
    intro r h l4 hr
    have e : r = 16 := by omega
    subst e
    refine ⟨h, fun g hist st kept snap t n Q hM q => ?_⟩
    simp (disch := omega) only [e_L_digest_108, e_L_digest_109, e_L_digest_111, e_L_digest_165, e_L_digest_166, tand, true_and, and_true, nl1_int, nl1_ref, nl1_null, nl1_ra, cat1_int, cat1_ref, cat1_null, stbs_nil, stbs_cons, stb_int, stb_long, stb_ref, stb_null, stb_ra, alv_nil, alv_cons, alv1_int, alv1_ref, alv1_null, alv1_ra, List.length_nil, List.length_cons, Nat.reduceAdd, Nat.reduceLeDiff, Nat.zero_le, Option.toList_some, Option.toList_none, List.cons_append, List.nil_append, or_true, true_or, or_false, false_or, Nat.reduceEqDiff, not_true_eq_false, not_false_eq_true, false_and, and_false, false_implies, true_implies, implies_true, ne_eq, and_self, ok1, nI_leE]
    exact q
  | succ k ih =>
    intro r h l4 hr
    have hlt : ¬ 16 ≤ r := by omega
    obtain ⟨d, hd⟩ := dg3i hG hu (r := r) (by omega) (fun h => by
      obtain ⟨d, hd⟩ := ih (r + 1) h (.int (nI 4)) (by omega)
      refine ⟨d, fun g hist st kept snap t n Q hM q => ?_⟩
      simp (disch := omega) only [e_L_digest_159, tand, true_and, and_true, nl1_int, nl1_ref, nl1_null, nl1_ra, cat1_int, cat1_ref, cat1_null, stbs_nil, stbs_cons, stb_int, stb_long, stb_ref, stb_null, stb_ra, alv_nil, alv_cons, alv1_int, alv1_ref, alv1_null, alv1_ra, List.length_nil, List.length_cons, Nat.reduceAdd, Nat.reduceLeDiff, Nat.zero_le, Option.toList_some, Option.toList_none, List.cons_append, List.nil_append, or_true, true_or, or_false, false_or, Nat.reduceEqDiff, not_true_eq_false, not_false_eq_true, false_and, and_false, false_implies, true_implies, implies_true, ne_eq, and_self, ok1, nI_add]
      simp only [e_L_digest_162, tand, true_and, and_true, nl1_int, nl1_ref, nl1_null, nl1_ra, cat1_int, cat1_ref, cat1_null, stbs_nil, stbs_cons, stb_int, stb_long, stb_ref, stb_null, stb_ra, alv_nil, alv_cons, alv1_int, alv1_ref, alv1_null, alv1_ra, List.length_nil, List.length_cons, Nat.reduceAdd, Nat.reduceLeDiff, Nat.zero_le, Option.toList_some, Option.toList_none, List.cons_append, List.nil_append, or_true, true_or, or_false, false_or, Nat.reduceEqDiff, not_true_eq_false, not_false_eq_true, false_and, and_false, false_implies, true_implies, implies_true, ne_eq, and_self, ok1]
      exact hd g hist st kept snap t n Q hM q) 4 0 h rfl
    refine ⟨d, fun g hist st kept snap t n Q hM q => ?_⟩
    simp (disch := omega) only [e_L_digest_108, e_L_digest_109, e_L_digest_111, e_L_digest_114, e_L_digest_115, tand, true_and, and_true, nl1_int, nl1_ref, nl1_null, nl1_ra, cat1_int, cat1_ref, cat1_null, stbs_nil, stbs_cons, stb_int, stb_long, stb_ref, stb_null, stb_ra, alv_nil, alv_cons, alv1_int, alv1_ref, alv1_null, alv1_ra, List.length_nil, List.length_cons, Nat.reduceAdd, Nat.reduceLeDiff, Nat.zero_le, Option.toList_some, Option.toList_none, List.cons_append, List.nil_append, or_true, true_or, or_false, false_or, Nat.reduceEqDiff, not_true_eq_false, not_false_eq_true, false_and, and_false, false_implies, true_implies, implies_true, ne_eq, and_self, ok1, nI_leE, hlt]
    exact hd g hist st kept snap t n Q hM q
theorem dg2i (hG : Good w u) (hu : u ≤ 6000) {c : Nat} (hc : c < 6) (next : ∀ h : Int64, ∃ d, DgW w 70 [.ref 20, .long h, .retAddr 0, .int (nI c), .int (nI 12)] d) : ∀ (k i : Nat) (h : Int64), i + k = 12 → ∃ d, DgW w 42 [.ref 20, .long h, .retAddr 0, .int (nI c), .int (nI i)] d := by
  intro k
  induction k with
  | zero =>
    intro i h hi
    have e : i = 12 := by omega
    subst e
    obtain ⟨d, hd⟩ := next h
    refine ⟨d, fun g hist st kept snap t n Q hM q => ?_⟩
    simp (disch := omega) only [e_L_digest_42, e_L_digest_44, e_L_digest_46, tand, true_and, and_true, nl1_int, nl1_ref, nl1_null, nl1_ra, cat1_int, cat1_ref, cat1_null, stbs_nil, stbs_cons, stb_int, stb_long, stb_ref, stb_null, stb_ra, alv_nil, alv_cons, alv1_int, alv1_ref, alv1_null, alv1_ra, List.length_nil, List.length_cons, Nat.reduceAdd, Nat.reduceLeDiff, Nat.zero_le, Option.toList_some, Option.toList_none, List.cons_append, List.nil_append, or_true, true_or, or_false, false_or, Nat.reduceEqDiff, not_true_eq_false, not_false_eq_true, false_and, and_false, false_implies, true_implies, implies_true, ne_eq, and_self, ok1, nI_leE]
    exact hd g hist st kept snap t n Q hM q
  | succ k ih =>
    intro i h hi
    have hlt : ¬ 12 ≤ i := by omega
    obtain ⟨v1, h1⟩ := ask_kiln hG hu (k := c) (s := i) hc (by omega)
    obtain ⟨d, hd⟩ := ih (i + 1) (31 * h + v1.toInt64) (by omega)
    refine ⟨d, fun g hist st kept snap t n Q hM q => ?_⟩
    have a1 := hM.k20
    simp (disch := omega) only [e_L_digest_42, e_L_digest_44, e_L_digest_46, e_L_digest_49, e_L_digest_52, e_L_digest_53, e_L_digest_54, e_L_digest_54n, e_L_digest_55, e_L_digest_56, e_L_digest_58, tand, true_and, and_true, nl1_int, nl1_ref, nl1_null, nl1_ra, cat1_int, cat1_ref, cat1_null, stbs_nil, stbs_cons, stb_int, stb_long, stb_ref, stb_null, stb_ra, alv_nil, alv_cons, alv1_int, alv1_ref, alv1_null, alv1_ra, List.length_nil, List.length_cons, Nat.reduceAdd, Nat.reduceLeDiff, Nat.zero_le, Option.toList_some, Option.toList_none, List.cons_append, List.nil_append, or_true, true_or, or_false, false_or, Nat.reduceEqDiff, not_true_eq_false, not_false_eq_true, false_and, and_false, false_implies, true_implies, implies_true, ne_eq, and_self, ok1, a1, nI_leE, hlt]
    refine h1 g hist st kept snap t n _ hM ?_
    simp (disch := omega) only [e_L_digest_61, e_L_digest_62, e_L_digest_63, e_L_digest_64, tand, true_and, and_true, nl1_int, nl1_ref, nl1_null, nl1_ra, cat1_int, cat1_ref, cat1_null, stbs_nil, stbs_cons, stb_int, stb_long, stb_ref, stb_null, stb_ra, alv_nil, alv_cons, alv1_int, alv1_ref, alv1_null, alv1_ra, List.length_nil, List.length_cons, Nat.reduceAdd, Nat.reduceLeDiff, Nat.zero_le, Option.toList_some, Option.toList_none, List.cons_append, List.nil_append, or_true, true_or, or_false, false_or, Nat.reduceEqDiff, not_true_eq_false, not_false_eq_true, false_and, and_false, false_implies, true_implies, implies_true, ne_eq, and_self, ok1, nI_add]
    simp only [e_L_digest_67, tand, true_and, and_true, nl1_int, nl1_ref, nl1_null, nl1_ra, cat1_int, cat1_ref, cat1_null, stbs_nil, stbs_cons, stb_int, stb_long, stb_ref, stb_null, stb_ra, alv_nil, alv_cons, alv1_int, alv1_ref, alv1_null, alv1_ra, List.length_nil, List.length_cons, Nat.reduceAdd, Nat.reduceLeDiff, Nat.zero_le, Option.toList_some, Option.toList_none, List.cons_append, List.nil_append, or_true, true_or, or_false, false_or, Nat.reduceEqDiff, not_true_eq_false, not_false_eq_true, false_and, and_false, false_implies, true_implies, implies_true, ne_eq, and_self, ok1]
    exact hd g hist st kept snap t n Q hM q
theorem dg2 (hG : Good w u) (hu : u ≤ 6000) : ∀ (k c : Nat) (h : Int64) (l4 : Value), c + k = 6 → ∃ d, DgW w 33 [.ref 20, .long h, .retAddr 0, .int (nI c), l4] d := by
  intro k
  induction k with
  | zero =>
    intro c h l4 hc
    have e : c = 6 := by omega
    subst e
    obtain ⟨d, hd⟩ := dg3 hG hu 16 0 h l4 rfl
    refine ⟨d, fun g hist st kept snap t n Q hM q => ?_⟩
    simp (disch := omega) only [e_L_digest_33, e_L_digest_34, e_L_digest_36, e_L_digest_106, e_L_digest_107, tand, true_and, and_true, nl1_int, nl1_ref, nl1_null, nl1_ra, cat1_int, cat1_ref, cat1_null, stbs_nil, stbs_cons, stb_int, stb_long, stb_ref, stb_null, stb_ra, alv_nil, alv_cons, alv1_int, alv1_ref, alv1_null, alv1_ra, List.length_nil, List.length_cons, Nat.reduceAdd, Nat.reduceLeDiff, Nat.zero_le, Option.toList_some, Option.toList_none, List.cons_append, List.nil_append, or_true, true_or, or_false, false_or, Nat.reduceEqDiff, not_true_eq_false, not_false_eq_true, false_and, and_false, false_implies, true_implies, implies_true, ne_eq, and_self, ok1, nI_leE]
    exact hd g hist st kept snap t n Q hM q
  | succ k ih =>
    intro c h l4 hc
    have hlt : ¬ 6 ≤ c := by omega
    have tb := hG.1.1.tb hu
    obtain ⟨d, hd⟩ := dg2i hG hu (c := c) (by omega) (fun h => by
      obtain ⟨v1, h1⟩ := ask_ofYear hG (k := c) (y := 0) (by omega) (Nat.zero_le _)
      obtain ⟨v2, h2⟩ := ask_ofYear hG (k := c) (y := wS w 0) (by omega) (Nat.le_refl _)
      obtain ⟨d, hd⟩ := ih (c + 1) (31 * h + v1.toInt64 + 7 * v2.toInt64) (.int (nI 12)) (by omega)
      refine ⟨d, fun g hist st kept snap t n Q hM q => ?_⟩
      have a1 := hM.k20
      have e0 : cuN w st n 0 = wS w 0 := rfl
      simp (disch := omega) only [e_L_digest_70, e_L_digest_73, e_L_digest_74, e_L_digest_75, e_L_digest_75n, e_L_digest_76, e_L_digest_77, e_L_digest_78, tand, true_and, and_true, nl1_int, nl1_ref, nl1_null, nl1_ra, cat1_int, cat1_ref, cat1_null, stbs_nil, stbs_cons, stb_int, stb_long, stb_ref, stb_null, stb_ra, alv_nil, alv_cons, alv1_int, alv1_ref, alv1_null, alv1_ra, List.length_nil, List.length_cons, Nat.reduceAdd, Nat.reduceLeDiff, Nat.zero_le, Option.toList_some, Option.toList_none, List.cons_append, List.nil_append, or_true, true_or, or_false, false_or, Nat.reduceEqDiff, not_true_eq_false, not_false_eq_true, false_and, and_false, false_implies, true_implies, implies_true, ne_eq, and_self, ok1, a1]
      refine h1 g hist st kept snap t n _ hM ?_
      simp (disch := omega) only [e_L_digest_81, e_L_digest_82, e_L_digest_83, e_L_digest_86, e_L_digest_86n, e_L_digest_87, e_L_digest_88, e_L_digest_88n, e_L_digest_89, e_L_digest_90, tand, true_and, and_true, nl1_int, nl1_ref, nl1_null, nl1_ra, cat1_int, cat1_ref, cat1_null, stbs_nil, stbs_cons, stb_int, stb_long, stb_ref, stb_null, stb_ra, alv_nil, alv_cons, alv1_int, alv1_ref, alv1_null, alv1_ra, List.length_nil, List.length_cons, Nat.reduceAdd, Nat.reduceLeDiff, Nat.zero_le, Option.toList_some, Option.toList_none, List.cons_append, List.nil_append, or_true, true_or, or_false, false_or, Nat.reduceEqDiff, not_true_eq_false, not_false_eq_true, false_and, and_false, false_implies, true_implies, implies_true, ne_eq, and_self, ok1, a1]
      refine a_count hM tb (by decide) (by decide) ?_
      simp (disch := omega) only [e_L_digest_93, tand, true_and, and_true, nl1_int, nl1_ref, nl1_null, nl1_ra, cat1_int, cat1_ref, cat1_null, stbs_nil, stbs_cons, stb_int, stb_long, stb_ref, stb_null, stb_ra, alv_nil, alv_cons, alv1_int, alv1_ref, alv1_null, alv1_ra, List.length_nil, List.length_cons, Nat.reduceAdd, Nat.reduceLeDiff, Nat.zero_le, Option.toList_some, Option.toList_none, List.cons_append, List.nil_append, or_true, true_or, or_false, false_or, Nat.reduceEqDiff, not_true_eq_false, not_false_eq_true, false_and, and_false, false_implies, true_implies, implies_true, ne_eq, and_self, ok1, a1, e0]
      refine h2 g hist st kept snap t n _ hM ?_
      simp (disch := omega) only [e_L_digest_96, e_L_digest_97, e_L_digest_98, e_L_digest_99, e_L_digest_100, tand, true_and, and_true, nl1_int, nl1_ref, nl1_null, nl1_ra, cat1_int, cat1_ref, cat1_null, stbs_nil, stbs_cons, stb_int, stb_long, stb_ref, stb_null, stb_ra, alv_nil, alv_cons, alv1_int, alv1_ref, alv1_null, alv1_ra, List.length_nil, List.length_cons, Nat.reduceAdd, Nat.reduceLeDiff, Nat.zero_le, Option.toList_some, Option.toList_none, List.cons_append, List.nil_append, or_true, true_or, or_false, false_or, Nat.reduceEqDiff, not_true_eq_false, not_false_eq_true, false_and, and_false, false_implies, true_implies, implies_true, ne_eq, and_self, ok1, nI_add]
      simp only [e_L_digest_103, tand, true_and, and_true, nl1_int, nl1_ref, nl1_null, nl1_ra, cat1_int, cat1_ref, cat1_null, stbs_nil, stbs_cons, stb_int, stb_long, stb_ref, stb_null, stb_ra, alv_nil, alv_cons, alv1_int, alv1_ref, alv1_null, alv1_ra, List.length_nil, List.length_cons, Nat.reduceAdd, Nat.reduceLeDiff, Nat.zero_le, Option.toList_some, Option.toList_none, List.cons_append, List.nil_append, or_true, true_or, or_false, false_or, Nat.reduceEqDiff, not_true_eq_false, not_false_eq_true, false_and, and_false, false_implies, true_implies, implies_true, ne_eq, and_self, ok1]
      exact hd g hist st kept snap t n Q hM q) 12 0 h rfl
    refine ⟨d, fun g hist st kept snap t n Q hM q => ?_⟩
    simp (disch := omega) only [e_L_digest_33, e_L_digest_34, e_L_digest_36, e_L_digest_39, e_L_digest_40, tand, true_and, and_true, nl1_int, nl1_ref, nl1_null, nl1_ra, cat1_int, cat1_ref, cat1_null, stbs_nil, stbs_cons, stb_int, stb_long, stb_ref, stb_null, stb_ra, alv_nil, alv_cons, alv1_int, alv1_ref, alv1_null, alv1_ra, List.length_nil, List.length_cons, Nat.reduceAdd, Nat.reduceLeDiff, Nat.zero_le, Option.toList_some, Option.toList_none, List.cons_append, List.nil_append, or_true, true_or, or_false, false_or, Nat.reduceEqDiff, not_true_eq_false, not_false_eq_true, false_and, and_false, false_implies, true_implies, implies_true, ne_eq, and_self, ok1, nI_leE, hlt]
    exact hd g hist st kept snap t n Q hM q
theorem dg1 (hG : Good w u) (hu : u ≤ 6000) : ∀ (k i : Nat) (h : Int64), i + k = 19 → ∃ d, DgW w 6 [.ref 20, .long h, .retAddr 0, .int (nI i), .retAddr 0] d := by
  intro k
  induction k with
  | zero =>
    intro i h hi
    have e : i = 19 := by omega
    subst e
    obtain ⟨d, hd⟩ := dg2 hG hu 6 0 h (.retAddr 0) rfl
    refine ⟨d, fun g hist st kept snap t n Q hM q => ?_⟩
    simp (disch := omega) only [e_L_digest_6, e_L_digest_7, e_L_digest_9, e_L_digest_31, e_L_digest_32, tand, true_and, and_true, nl1_int, nl1_ref, nl1_null, nl1_ra, cat1_int, cat1_ref, cat1_null, stbs_nil, stbs_cons, stb_int, stb_long, stb_ref, stb_null, stb_ra, alv_nil, alv_cons, alv1_int, alv1_ref, alv1_null, alv1_ra, List.length_nil, List.length_cons, Nat.reduceAdd, Nat.reduceLeDiff, Nat.zero_le, Option.toList_some, Option.toList_none, List.cons_append, List.nil_append, or_true, true_or, or_false, false_or, Nat.reduceEqDiff, not_true_eq_false, not_false_eq_true, false_and, and_false, false_implies, true_implies, implies_true, ne_eq, and_self, ok1, nI_leE]
    exact hd g hist st kept snap t n Q hM q
  | succ k ih =>
    intro i h hi
    have hlt : ¬ 19 ≤ i := by omega
    obtain ⟨v1, h1⟩ := ask_count hG hu (s := i) (by omega)
    obtain ⟨d, hd⟩ := ih (i + 1) (31 * h + v1.toInt64) (by omega)
    refine ⟨d, fun g hist st kept snap t n Q hM q => ?_⟩
    have a1 := hM.k20
    simp (disch := omega) only [e_L_digest_6, e_L_digest_7, e_L_digest_9, e_L_digest_12, e_L_digest_15, e_L_digest_16, e_L_digest_17, e_L_digest_17n, e_L_digest_18, e_L_digest_19, tand, true_and, and_true, nl1_int, nl1_ref, nl1_null, nl1_ra, cat1_int, cat1_ref, cat1_null, stbs_nil, stbs_cons, stb_int, stb_long, stb_ref, stb_null, stb_ra, alv_nil, alv_cons, alv1_int, alv1_ref, alv1_null, alv1_ra, List.length_nil, List.length_cons, Nat.reduceAdd, Nat.reduceLeDiff, Nat.zero_le, Option.toList_some, Option.toList_none, List.cons_append, List.nil_append, or_true, true_or, or_false, false_or, Nat.reduceEqDiff, not_true_eq_false, not_false_eq_true, false_and, and_false, false_implies, true_implies, implies_true, ne_eq, and_self, ok1, a1, nI_leE, hlt]
    refine h1 g hist st kept snap t n _ hM ?_
    simp (disch := omega) only [e_L_digest_22, e_L_digest_23, e_L_digest_24, e_L_digest_25, tand, true_and, and_true, nl1_int, nl1_ref, nl1_null, nl1_ra, cat1_int, cat1_ref, cat1_null, stbs_nil, stbs_cons, stb_int, stb_long, stb_ref, stb_null, stb_ra, alv_nil, alv_cons, alv1_int, alv1_ref, alv1_null, alv1_ra, List.length_nil, List.length_cons, Nat.reduceAdd, Nat.reduceLeDiff, Nat.zero_le, Option.toList_some, Option.toList_none, List.cons_append, List.nil_append, or_true, true_or, or_false, false_or, Nat.reduceEqDiff, not_true_eq_false, not_false_eq_true, false_and, and_false, false_implies, true_implies, implies_true, ne_eq, and_self, ok1, nI_add]
    simp only [e_L_digest_28, tand, true_and, and_true, nl1_int, nl1_ref, nl1_null, nl1_ra, cat1_int, cat1_ref, cat1_null, stbs_nil, stbs_cons, stb_int, stb_long, stb_ref, stb_null, stb_ra, alv_nil, alv_cons, alv1_int, alv1_ref, alv1_null, alv1_ra, List.length_nil, List.length_cons, Nat.reduceAdd, Nat.reduceLeDiff, Nat.zero_le, Option.toList_some, Option.toList_none, List.cons_append, List.nil_append, or_true, true_or, or_false, false_or, Nat.reduceEqDiff, not_true_eq_false, not_false_eq_true, false_and, and_false, false_implies, true_implies, implies_true, ne_eq, and_self, ok1]
    exact hd g hist st kept snap t n Q hM q
/-- the digest of a town -/
def DgO (w : Rw) (d : Int64) : Prop := ∀ (g : mG) (hist : Nat → Rw) (st kept : Nat) (snap : Rw) (t : Nat → Nat) (n : Nat) (Q : mQ), MA g w hist st kept snap t n → Q (some (.long d)) g → w_L_digest [.ref 20] g Q
theorem dig_ok (hG : Good w u) (hu : u ≤ 6000) : ∃ d : Int64, DgO w d := by
  obtain ⟨d, hd⟩ := dg1 hG hu 19 0 109 rfl
  refine ⟨d, fun g hist st kept snap t n Q hM q => ?_⟩
  refine wm_at rfl ⟨trivial, trivial⟩ (show WP m_L_digest Q 0 [.ref 20, .retAddr 0, .retAddr 0, .retAddr 0, .retAddr 0] [] g from ?_)
  simp (disch := omega) only [e_L_digest_0, e_L_digest_3, e_L_digest_4, e_L_digest_5, tand, true_and, and_true, nl1_int, nl1_ref, nl1_null, nl1_ra, cat1_int, cat1_ref, cat1_null, stbs_nil, stbs_cons, stb_int, stb_long, stb_ref, stb_null, stb_ra, alv_nil, alv_cons, alv1_int, alv1_ref, alv1_null, alv1_ra, List.length_nil, List.length_cons, Nat.reduceAdd, Nat.reduceLeDiff, Nat.zero_le, Option.toList_some, Option.toList_none, List.cons_append, List.nil_append, or_true, true_or, or_false, false_or, Nat.reduceEqDiff, not_true_eq_false, not_false_eq_true, false_and, and_false, false_implies, true_implies, implies_true, ne_eq, and_self, ok1]
  exact hd g hist st kept snap t n Q hM q
end Dig
