/-! ===== the main object: what it tells ===== -/
theorem sw_case (x : Int32) (m : Nat) (hm : m < 2 ^ 30) : (∃ s, s ≤ m ∧ x = nI s) ∨ ((x.toInt < 0 ∨ (m : Int) < x.toInt) ∧ ∀ s, s ≤ m → x ≠ nI s) := by
  by_cases h : x.toInt < 0 ∨ (m : Int) < x.toInt
  · right
    refine ⟨h, fun s hs e => ?_⟩
    rw [e, nI_toInt (by omega)] at h
    omega
  · left
    refine ⟨x.toInt.toNat, by omega, ?_⟩
    rw [← Int32.toInt_inj, nI_toInt (by omega)]
    omega
def ofN (w : Rw) (k : Nat) : Nat := sm (fun i => if wF w i 2 = k then rt (wO w i) else 0) 17
def hdN (w : Rw) (k : Nat) : Nat := sm (fun i => if wF w i 2 = k then hbF w i else 0) 17
def kaN (w : Rw) (k s : Nat) : Nat := if s = 0 then wK w k 0 else if s = 1 then rt (wP w k) else if s < 8 then wK w k (s - 1) else if s = 8 then wK w k 2 + wK w k 4 + wK w k 5 - wK w k 3 - rt (wP w k) else if s = 10 then ofN w k else hdN w k
section Tel
variable {st kept n : Nat} {t : Nat → Nat} {Q : mQ} {g : mG} {w snap : Rw} {hist : Nat → Rw}
theorem c_kiln {v x : Int32} (h : MA g w hist st kept snap t n) (hB : TB w)
    (q1 : (∀ k, k < 6 → v ≠ nI k) → Q (some (.int (-1))) g)
    (q2 : ∀ k, k < 6 → v = nI k → (∀ s, s ≤ 11 → x ≠ nI s) → Q (some (.int (-2))) g)
    (q3 : ∀ k s, k < 6 → v = nI k → s ≤ 11 → s ≠ 9 → x = nI s → Q (some (.int (nI (kaN w k s)))) g)
    (q4 : ∀ k r, k < 6 → v = nI k → x = nI 9 → OldR (wP w k) r → Q (some (.int r)) g) : w_X6_kiln [.ref 20, .int v, .int x] g Q := by
  refine wm_at rfl ⟨trivial, trivial, trivial, trivial⟩ (show WP m_X6_kiln Q 0 [.ref 20, .int v, .int x, .retAddr 0] [] g from ?_)
  obtain ⟨N, hN, ⟨a1, a2⟩, hT, hS, hJ, _, _⟩ := h.now
  have k6 := isT.k6 hT
  simp only [e_X6_kiln_0, e_X6_kiln_1, e_X6_kiln_4, e_X6_kiln_5, tand, true_and, and_true, nl1_int, nl1_ref, nl1_null, nl1_ra, cat1_int, cat1_ref, cat1_null, stbs_nil, stbs_cons, stb_int, stb_long, stb_ref, stb_null, stb_ra, alv_nil, alv_cons, alv1_int, alv1_ref, alv1_null, alv1_ra, List.length_nil, List.length_cons, Nat.reduceAdd, Nat.reduceLeDiff, Nat.zero_le, Option.toList_some, Option.toList_none, List.cons_append, List.nil_append, or_true, true_or, or_false, false_or, Nat.reduceEqDiff, not_true_eq_false, not_false_eq_true, false_and, and_false, false_implies, true_implies, implies_true, ne_eq, and_self, ok1, a1, a2, hN.z, k6]
  refine c_kilnAt hT (fun k hk ev => ?_) (fun hno => ?_)
  · obtain ⟨⟨kk, kr⟩, ⟨kp, kt⟩, o⟩ := hT.k hk
    have zP : N + 5 + 3 * k ≠ 0 := by omega
    simp only [e_X6_kiln_8, e_X6_kiln_8n, e_X6_kiln_9, e_X6_kiln_9n, e_X6_kiln_10, e_X6_kiln_10n, e_X6_kiln_15, e_X6_kiln_16, tand, true_and, and_true, nl1_int, nl1_ref, nl1_null, nl1_ra, cat1_int, cat1_ref, cat1_null, stbs_nil, stbs_cons, stb_int, stb_long, stb_ref, stb_null, stb_ra, alv_nil, alv_cons, alv1_int, alv1_ref, alv1_null, alv1_ra, List.length_nil, List.length_cons, Nat.reduceAdd, Nat.reduceLeDiff, Nat.zero_le, Option.toList_some, Option.toList_none, List.cons_append, List.nil_append, or_true, true_or, or_false, false_or, Nat.reduceEqDiff, not_true_eq_false, not_false_eq_true, false_and, and_false, false_implies, true_implies, implies_true, ne_eq, and_self, ok1]
    rcases sw_case x 11 (by omega) with ⟨s, hs, ex⟩ | ⟨hx, hno⟩
    · have q3' := fun h9 => q3 k s hk ev hs h9 ex
      have : s = 0 ∨ s = 1 ∨ s = 2 ∨ s = 3 ∨ s = 4 ∨ s = 5 ∨ s = 6 ∨ s = 7 ∨ s = 8 ∨ s = 9 ∨ s = 10 ∨ s = 11 := by omega
      subst ex
      rcases this with e | e | e | e | e | e | e | e | e | e | e | e <;> subst e
      · show WP m_X6_kiln Q 80 _ [] g
        simp only [e_X6_kiln_80, e_X6_kiln_80n, e_X6_kiln_81, e_X6_kiln_84, tand, true_and, and_true, nl1_int, nl1_ref, nl1_null, nl1_ra, cat1_int, cat1_ref, cat1_null, stbs_nil, stbs_cons, stb_int, stb_long, stb_ref, stb_null, stb_ra, alv_nil, alv_cons, alv1_int, alv1_ref, alv1_null, alv1_ra, List.length_nil, List.length_cons, Nat.reduceAdd, Nat.reduceLeDiff, Nat.zero_le, Option.toList_some, Option.toList_none, List.cons_append, List.nil_append, or_true, true_or, or_false, false_or, Nat.reduceEqDiff, not_true_eq_false, not_false_eq_true, false_and, and_false, false_implies, true_implies, implies_true, ne_eq, and_self, ok1, kk, o 0 (by decide)]
        exact q3' (by decide)
      · show WP m_X6_kiln Q 85 _ [] g
        simp only [e_X6_kiln_85, e_X6_kiln_85n, e_X6_kiln_86, e_X6_kiln_89, e_X6_kiln_92, tand, true_and, and_true, nl1_int, nl1_ref, nl1_null, nl1_ra, cat1_int, cat1_ref, cat1_null, stbs_nil, stbs_cons, stb_int, stb_long, stb_ref, stb_null, stb_ra, alv_nil, alv_cons, alv1_int, alv1_ref, alv1_null, alv1_ra, List.length_nil, List.length_cons, Nat.reduceAdd, Nat.reduceLeDiff, Nat.zero_le, Option.toList_some, Option.toList_none, List.cons_append, List.nil_append, or_true, true_or, or_false, false_or, Nat.reduceEqDiff, not_true_eq_false, not_false_eq_true, false_and, and_false, false_implies, true_implies, implies_true, ne_eq, and_self, ok1, kk, kr, kp, kt, zP]
        exact q3' (by decide)
      · show WP m_X6_kiln Q 93 _ [] g
        simp only [e_X6_kiln_93, e_X6_kiln_93n, e_X6_kiln_94, e_X6_kiln_97, tand, true_and, and_true, nl1_int, nl1_ref, nl1_null, nl1_ra, cat1_int, cat1_ref, cat1_null, stbs_nil, stbs_cons, stb_int, stb_long, stb_ref, stb_null, stb_ra, alv_nil, alv_cons, alv1_int, alv1_ref, alv1_null, alv1_ra, List.length_nil, List.length_cons, Nat.reduceAdd, Nat.reduceLeDiff, Nat.zero_le, Option.toList_some, Option.toList_none, List.cons_append, List.nil_append, or_true, true_or, or_false, false_or, Nat.reduceEqDiff, not_true_eq_false, not_false_eq_true, false_and, and_false, false_implies, true_implies, implies_true, ne_eq, and_self, ok1, kk, o 1 (by decide)]
        exact q3' (by decide)
      · show WP m_X6_kiln Q 98 _ [] g
        simp only [e_X6_kiln_98, e_X6_kiln_98n, e_X6_kiln_99, e_X6_kiln_102, tand, true_and, and_true, nl1_int, nl1_ref, nl1_null, nl1_ra, cat1_int, cat1_ref, cat1_null, stbs_nil, stbs_cons, stb_int, stb_long, stb_ref, stb_null, stb_ra, alv_nil, alv_cons, alv1_int, alv1_ref, alv1_null, alv1_ra, List.length_nil, List.length_cons, Nat.reduceAdd, Nat.reduceLeDiff, Nat.zero_le, Option.toList_some, Option.toList_none, List.cons_append, List.nil_append, or_true, true_or, or_false, false_or, Nat.reduceEqDiff, not_true_eq_false, not_false_eq_true, false_and, and_false, false_implies, true_implies, implies_true, ne_eq, and_self, ok1, kk, o 2 (by decide)]
        exact q3' (by decide)
      · show WP m_X6_kiln Q 103 _ [] g
        simp only [e_X6_kiln_103, e_X6_kiln_103n, e_X6_kiln_104, e_X6_kiln_107, tand, true_and, and_true, nl1_int, nl1_ref, nl1_null, nl1_ra, cat1_int, cat1_ref, cat1_null, stbs_nil, stbs_cons, stb_int, stb_long, stb_ref, stb_null, stb_ra, alv_nil, alv_cons, alv1_int, alv1_ref, alv1_null, alv1_ra, List.length_nil, List.length_cons, Nat.reduceAdd, Nat.reduceLeDiff, Nat.zero_le, Option.toList_some, Option.toList_none, List.cons_append, List.nil_append, or_true, true_or, or_false, false_or, Nat.reduceEqDiff, not_true_eq_false, not_false_eq_true, false_and, and_false, false_implies, true_implies, implies_true, ne_eq, and_self, ok1, kk, o 3 (by decide)]
        exact q3' (by decide)
      · show WP m_X6_kiln Q 108 _ [] g
        simp only [e_X6_kiln_108, e_X6_kiln_108n, e_X6_kiln_109, e_X6_kiln_112, tand, true_and, and_true, nl1_int, nl1_ref, nl1_null, nl1_ra, cat1_int, cat1_ref, cat1_null, stbs_nil, stbs_cons, stb_int, stb_long, stb_ref, stb_null, stb_ra, alv_nil, alv_cons, alv1_int, alv1_ref, alv1_null, alv1_ra, List.length_nil, List.length_cons, Nat.reduceAdd, Nat.reduceLeDiff, Nat.zero_le, Option.toList_some, Option.toList_none, List.cons_append, List.nil_append, or_true, true_or, or_false, false_or, Nat.reduceEqDiff, not_true_eq_false, not_false_eq_true, false_and, and_false, false_implies, true_implies, implies_true, ne_eq, and_self, ok1, kk, o 4 (by decide)]
        exact q3' (by decide)
      · show WP m_X6_kiln Q 113 _ [] g
        simp only [e_X6_kiln_113, e_X6_kiln_113n, e_X6_kiln_114, e_X6_kiln_117, tand, true_and, and_true, nl1_int, nl1_ref, nl1_null, nl1_ra, cat1_int, cat1_ref, cat1_null, stbs_nil, stbs_cons, stb_int, stb_long, stb_ref, stb_null, stb_ra, alv_nil, alv_cons, alv1_int, alv1_ref, alv1_null, alv1_ra, List.length_nil, List.length_cons, Nat.reduceAdd, Nat.reduceLeDiff, Nat.zero_le, Option.toList_some, Option.toList_none, List.cons_append, List.nil_append, or_true, true_or, or_false, false_or, Nat.reduceEqDiff, not_true_eq_false, not_false_eq_true, false_and, and_false, false_implies, true_implies, implies_true, ne_eq, and_self, ok1, kk, o 5 (by decide)]
        exact q3' (by decide)
      · show WP m_X6_kiln Q 118 _ [] g
        simp only [e_X6_kiln_118, e_X6_kiln_118n, e_X6_kiln_119, e_X6_kiln_122, tand, true_and, and_true, nl1_int, nl1_ref, nl1_null, nl1_ra, cat1_int, cat1_ref, cat1_null, stbs_nil, stbs_cons, stb_int, stb_long, stb_ref, stb_null, stb_ra, alv_nil, alv_cons, alv1_int, alv1_ref, alv1_null, alv1_ra, List.length_nil, List.length_cons, Nat.reduceAdd, Nat.reduceLeDiff, Nat.zero_le, Option.toList_some, Option.toList_none, List.cons_append, List.nil_append, or_true, true_or, or_false, false_or, Nat.reduceEqDiff, not_true_eq_false, not_false_eq_true, false_and, and_false, false_implies, true_implies, implies_true, ne_eq, and_self, ok1, kk, o 6 (by decide)]
        exact q3' (by decide)
      · show WP m_X6_kiln Q 123 _ [] g
        simp only [e_X6_kiln_123, e_X6_kiln_123n, e_X6_kiln_124, tand, true_and, and_true, nl1_int, nl1_ref, nl1_null, nl1_ra, cat1_int, cat1_ref, cat1_null, stbs_nil, stbs_cons, stb_int, stb_long, stb_ref, stb_null, stb_ra, alv_nil, alv_cons, alv1_int, alv1_ref, alv1_null, alv1_ra, List.length_nil, List.length_cons, Nat.reduceAdd, Nat.reduceLeDiff, Nat.zero_le, Option.toList_some, Option.toList_none, List.cons_append, List.nil_append, or_true, true_or, or_false, false_or, Nat.reduceEqDiff, not_true_eq_false, not_false_eq_true, false_and, and_false, false_implies, true_implies, implies_true, ne_eq, and_self, ok1, kk, a1]
        refine c_lack hT hk hB ?_
        simp only [e_X6_kiln_127, tand, true_and, and_true, nl1_int, nl1_ref, nl1_null, nl1_ra, cat1_int, cat1_ref, cat1_null, stbs_nil, stbs_cons, stb_int, stb_long, stb_ref, stb_null, stb_ra, alv_nil, alv_cons, alv1_int, alv1_ref, alv1_null, alv1_ra, List.length_nil, List.length_cons, Nat.reduceAdd, Nat.reduceLeDiff, Nat.zero_le, Option.toList_some, Option.toList_none, List.cons_append, List.nil_append, or_true, true_or, or_false, false_or, Nat.reduceEqDiff, not_true_eq_false, not_false_eq_true, false_and, and_false, false_implies, true_implies, implies_true, ne_eq, and_self, ok1]
        exact q3' (by decide)
      · show WP m_X6_kiln Q 128 _ [] g
        obtain ⟨yn, hP⟩ := (hT.2.2.2.1 k hk).2
        have ft := (hB.2.1 k hk).2
        simp only [e_X6_kiln_128, e_X6_kiln_128n, e_X6_kiln_129, e_X6_kiln_132, tand, true_and, and_true, nl1_int, nl1_ref, nl1_null, nl1_ra, cat1_int, cat1_ref, cat1_null, stbs_nil, stbs_cons, stb_int, stb_long, stb_ref, stb_null, stb_ra, alv_nil, alv_cons, alv1_int, alv1_ref, alv1_null, alv1_ra, List.length_nil, List.length_cons, Nat.reduceAdd, Nat.reduceLeDiff, Nat.zero_le, Option.toList_some, Option.toList_none, List.cons_append, List.nil_append, or_true, true_or, or_false, false_or, Nat.reduceEqDiff, not_true_eq_false, not_false_eq_true, false_and, and_false, false_implies, true_implies, implies_true, ne_eq, and_self, ok1, kk, kr, kp, zP, a1]
        refine c_oldestYear hP (by omega) fun r hr => ?_
        simp only [e_X6_kiln_135, tand, true_and, and_true, nl1_int, nl1_ref, nl1_null, nl1_ra, cat1_int, cat1_ref, cat1_null, stbs_nil, stbs_cons, stb_int, stb_long, stb_ref, stb_null, stb_ra, alv_nil, alv_cons, alv1_int, alv1_ref, alv1_null, alv1_ra, List.length_nil, List.length_cons, Nat.reduceAdd, Nat.reduceLeDiff, Nat.zero_le, Option.toList_some, Option.toList_none, List.cons_append, List.nil_append, or_true, true_or, or_false, false_or, Nat.reduceEqDiff, not_true_eq_false, not_false_eq_true, false_and, and_false, false_implies, true_implies, implies_true, ne_eq, and_self, ok1]
        exact q4 k r hk ev rfl hr
      · show WP m_X6_kiln Q 136 _ [] g
        subst ev
        simp only [e_X6_kiln_136, e_X6_kiln_137, e_X6_kiln_140, e_X6_kiln_141, tand, true_and, and_true, nl1_int, nl1_ref, nl1_null, nl1_ra, cat1_int, cat1_ref, cat1_null, stbs_nil, stbs_cons, stb_int, stb_long, stb_ref, stb_null, stb_ra, alv_nil, alv_cons, alv1_int, alv1_ref, alv1_null, alv1_ra, List.length_nil, List.length_cons, Nat.reduceAdd, Nat.reduceLeDiff, Nat.zero_le, Option.toList_some, Option.toList_none, List.cons_append, List.nil_append, or_true, true_or, or_false, false_or, Nat.reduceEqDiff, not_true_eq_false, not_false_eq_true, false_and, and_false, false_implies, true_implies, implies_true, ne_eq, and_self, ok1, kk, a1, a2, hN.z, k6]
        refine c_offeredBy (by omega) hT hB ?_
        simp only [e_X6_kiln_144, tand, true_and, and_true, nl1_int, nl1_ref, nl1_null, nl1_ra, cat1_int, cat1_ref, cat1_null, stbs_nil, stbs_cons, stb_int, stb_long, stb_ref, stb_null, stb_ra, alv_nil, alv_cons, alv1_int, alv1_ref, alv1_null, alv1_ra, List.length_nil, List.length_cons, Nat.reduceAdd, Nat.reduceLeDiff, Nat.zero_le, Option.toList_some, Option.toList_none, List.cons_append, List.nil_append, or_true, true_or, or_false, false_or, Nat.reduceEqDiff, not_true_eq_false, not_false_eq_true, false_and, and_false, false_implies, true_implies, implies_true, ne_eq, and_self, ok1]
        exact q3' (by decide)
      · show WP m_X6_kiln Q 145 _ [] g
        subst ev
        simp only [e_X6_kiln_145, e_X6_kiln_146, e_X6_kiln_149, e_X6_kiln_150, tand, true_and, and_true, nl1_int, nl1_ref, nl1_null, nl1_ra, cat1_int, cat1_ref, cat1_null, stbs_nil, stbs_cons, stb_int, stb_long, stb_ref, stb_null, stb_ra, alv_nil, alv_cons, alv1_int, alv1_ref, alv1_null, alv1_ra, List.length_nil, List.length_cons, Nat.reduceAdd, Nat.reduceLeDiff, Nat.zero_le, Option.toList_some, Option.toList_none, List.cons_append, List.nil_append, or_true, true_or, or_false, false_or, Nat.reduceEqDiff, not_true_eq_false, not_false_eq_true, false_and, and_false, false_implies, true_implies, implies_true, ne_eq, and_self, ok1, kk, a1, a2, hN.z, k6]
        refine c_heldBackBy (by omega) hT hB ?_
        simp only [e_X6_kiln_153, tand, true_and, and_true, nl1_int, nl1_ref, nl1_null, nl1_ra, cat1_int, cat1_ref, cat1_null, stbs_nil, stbs_cons, stb_int, stb_long, stb_ref, stb_null, stb_ra, alv_nil, alv_cons, alv1_int, alv1_ref, alv1_null, alv1_ra, List.length_nil, List.length_cons, Nat.reduceAdd, Nat.reduceLeDiff, Nat.zero_le, Option.toList_some, Option.toList_none, List.cons_append, List.nil_append, or_true, true_or, or_false, false_or, Nat.reduceEqDiff, not_true_eq_false, not_false_eq_true, false_and, and_false, false_implies, true_implies, implies_true, ne_eq, and_self, ok1]
        exact q3' (by decide)
    · rw [if_pos (show x.toInt < 0 ∨ (11 : Int) < x.toInt from hx)]
      simp only [e_X6_kiln_154, e_X6_kiln_156, tand, true_and, and_true, nl1_int, nl1_ref, nl1_null, nl1_ra, cat1_int, cat1_ref, cat1_null, stbs_nil, stbs_cons, stb_int, stb_long, stb_ref, stb_null, stb_ra, alv_nil, alv_cons, alv1_int, alv1_ref, alv1_null, alv1_ra, List.length_nil, List.length_cons, Nat.reduceAdd, Nat.reduceLeDiff, Nat.zero_le, Option.toList_some, Option.toList_none, List.cons_append, List.nil_append, or_true, true_or, or_false, false_or, Nat.reduceEqDiff, not_true_eq_false, not_false_eq_true, false_and, and_false, false_implies, true_implies, implies_true, ne_eq, and_self, ok1]
      exact q2 k hk ev hno
  · simp only [e_X6_kiln_8, e_X6_kiln_8n, e_X6_kiln_9, e_X6_kiln_9n, e_X6_kiln_10, e_X6_kiln_10n, e_X6_kiln_13, e_X6_kiln_14, tand, true_and, and_true, nl1_int, nl1_ref, nl1_null, nl1_ra, cat1_int, cat1_ref, cat1_null, stbs_nil, stbs_cons, stb_int, stb_long, stb_ref, stb_null, stb_ra, alv_nil, alv_cons, alv1_int, alv1_ref, alv1_null, alv1_ra, List.length_nil, List.length_cons, Nat.reduceAdd, Nat.reduceLeDiff, Nat.zero_le, Option.toList_some, Option.toList_none, List.cons_append, List.nil_append, or_true, true_or, or_false, false_or, Nat.reduceEqDiff, not_true_eq_false, not_false_eq_true, false_and, and_false, false_implies, true_implies, implies_true, ne_eq, and_self, ok1]
    exact q1 hno
theorem c_ofYear {v x : Int32} (h : MA g w hist st kept snap t n) (hy : wS w 0 < 1000)
    (q1 : (∀ k, k < 6 → v ≠ nI k) → Q (some (.int (-1))) g)
    (q2 : ∀ k, k < 6 → v = nI k → ¬ (∃ y, x = nI y ∧ y ≤ wS w 0) → Q (some (.int (-2))) g)
    (q3 : ∀ k y, k < 6 → v = nI k → x = nI y → y ≤ wS w 0 → Q (some (.int (nI (wP w k y)))) g) : w_X6_ofYear [.ref 20, .int v, .int x] g Q := by
  refine wm_at rfl ⟨trivial, trivial, trivial, trivial⟩ (show WP m_X6_ofYear Q 0 [.ref 20, .int v, .int x, .retAddr 0] [] g from ?_)
  obtain ⟨N, hN, ⟨a1, a2⟩, hT, hS, hJ, _, _⟩ := h.now
  have k6 := isT.k6 hT
  simp only [e_X6_ofYear_0, e_X6_ofYear_1, e_X6_ofYear_4, e_X6_ofYear_5, tand, true_and, and_true, nl1_int, nl1_ref, nl1_null, nl1_ra, cat1_int, cat1_ref, cat1_null, stbs_nil, stbs_cons, stb_int, stb_long, stb_ref, stb_null, stb_ra, alv_nil, alv_cons, alv1_int, alv1_ref, alv1_null, alv1_ra, List.length_nil, List.length_cons, Nat.reduceAdd, Nat.reduceLeDiff, Nat.zero_le, Option.toList_some, Option.toList_none, List.cons_append, List.nil_append, or_true, true_or, or_false, false_or, Nat.reduceEqDiff, not_true_eq_false, not_false_eq_true, false_and, and_false, false_implies, true_implies, implies_true, ne_eq, and_self, ok1, a1, a2, hN.z, k6]
  refine c_kilnAt hT (fun k hk ev => ?_) (fun hno => ?_)
  · obtain ⟨⟨kk, kr⟩, ⟨kp, kt⟩, o⟩ := hT.k hk
    have zP : N + 5 + 3 * k ≠ 0 := by omega
    simp only [e_X6_ofYear_8, e_X6_ofYear_8n, e_X6_ofYear_9, e_X6_ofYear_9n, e_X6_ofYear_10, e_X6_ofYear_10n, e_X6_ofYear_13, e_X6_ofYear_14, e_X6_ofYear_15, e_X6_ofYear_16, e_X6_ofYear_17, e_X6_ofYear_18, e_X6_ofYear_21, e_X6_ofYear_24, tand, true_and, and_true, nl1_int, nl1_ref, nl1_null, nl1_ra, cat1_int, cat1_ref, cat1_null, stbs_nil, stbs_cons, stb_int, stb_long, stb_ref, stb_null, stb_ra, alv_nil, alv_cons, alv1_int, alv1_ref, alv1_null, alv1_ra, List.length_nil, List.length_cons, Nat.reduceAdd, Nat.reduceLeDiff, Nat.zero_le, Option.toList_some, Option.toList_none, List.cons_append, List.nil_append, or_true, true_or, or_false, false_or, Nat.reduceEqDiff, not_true_eq_false, not_false_eq_true, false_and, and_false, false_implies, true_implies, implies_true, ne_eq, and_self, ok1, a1, a2, hN.z, k6, hT.2.1 0 (by decide), kk]
    refine c_isWithin (fun h1 h2 => ?_) (fun hn => ?_)
    · obtain ⟨y, ey, _, y2⟩ := nI_ex (a := 0) (by omega) h1 h2 (by omega)
      obtain ⟨yn, hP⟩ := (hT.2.2.2.1 k hk).2
      subst ey
      simp only [e_X6_ofYear_27, e_X6_ofYear_33, e_X6_ofYear_33n, e_X6_ofYear_34, e_X6_ofYear_37, e_X6_ofYear_38, tand, true_and, and_true, nl1_int, nl1_ref, nl1_null, nl1_ra, cat1_int, cat1_ref, cat1_null, stbs_nil, stbs_cons, stb_int, stb_long, stb_ref, stb_null, stb_ra, alv_nil, alv_cons, alv1_int, alv1_ref, alv1_null, alv1_ra, List.length_nil, List.length_cons, Nat.reduceAdd, Nat.reduceLeDiff, Nat.zero_le, Option.toList_some, Option.toList_none, List.cons_append, List.nil_append, or_true, true_or, or_false, false_or, Nat.reduceEqDiff, not_true_eq_false, not_false_eq_true, false_and, and_false, false_implies, true_implies, implies_true, ne_eq, and_self, ok1, n1z, a1, kk, kr, kp, zP]
      refine c_issuedFor hP (by omega) ?_
      simp only [e_X6_ofYear_41, tand, true_and, and_true, nl1_int, nl1_ref, nl1_null, nl1_ra, cat1_int, cat1_ref, cat1_null, stbs_nil, stbs_cons, stb_int, stb_long, stb_ref, stb_null, stb_ra, alv_nil, alv_cons, alv1_int, alv1_ref, alv1_null, alv1_ra, List.length_nil, List.length_cons, Nat.reduceAdd, Nat.reduceLeDiff, Nat.zero_le, Option.toList_some, Option.toList_none, List.cons_append, List.nil_append, or_true, true_or, or_false, false_or, Nat.reduceEqDiff, not_true_eq_false, not_false_eq_true, false_and, and_false, false_implies, true_implies, implies_true, ne_eq, and_self, ok1]
      exact q3 k y hk ev rfl y2
    · simp only [e_X6_ofYear_27, e_X6_ofYear_30, e_X6_ofYear_32, tand, true_and, and_true, nl1_int, nl1_ref, nl1_null, nl1_ra, cat1_int, cat1_ref, cat1_null, stbs_nil, stbs_cons, stb_int, stb_long, stb_ref, stb_null, stb_ra, alv_nil, alv_cons, alv1_int, alv1_ref, alv1_null, alv1_ra, List.length_nil, List.length_cons, Nat.reduceAdd, Nat.reduceLeDiff, Nat.zero_le, Option.toList_some, Option.toList_none, List.cons_append, List.nil_append, or_true, true_or, or_false, false_or, Nat.reduceEqDiff, not_true_eq_false, not_false_eq_true, false_and, and_false, false_implies, true_implies, implies_true, ne_eq, and_self, ok1, n0z]
      refine q2 k hk ev fun ⟨y, ey, y2⟩ => hn ?_
      exact (nI_range (a := 0) (by omega) (by omega)).mp ⟨y, ey, Nat.zero_le _, y2⟩
  · simp only [e_X6_ofYear_8, e_X6_ofYear_8n, e_X6_ofYear_9, e_X6_ofYear_9n, e_X6_ofYear_10, e_X6_ofYear_10n, e_X6_ofYear_13, e_X6_ofYear_14, tand, true_and, and_true, nl1_int, nl1_ref, nl1_null, nl1_ra, cat1_int, cat1_ref, cat1_null, stbs_nil, stbs_cons, stb_int, stb_long, stb_ref, stb_null, stb_ra, alv_nil, alv_cons, alv1_int, alv1_ref, alv1_null, alv1_ra, List.length_nil, List.length_cons, Nat.reduceAdd, Nat.reduceLeDiff, Nat.zero_le, Option.toList_some, Option.toList_none, List.cons_append, List.nil_append, or_true, true_or, or_false, false_or, Nat.reduceEqDiff, not_true_eq_false, not_false_eq_true, false_and, and_false, false_implies, true_implies, implies_true, ne_eq, and_self, ok1]
    exact q1 hno
theorem c_order {b : Nat} {v x : Int32} (hb : b ≤ 1) (h : MA g w hist st kept snap t n) (hB : TB w)
    (q1 : (v < 0 ∨ ∀ s, s ≤ 3 → x ≠ nI s) → Q (some (.int (-2))) g)
    (q2 : ∀ s, ¬ v < 0 → s ≤ 3 → x = nI s → (∀ i, i < 17 → stF w b i = true → v ≠ nI (btN w i)) → Q (some (.int (-5))) g)
    (q3 : ∀ s i, ¬ v < 0 → s ≤ 3 → x = nI s → i < 17 → stF w b i = true → v = nI (btN w i) → Q (some (.int (nI (wF w i (if s = 0 then 0 else if s = 1 then 2 else if s = 2 then 3 else 4))))) g) : w_X6_order [.ref 20, .int (nI b), .int v, .int x] g Q := by
  refine wm_at rfl ⟨trivial, trivial, trivial, trivial, trivial⟩ (show WP m_X6_order Q 0 [.ref 20, .int (nI b), .int v, .int x, .retAddr 0] [] g from ?_)
  obtain ⟨N, hN, ⟨a1, a2⟩, hT, hS, hJ, _, _⟩ := h.now
  have k6 := isT.k6 hT
  have bad : (v < 0 ∨ ∀ s, s ≤ 3 → x ≠ nI s) → WP m_X6_order Q 13 [.ref 20, .int (nI b), .int v, .int x, .retAddr 0] [] g := fun hh => by
    simp only [e_X6_order_13, e_X6_order_15, tand, true_and, and_true, nl1_int, nl1_ref, nl1_null, nl1_ra, cat1_int, cat1_ref, cat1_null, stbs_nil, stbs_cons, stb_int, stb_long, stb_ref, stb_null, stb_ra, alv_nil, alv_cons, alv1_int, alv1_ref, alv1_null, alv1_ra, List.length_nil, List.length_cons, Nat.reduceAdd, Nat.reduceLeDiff, Nat.zero_le, Option.toList_some, Option.toList_none, List.cons_append, List.nil_append, or_true, true_or, or_false, false_or, Nat.reduceEqDiff, not_true_eq_false, not_false_eq_true, false_and, and_false, false_implies, true_implies, implies_true, ne_eq, and_self, ok1]
    exact q1 hh
  simp only [e_X6_order_0, e_X6_order_1, e_X6_order_4, e_X6_order_5, e_X6_order_6, e_X6_order_7, tand, true_and, and_true, nl1_int, nl1_ref, nl1_null, nl1_ra, cat1_int, cat1_ref, cat1_null, stbs_nil, stbs_cons, stb_int, stb_long, stb_ref, stb_null, stb_ra, alv_nil, alv_cons, alv1_int, alv1_ref, alv1_null, alv1_ra, List.length_nil, List.length_cons, Nat.reduceAdd, Nat.reduceLeDiff, Nat.zero_le, Option.toList_some, Option.toList_none, List.cons_append, List.nil_append, or_true, true_or, or_false, false_or, Nat.reduceEqDiff, not_true_eq_false, not_false_eq_true, false_and, and_false, false_implies, true_implies, implies_true, ne_eq, and_self, ok1, a1]
  refine ⟨fun h1 => bad (Or.inl h1), fun h1 => ?_⟩
  refine c_isWithin (fun h2 h3 => ?_) (fun hn => ?_)
  · obtain ⟨s, es, _, s2⟩ := nI_ex (a := 0) (by omega) h2 h3 (by omega)
    simp only [e_X6_order_10, e_X6_order_16, e_X6_order_17, e_X6_order_20, e_X6_order_21, e_X6_order_22, tand, true_and, and_true, nl1_int, nl1_ref, nl1_null, nl1_ra, cat1_int, cat1_ref, cat1_null, stbs_nil, stbs_cons, stb_int, stb_long, stb_ref, stb_null, stb_ra, alv_nil, alv_cons, alv1_int, alv1_ref, alv1_null, alv1_ra, List.length_nil, List.length_cons, Nat.reduceAdd, Nat.reduceLeDiff, Nat.zero_le, Option.toList_some, Option.toList_none, List.cons_append, List.nil_append, or_true, true_or, or_false, false_or, Nat.reduceEqDiff, not_true_eq_false, not_false_eq_true, false_and, and_false, false_implies, true_implies, implies_true, ne_eq, and_self, ok1, n1z, a1, a2, hN.z, k6]
    refine c_ranked hb hT hB (fun i hi hst ev => ?_) (fun hno => ?_)
    · obtain ⟨⟨o1, _⟩, _, o5⟩ := hT.o hi
      have q3' := q3 s i h1 s2 es hi hst ev
      simp only [e_X6_order_25, e_X6_order_25n, e_X6_order_27, e_X6_order_27n, e_X6_order_29, e_X6_order_29n, e_X6_order_35, e_X6_order_36, tand, true_and, and_true, nl1_int, nl1_ref, nl1_null, nl1_ra, cat1_int, cat1_ref, cat1_null, stbs_nil, stbs_cons, stb_int, stb_long, stb_ref, stb_null, stb_ra, alv_nil, alv_cons, alv1_int, alv1_ref, alv1_null, alv1_ra, List.length_nil, List.length_cons, Nat.reduceAdd, Nat.reduceLeDiff, Nat.zero_le, Option.toList_some, Option.toList_none, List.cons_append, List.nil_append, or_true, true_or, or_false, false_or, Nat.reduceEqDiff, not_true_eq_false, not_false_eq_true, false_and, and_false, false_implies, true_implies, implies_true, ne_eq, and_self, ok1]
      subst es
      have : s = 0 ∨ s = 1 ∨ s = 2 ∨ s = 3 := by omega
      rcases this with e | e | e | e <;> subst e
      · show WP m_X6_order Q 64 _ [] g
        simp only [e_X6_order_64, e_X6_order_64n, e_X6_order_66, e_X6_order_69, tand, true_and, and_true, nl1_int, nl1_ref, nl1_null, nl1_ra, cat1_int, cat1_ref, cat1_null, stbs_nil, stbs_cons, stb_int, stb_long, stb_ref, stb_null, stb_ra, alv_nil, alv_cons, alv1_int, alv1_ref, alv1_null, alv1_ra, List.length_nil, List.length_cons, Nat.reduceAdd, Nat.reduceLeDiff, Nat.zero_le, Option.toList_some, Option.toList_none, List.cons_append, List.nil_append, or_true, true_or, or_false, false_or, Nat.reduceEqDiff, not_true_eq_false, not_false_eq_true, false_and, and_false, false_implies, true_implies, implies_true, ne_eq, and_self, ok1, o1, o5 0 (by decide)]
        exact q3'
      · show WP m_X6_order Q 70 _ [] g
        simp only [e_X6_order_70, e_X6_order_70n, e_X6_order_72, e_X6_order_75, tand, true_and, and_true, nl1_int, nl1_ref, nl1_null, nl1_ra, cat1_int, cat1_ref, cat1_null, stbs_nil, stbs_cons, stb_int, stb_long, stb_ref, stb_null, stb_ra, alv_nil, alv_cons, alv1_int, alv1_ref, alv1_null, alv1_ra, List.length_nil, List.length_cons, Nat.reduceAdd, Nat.reduceLeDiff, Nat.zero_le, Option.toList_some, Option.toList_none, List.cons_append, List.nil_append, or_true, true_or, or_false, false_or, Nat.reduceEqDiff, not_true_eq_false, not_false_eq_true, false_and, and_false, false_implies, true_implies, implies_true, ne_eq, and_self, ok1, o1, o5 2 (by decide)]
        exact q3'
      · show WP m_X6_order Q 76 _ [] g
        simp only [e_X6_order_76, e_X6_order_76n, e_X6_order_78, e_X6_order_81, tand, true_and, and_true, nl1_int, nl1_ref, nl1_null, nl1_ra, cat1_int, cat1_ref, cat1_null, stbs_nil, stbs_cons, stb_int, stb_long, stb_ref, stb_null, stb_ra, alv_nil, alv_cons, alv1_int, alv1_ref, alv1_null, alv1_ra, List.length_nil, List.length_cons, Nat.reduceAdd, Nat.reduceLeDiff, Nat.zero_le, Option.toList_some, Option.toList_none, List.cons_append, List.nil_append, or_true, true_or, or_false, false_or, Nat.reduceEqDiff, not_true_eq_false, not_false_eq_true, false_and, and_false, false_implies, true_implies, implies_true, ne_eq, and_self, ok1, o1, o5 3 (by decide)]
        exact q3'
      · show WP m_X6_order Q 82 _ [] g
        simp only [e_X6_order_82, e_X6_order_82n, e_X6_order_84, e_X6_order_87, tand, true_and, and_true, nl1_int, nl1_ref, nl1_null, nl1_ra, cat1_int, cat1_ref, cat1_null, stbs_nil, stbs_cons, stb_int, stb_long, stb_ref, stb_null, stb_ra, alv_nil, alv_cons, alv1_int, alv1_ref, alv1_null, alv1_ra, List.length_nil, List.length_cons, Nat.reduceAdd, Nat.reduceLeDiff, Nat.zero_le, Option.toList_some, Option.toList_none, List.cons_append, List.nil_append, or_true, true_or, or_false, false_or, Nat.reduceEqDiff, not_true_eq_false, not_false_eq_true, false_and, and_false, false_implies, true_implies, implies_true, ne_eq, and_self, ok1, o1, o5 4 (by decide)]
        exact q3'
    · simp only [e_X6_order_25, e_X6_order_25n, e_X6_order_27, e_X6_order_27n, e_X6_order_29, e_X6_order_29n, e_X6_order_32, e_X6_order_34, tand, true_and, and_true, nl1_int, nl1_ref, nl1_null, nl1_ra, cat1_int, cat1_ref, cat1_null, stbs_nil, stbs_cons, stb_int, stb_long, stb_ref, stb_null, stb_ra, alv_nil, alv_cons, alv1_int, alv1_ref, alv1_null, alv1_ra, List.length_nil, List.length_cons, Nat.reduceAdd, Nat.reduceLeDiff, Nat.zero_le, Option.toList_some, Option.toList_none, List.cons_append, List.nil_append, or_true, true_or, or_false, false_or, Nat.reduceEqDiff, not_true_eq_false, not_false_eq_true, false_and, and_false, false_implies, true_implies, implies_true, ne_eq, and_self, ok1]
      exact q2 s h1 s2 es hno
  · simp only [e_X6_order_10, tand, true_and, and_true, nl1_int, nl1_ref, nl1_null, nl1_ra, cat1_int, cat1_ref, cat1_null, stbs_nil, stbs_cons, stb_int, stb_long, stb_ref, stb_null, stb_ra, alv_nil, alv_cons, alv1_int, alv1_ref, alv1_null, alv1_ra, List.length_nil, List.length_cons, Nat.reduceAdd, Nat.reduceLeDiff, Nat.zero_le, Option.toList_some, Option.toList_none, List.cons_append, List.nil_append, or_true, true_or, or_false, false_or, Nat.reduceEqDiff, not_true_eq_false, not_false_eq_true, false_and, and_false, false_implies, true_implies, implies_true, ne_eq, and_self, ok1, n0z]
    refine bad (Or.inr fun s hs e => hn ?_)
    exact (nI_range (a := 0) (b := 3) (by omega) (by omega)).mp ⟨s, e, Nat.zero_le _, hs⟩
end Tel
