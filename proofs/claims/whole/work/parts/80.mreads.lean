/-! ===== the model: orders read ===== -/
section Rdl
variable {t : Nat → Nat} {n p : Nat}
theorem rdD_5 (hd : p < n ∧ 48 ≤ t p ∧ t p ≤ 53) : rdD t n p = some (t p - 48) := if_pos ⟨hd.1, hd.2.1, by omega⟩
theorem rdL_1 (h : ¬ (p < n ∧ (t p = 98 ∨ t p = 97))) : rdL t n p = (false, p, 0, 0, 0, 0) := by
  unfold rdL
  rw [if_neg h]
theorem rdL_2 (h : p < n ∧ (t p = 98 ∨ t p = 97)) (hd : ¬ (p + 1 < n ∧ 48 ≤ t (p + 1) ∧ t (p + 1) ≤ 53)) : rdL t n p = (false, p + 1, 0, 0, 0, 0) := by
  unfold rdL
  rw [if_pos h]
  by_cases h9 : p + 1 < n ∧ 48 ≤ t (p + 1) ∧ t (p + 1) ≤ 57
  · have e : rdD t n (p + 1) = some (t (p + 1) - 48) := if_pos h9
    rw [e]
    show (if 5 < t (p + 1) - 48 then _ else _) = _
    rw [if_pos (by omega)]
  · have e : rdD t n (p + 1) = none := if_neg h9
    rw [e]
theorem rdL_3 (h : p < n ∧ (t p = 98 ∨ t p = 97)) (hd : p + 1 < n ∧ 48 ≤ t (p + 1) ∧ t (p + 1) ≤ 53) (h3 : ¬ (p + 2 < n ∧ t (p + 2) = 58)) : rdL t n p = (false, p + 2, 0, 0, 0, 0) := by
  unfold rdL
  rw [if_pos h, rdD_5 hd]
  show (if 5 < t (p + 1) - 48 then _ else _) = _
  rw [if_neg (by omega), if_neg h3]
theorem rdL_4 (h : p < n ∧ (t p = 98 ∨ t p = 97)) (hd : p + 1 < n ∧ 48 ≤ t (p + 1) ∧ t (p + 1) ≤ 53) (h3 : p + 2 < n ∧ t (p + 2) = 58) (h4 : ¬ ((rdN t n 999 60 (p + 3) 0).2 ≠ 0 ∧ (rdN t n 999 60 (p + 3) 0).1 < n ∧ t (rdN t n 999 60 (p + 3) 0).1 = 64)) : rdL t n p = (false, (rdN t n 999 60 (p + 3) 0).1, 0, 0, 0, 0) := by
  unfold rdL
  rw [if_pos h, rdD_5 hd]
  show (if 5 < t (p + 1) - 48 then _ else _) = _
  rw [if_neg (by omega), if_pos h3, if_neg h4]
theorem rdL_5 (h : p < n ∧ (t p = 98 ∨ t p = 97)) (hd : p + 1 < n ∧ 48 ≤ t (p + 1) ∧ t (p + 1) ≤ 53) (h3 : p + 2 < n ∧ t (p + 2) = 58) (h4 : (rdN t n 999 60 (p + 3) 0).2 ≠ 0 ∧ (rdN t n 999 60 (p + 3) 0).1 < n ∧ t (rdN t n 999 60 (p + 3) 0).1 = 64) : rdL t n p = (decide ((rdN t n 500 60 ((rdN t n 999 60 (p + 3) 0).1 + 1) 0).2 ≠ 0), (rdN t n 500 60 ((rdN t n 999 60 (p + 3) 0).1 + 1) 0).1, nB (decide (t p = 98)), t (p + 1) - 48, (rdN t n 999 60 (p + 3) 0).2, (rdN t n 500 60 ((rdN t n 999 60 (p + 3) 0).1 + 1) 0).2) := by
  unfold rdL
  rw [if_pos h, rdD_5 hd]
  show (if 5 < t (p + 1) - 48 then _ else _) = _
  rw [if_neg (by omega), if_pos h3, if_pos h4]
theorem rdL_len6 (hp : p ≤ n) (h : (rdL t n p).1 = true) : p + 6 ≤ (rdL t n p).2.1 := by
  by_cases h1 : p < n ∧ (t p = 98 ∨ t p = 97)
  · by_cases hd : p + 1 < n ∧ 48 ≤ t (p + 1) ∧ t (p + 1) ≤ 53
    · by_cases h3 : p + 2 < n ∧ t (p + 2) = 58
      · by_cases h4 : (rdN t n 999 60 (p + 3) 0).2 ≠ 0 ∧ (rdN t n 999 60 (p + 3) 0).1 < n ∧ t (rdN t n 999 60 (p + 3) 0).1 = 64
        · rw [rdL_5 h1 hd h3 h4] at h ⊢
          have a1 := rdN_pos (t := t) (n := n) (most := 999) 60 (p + 3) (by omega) h4.1
          have a2 := rdN_pos (t := t) (n := n) (most := 500) 60 ((rdN t n 999 60 (p + 3) 0).1 + 1) (by omega) (of_decide_eq_true h)
          show p + 6 ≤ (rdN t n 500 60 ((rdN t n 999 60 (p + 3) 0).1 + 1) 0).1
          omega
        · rw [rdL_4 h1 hd h3 h4] at h
          cases h
      · rw [rdL_3 h1 hd h3] at h
        cases h
    · rw [rdL_2 h1 hd] at h
      cases h
  · rw [rdL_1 h1] at h
    cases h
end Rdl
section Mrd
variable {g0 g : mG} {Q : mQ} {A0 : Nat → Nat → Nat} {c : Nat → Nat} {p j n : Nat} {t : Nat → Nat}
theorem c_X7_readsOrder (M : MX g0 g A0 c p j) (T : TX g0 A0 t n) (hp : p ≤ n) (hj : j ≤ 9)
    (q1 : (rdL t n p).1 = true → ∀ g' c', MX g0 g' A0 c' (rdL t n p).2.1 (j + 1) → (∀ i, i < 4 * j → c' i = c i) → c' (4 * j) = (rdL t n p).2.2.1 → c' (4 * j + 1) = (rdL t n p).2.2.2.1 → c' (4 * j + 2) = (rdL t n p).2.2.2.2.1 → c' (4 * j + 3) = (rdL t n p).2.2.2.2.2 → Q (some (.int (nI 1))) g')
    (q0 : (rdL t n p).1 = false → ∀ g' c' j', MX g0 g' A0 c' (rdL t n p).2.1 j' → Q (some (.int (nI 0))) g') : w_X7_readsOrder [.ref 40] g Q := by
  refine wm_at rfl ⟨trivial, trivial⟩ (show WP m_X7_readsOrder Q 0 [.ref 40, .retAddr 0] [] g from ?_)
  have hn := T.2.1
  have m1le : (-1 : Int32) ≤ 0 := by decide
  -- the end
  have F : ∀ {g : mG} {c : Nat → Nat} {p : Nat} (v : Nat), MX g0 g A0 c p j → (∀ g' c', (v = 4294967295 ∨ v < 2 ^ 31) → MX g0 g' A0 c' p (j + 1) → (∀ i, i < 4 * j + 3 → c' i = c i) → c' (4 * j + 3) = v → (nI v ≤ 0 → Q (some (.int (nI 0))) g') ∧ (¬ nI v ≤ 0 → Q (some (.int (nI 1))) g')) → (v = 4294967295 ∨ v < 2 ^ 31) → WP m_X7_readsOrder Q 154 [.ref 40, .int (nI (4 * j))] [.int (nI v), .int (nI (4 * j + 3)), .ref 46] g := fun {g c p} v M h hv => by
    obtain ⟨k1, k2, k3⟩ := M.cr
    simp (disch := omega) only [e_X7_readsOrder_154, tand, true_and, and_true, nl1_int, nl1_ref, nl1_null, nl1_ra, cat1_int, cat1_ref, cat1_null, stbs_nil, stbs_cons, stb_int, stb_long, stb_ref, stb_null, stb_ra, alv_nil, alv_cons, alv1_int, alv1_ref, alv1_null, alv1_ra, List.length_nil, List.length_cons, Nat.reduceAdd, Nat.reduceLeDiff, Nat.zero_le, Option.toList_some, Option.toList_none, List.cons_append, List.nil_append, or_true, true_or, or_false, false_or, Nat.reduceEqDiff, not_true_eq_false, not_false_eq_true, false_and, and_false, false_implies, true_implies, implies_true, ne_eq, and_self, ok1, k1, k2, vpT, nI_clamp]
    refine M.wp fun g1 M1 => ?_
    have M2 := M1.te (j + 1)
    have e3 : gI (pI g1 40 9 (nI (j + 1))) 46 (4 * j + 3) = nI v := by
      obtain ⟨_, _, k3⟩ := M2.cr
      rw [k3 _ (by omega), u1_eq]
    obtain ⟨k1, k2, _⟩ := M2.cr
    simp only [e_X7_readsOrder_155, e_X7_readsOrder_156, e_X7_readsOrder_157, e_X7_readsOrder_160, e_X7_readsOrder_161, e_X7_readsOrder_162, tand, true_and, and_true, nl1_int, nl1_ref, nl1_null, nl1_ra, cat1_int, cat1_ref, cat1_null, stbs_nil, stbs_cons, stb_int, stb_long, stb_ref, stb_null, stb_ra, alv_nil, alv_cons, alv1_int, alv1_ref, alv1_null, alv1_ra, List.length_nil, List.length_cons, Nat.reduceAdd, Nat.reduceLeDiff, Nat.zero_le, Option.toList_some, Option.toList_none, List.cons_append, List.nil_append, or_true, true_or, or_false, false_or, Nat.reduceEqDiff, not_true_eq_false, not_false_eq_true, false_and, and_false, false_implies, true_implies, implies_true, ne_eq, and_self, ok1, M1.k40, M1.2.2.2.1, nI_add]
    simp (disch := omega) only [e_X7_readsOrder_165, e_X7_readsOrder_166, e_X7_readsOrder_169, e_X7_readsOrder_170, e_X7_readsOrder_171, e_X7_readsOrder_172, e_X7_readsOrder_173, e_X7_readsOrder_176, e_X7_readsOrder_177, e_X7_readsOrder_180, e_X7_readsOrder_181, tand, true_and, and_true, nl1_int, nl1_ref, nl1_null, nl1_ra, cat1_int, cat1_ref, cat1_null, stbs_nil, stbs_cons, stb_int, stb_long, stb_ref, stb_null, stb_ra, alv_nil, alv_cons, alv1_int, alv1_ref, alv1_null, alv1_ra, List.length_nil, List.length_cons, Nat.reduceAdd, Nat.reduceLeDiff, Nat.zero_le, Option.toList_some, Option.toList_none, List.cons_append, List.nil_append, or_true, true_or, or_false, false_or, Nat.reduceEqDiff, not_true_eq_false, not_false_eq_true, false_and, and_false, false_implies, true_implies, implies_true, ne_eq, and_self, ok1, M2.k40, M2.r5, z46, pk_mul, nI_add, k1, k2, isIA, vpT, nI_clamp, e3, bE0, bE1]
    exact h _ _ hv M2 (fun i hi => u1_ne (by omega)) u1_eq
  have hc0 : p ≤ n := hp
  simp only [e_X7_readsOrder_0, e_X7_readsOrder_1, e_X7_readsOrder_2, e_X7_readsOrder_5, e_X7_readsOrder_6, tand, true_and, and_true, nl1_int, nl1_ref, nl1_null, nl1_ra, cat1_int, cat1_ref, cat1_null, stbs_nil, stbs_cons, stb_int, stb_long, stb_ref, stb_null, stb_ra, alv_nil, alv_cons, alv1_int, alv1_ref, alv1_null, alv1_ra, List.length_nil, List.length_cons, Nat.reduceAdd, Nat.reduceLeDiff, Nat.zero_le, Option.toList_some, Option.toList_none, List.cons_append, List.nil_append, or_true, true_or, or_false, false_or, Nat.reduceEqDiff, not_true_eq_false, not_false_eq_true, false_and, and_false, false_implies, true_implies, implies_true, ne_eq, and_self, ok1, M.k40, M.2.2.2.1, pk_mul]
  have kc := M.cr
  simp only [e_X7_readsOrder_7, e_X7_readsOrder_8, e_X7_readsOrder_11, e_X7_readsOrder_12, e_X7_readsOrder_13, tand, true_and, and_true, nl1_int, nl1_ref, nl1_null, nl1_ra, cat1_int, cat1_ref, cat1_null, stbs_nil, stbs_cons, stb_int, stb_long, stb_ref, stb_null, stb_ra, alv_nil, alv_cons, alv1_int, alv1_ref, alv1_null, alv1_ra, List.length_nil, List.length_cons, Nat.reduceAdd, Nat.reduceLeDiff, Nat.zero_le, Option.toList_some, Option.toList_none, List.cons_append, List.nil_append, or_true, true_or, or_false, false_or, Nat.reduceEqDiff, not_true_eq_false, not_false_eq_true, false_and, and_false, false_implies, true_implies, implies_true, ne_eq, and_self, ok1, M.k40, M.r5, z46, kc.1]
  -- after the first cell
  have A : ∀ {g : mG}, MX g0 g A0 (u1 c (4 * j) (nB (decide (p < n ∧ t p = 98)))) p j → WP m_X7_readsOrder Q 27 [.ref 40, .int (nI (4 * j))] [] g := fun {g} M => by
    generalize hc1 : u1 c (4 * j) (nB (decide (p < n ∧ t p = 98))) = c1 at *
    have cL : ∀ i, i < 4 * j → c1 i = c i := fun i hi => by rw [← hc1, u1_ne (by omega)]
    have c0 : c1 (4 * j) = nB (decide (p < n ∧ t p = 98)) := by rw [← hc1, u1_eq]
    -- behind the sign of the kind
    have B : (p < n ∧ (t p = 98 ∨ t p = 97)) → ∀ {g : mG}, MX g0 g A0 c1 (p + 1) j → WP m_X7_readsOrder Q 47 [.ref 40, .int (nI (4 * j))] [] g := fun h1 {g} M => by
      have D : (p + 1 < n ∧ 48 ≤ t (p + 1) ∧ t (p + 1) ≤ 53) → WP m_X7_readsOrder Q 63 [.ref 40, .int (nI (4 * j))] [] g := fun hd => by
        have s48 : 48 ≤ t (p + 1) := hd.2.1
        obtain ⟨k1, k2, _⟩ := M.cr
        simp only [e_X7_readsOrder_63, e_X7_readsOrder_64, e_X7_readsOrder_67, e_X7_readsOrder_68, e_X7_readsOrder_69, e_X7_readsOrder_70, e_X7_readsOrder_71, tand, true_and, and_true, nl1_int, nl1_ref, nl1_null, nl1_ra, cat1_int, cat1_ref, cat1_null, stbs_nil, stbs_cons, stb_int, stb_long, stb_ref, stb_null, stb_ra, alv_nil, alv_cons, alv1_int, alv1_ref, alv1_null, alv1_ra, List.length_nil, List.length_cons, Nat.reduceAdd, Nat.reduceLeDiff, Nat.zero_le, Option.toList_some, Option.toList_none, List.cons_append, List.nil_append, or_true, true_or, or_false, false_or, Nat.reduceEqDiff, not_true_eq_false, not_false_eq_true, false_and, and_false, false_implies, true_implies, implies_true, ne_eq, and_self, ok1, M.k40, M.r5, z46, nI_add, k1]
        refine c_X7_sign M T (by omega) (fun _ => ?_) fun z => absurd hd.1 z
        simp (disch := omega) only [e_X7_readsOrder_74, e_X7_readsOrder_76, e_X7_readsOrder_77, tand, true_and, and_true, nl1_int, nl1_ref, nl1_null, nl1_ra, cat1_int, cat1_ref, cat1_null, stbs_nil, stbs_cons, stb_int, stb_long, stb_ref, stb_null, stb_ra, alv_nil, alv_cons, alv1_int, alv1_ref, alv1_null, alv1_ra, List.length_nil, List.length_cons, Nat.reduceAdd, Nat.reduceLeDiff, Nat.zero_le, Option.toList_some, Option.toList_none, List.cons_append, List.nil_append, or_true, true_or, or_false, false_or, Nat.reduceEqDiff, not_true_eq_false, not_false_eq_true, false_and, and_false, false_implies, true_implies, implies_true, ne_eq, and_self, ok1, pk_sub s48, k1, k2, vpT, nI_clamp]
        refine M.wp fun g1 M1 => ?_
        have M2 := M1.pl (p + 1 + 1)
        simp only [e_X7_readsOrder_78, e_X7_readsOrder_79, e_X7_readsOrder_80, e_X7_readsOrder_83, e_X7_readsOrder_84, e_X7_readsOrder_85, tand, true_and, and_true, nl1_int, nl1_ref, nl1_null, nl1_ra, cat1_int, cat1_ref, cat1_null, stbs_nil, stbs_cons, stb_int, stb_long, stb_ref, stb_null, stb_ra, alv_nil, alv_cons, alv1_int, alv1_ref, alv1_null, alv1_ra, List.length_nil, List.length_cons, Nat.reduceAdd, Nat.reduceLeDiff, Nat.zero_le, Option.toList_some, Option.toList_none, List.cons_append, List.nil_append, or_true, true_or, or_false, false_or, Nat.reduceEqDiff, not_true_eq_false, not_false_eq_true, false_and, and_false, false_implies, true_implies, implies_true, ne_eq, and_self, ok1, M1.k40, M1.2.2.1, nI_add]
        generalize pI g1 40 8 (nI (p + 1 + 1)) = g2 at *
        generalize hc2 : u1 c1 (4 * j + 1) (t (p + 1) - 48) = c2 at *
        have dL : ∀ i, i < 4 * j → c2 i = c i := fun i hi => by rw [← hc2, u1_ne (by omega)]; exact cL i hi
        have d0 : c2 (4 * j) = nB (decide (p < n ∧ t p = 98)) := by rw [← hc2, u1_ne (by omega)]; exact c0
        have d1 : c2 (4 * j + 1) = t (p + 1) - 48 := by rw [← hc2, u1_eq]
        -- behind the permits: v of them or none
        have E : ∀ {g : mG} {r : Nat} (v : Nat), (v = 4294967295 ∨ v < 2 ^ 31) → MX g0 g A0 c2 r j → (∀ g' c', MX g0 g' A0 c' r j → (∀ i, i < 4 * j + 2 → c' i = c2 i) → c' (4 * j + 2) = v → WP m_X7_readsOrder Q 116 [.ref 40, .int (nI (4 * j))] [] g') → WP m_X7_readsOrder Q 115 [.ref 40, .int (nI (4 * j))] [.int (nI v), .int (nI (4 * j + 2)), .ref 46] g := fun {g r} v hv M h => by
          obtain ⟨k1, k2, _⟩ := M.cr
          simp (disch := omega) only [e_X7_readsOrder_115, tand, true_and, and_true, nl1_int, nl1_ref, nl1_null, nl1_ra, cat1_int, cat1_ref, cat1_null, stbs_nil, stbs_cons, stb_int, stb_long, stb_ref, stb_null, stb_ra, alv_nil, alv_cons, alv1_int, alv1_ref, alv1_null, alv1_ra, List.length_nil, List.length_cons, Nat.reduceAdd, Nat.reduceLeDiff, Nat.zero_le, Option.toList_some, Option.toList_none, List.cons_append, List.nil_append, or_true, true_or, or_false, false_or, Nat.reduceEqDiff, not_true_eq_false, not_false_eq_true, false_and, and_false, false_implies, true_implies, implies_true, ne_eq, and_self, ok1, k1, k2, vpT, nI_clamp]
          exact h _ _ (M.set _ _) (fun i hi => u1_ne (by omega)) u1_eq
        -- none of them: the order is faulty
        have bad : ∀ {g : mG} {c' : Nat → Nat} {r : Nat}, MX g0 g A0 c' r j → c' (4 * j + 2) = 4294967295 → rdL t n p = (false, r, 0, 0, 0, 0) → WP m_X7_readsOrder Q 116 [.ref 40, .int (nI (4 * j))] [] g := fun {g c' r} M hv e => by
          rw [e] at q0
          obtain ⟨k1, k2, k3⟩ := M.cr
          have e2 : gI g 46 (4 * j + 2) = -1 := by rw [k3 _ (by omega), hv]; exact nIm1.symm
          simp (disch := omega) only [e_X7_readsOrder_116, e_X7_readsOrder_117, e_X7_readsOrder_120, e_X7_readsOrder_121, e_X7_readsOrder_122, e_X7_readsOrder_123, e_X7_readsOrder_124, e_X7_readsOrder_127, e_X7_readsOrder_128, e_X7_readsOrder_129, e_X7_readsOrder_130, e_X7_readsOrder_131, tand, true_and, and_true, nl1_int, nl1_ref, nl1_null, nl1_ra, cat1_int, cat1_ref, cat1_null, stbs_nil, stbs_cons, stb_int, stb_long, stb_ref, stb_null, stb_ra, alv_nil, alv_cons, alv1_int, alv1_ref, alv1_null, alv1_ra, List.length_nil, List.length_cons, Nat.reduceAdd, Nat.reduceLeDiff, Nat.zero_le, Option.toList_some, Option.toList_none, List.cons_append, List.nil_append, or_true, true_or, or_false, false_or, Nat.reduceEqDiff, not_true_eq_false, not_false_eq_true, false_and, and_false, false_implies, true_implies, implies_true, ne_eq, and_self, ok1, M.k40, M.r5, z46, nI_add, k1, k2, isIA, vpT, nI_clamp, e2, m1le]
          simp only [e_X7_readsOrder_153, tand, true_and, and_true, nl1_int, nl1_ref, nl1_null, nl1_ra, cat1_int, cat1_ref, cat1_null, stbs_nil, stbs_cons, stb_int, stb_long, stb_ref, stb_null, stb_ra, alv_nil, alv_cons, alv1_int, alv1_ref, alv1_null, alv1_ra, List.length_nil, List.length_cons, Nat.reduceAdd, Nat.reduceLeDiff, Nat.zero_le, Option.toList_some, Option.toList_none, List.cons_append, List.nil_append, or_true, true_or, or_false, false_or, Nat.reduceEqDiff, not_true_eq_false, not_false_eq_true, false_and, and_false, false_implies, true_implies, implies_true, ne_eq, and_self, ok1]
          rw [nIm1]
          refine F 4294967295 M (fun g' c'' _ M' _ _ => ⟨fun _ => q0 rfl g' c'' _ M', fun z => absurd (by decide) z⟩) (Or.inl rfl)
        simp only [e_X7_readsOrder_88, e_X7_readsOrder_89, e_X7_readsOrder_92, e_X7_readsOrder_93, e_X7_readsOrder_94, e_X7_readsOrder_95, e_X7_readsOrder_96, e_X7_readsOrder_98, tand, true_and, and_true, nl1_int, nl1_ref, nl1_null, nl1_ra, cat1_int, cat1_ref, cat1_null, stbs_nil, stbs_cons, stb_int, stb_long, stb_ref, stb_null, stb_ra, alv_nil, alv_cons, alv1_int, alv1_ref, alv1_null, alv1_ra, List.length_nil, List.length_cons, Nat.reduceAdd, Nat.reduceLeDiff, Nat.zero_le, Option.toList_some, Option.toList_none, List.cons_append, List.nil_append, or_true, true_or, or_false, false_or, Nat.reduceEqDiff, not_true_eq_false, not_false_eq_true, false_and, and_false, false_implies, true_implies, implies_true, ne_eq, and_self, ok1, M2.k40, M2.r5, z46, nI_add, M2.cr.1]
        refine c_X7_takes M2 T (by omega) (by omega) (fun h2 h3 g3 M3 => ?_) fun h3 => ?_
        · have h3' : p + 2 < n ∧ t (p + 2) = 58 := ⟨h2, h3⟩
          simp only [e_X7_readsOrder_101, e_X7_readsOrder_104, e_X7_readsOrder_105, e_X7_readsOrder_108, tand, true_and, and_true, nl1_int, nl1_ref, nl1_null, nl1_ra, cat1_int, cat1_ref, cat1_null, stbs_nil, stbs_cons, stb_int, stb_long, stb_ref, stb_null, stb_ra, alv_nil, alv_cons, alv1_int, alv1_ref, alv1_null, alv1_ra, List.length_nil, List.length_cons, Nat.reduceAdd, Nat.reduceLeDiff, Nat.zero_le, Option.toList_some, Option.toList_none, List.cons_append, List.nil_append, or_true, true_or, or_false, false_or, Nat.reduceEqDiff, not_true_eq_false, not_false_eq_true, false_and, and_false, false_implies, true_implies, implies_true, ne_eq, and_self, ok1, M3.k40, n1z, M3.cr.1]
          refine c_X7_number (most := 999) M3 T (by omega) (by omega) (by omega) (fun hv g4 M4 => ?_) fun hv hr => ?_
          · have r999 := rdN_le (t := t) (n := n) (most := 999) 60 (p + 3) 0 (by omega) (by omega)
            have M4' : MX g0 g4 A0 c2 (rdN t n 999 60 (p + 3) 0).1 j := M4
            have hv' : (rdN t n 999 60 (p + 3) 0).2 ≠ 0 := hv
            have e4 : ∀ (P : Nat → Prop), P (rdN t n 999 60 (p + 3) 0).2 → P (rdN t n 999 60 (p + 1 + 1 + 1) 0).2 := fun P h => h
            simp only [e_X7_readsOrder_111, tand, true_and, and_true, nl1_int, nl1_ref, nl1_null, nl1_ra, cat1_int, cat1_ref, cat1_null, stbs_nil, stbs_cons, stb_int, stb_long, stb_ref, stb_null, stb_ra, alv_nil, alv_cons, alv1_int, alv1_ref, alv1_null, alv1_ra, List.length_nil, List.length_cons, Nat.reduceAdd, Nat.reduceLeDiff, Nat.zero_le, Option.toList_some, Option.toList_none, List.cons_append, List.nil_append, or_true, true_or, or_false, false_or, Nat.reduceEqDiff, not_true_eq_false, not_false_eq_true, false_and, and_false, false_implies, true_implies, implies_true, ne_eq, and_self, ok1]
            refine e4 (fun z => WP m_X7_readsOrder Q 115 [.ref 40, .int (nI (4 * j))] [.int (nI z), .int (nI (4 * j + 2)), .ref 46] g4) ?_
            refine E _ (Or.inr (by omega)) M4' fun g5 c5 M5 hL5 hv5 => ?_
            obtain ⟨k1, k2, k3⟩ := M5.cr
            have e2 : gI g5 46 (4 * j + 2) = nI (rdN t n 999 60 (p + 3) 0).2 := by rw [k3 _ (by omega), hv5]
            simp (disch := omega) only [e_X7_readsOrder_116, e_X7_readsOrder_117, e_X7_readsOrder_120, e_X7_readsOrder_121, e_X7_readsOrder_122, e_X7_readsOrder_123, e_X7_readsOrder_124, e_X7_readsOrder_127, e_X7_readsOrder_128, e_X7_readsOrder_129, e_X7_readsOrder_130, e_X7_readsOrder_131, e_X7_readsOrder_134, e_X7_readsOrder_135, e_X7_readsOrder_137, tand, true_and, and_true, nl1_int, nl1_ref, nl1_null, nl1_ra, cat1_int, cat1_ref, cat1_null, stbs_nil, stbs_cons, stb_int, stb_long, stb_ref, stb_null, stb_ra, alv_nil, alv_cons, alv1_int, alv1_ref, alv1_null, alv1_ra, List.length_nil, List.length_cons, Nat.reduceAdd, Nat.reduceLeDiff, Nat.zero_le, Option.toList_some, Option.toList_none, List.cons_append, List.nil_append, or_true, true_or, or_false, false_or, Nat.reduceEqDiff, not_true_eq_false, not_false_eq_true, false_and, and_false, false_implies, true_implies, implies_true, ne_eq, and_self, ok1, M5.k40, M5.r5, z46, nI_add, k1, k2, isIA, vpT, nI_clamp, e2, nI_le0, hv']
            refine c_X7_takes M5 T (by omega) (by omega) (fun h5 h6 g6 M6 => ?_) fun h5 => ?_
            · have h4 : (rdN t n 999 60 (p + 3) 0).2 ≠ 0 ∧ (rdN t n 999 60 (p + 3) 0).1 < n ∧ t (rdN t n 999 60 (p + 3) 0).1 = 64 := ⟨hv', h5, h6⟩
              have e5 := rdL_5 h1 hd h3' h4
              rw [e5] at q1 q0
              simp only [e_X7_readsOrder_140, e_X7_readsOrder_143, e_X7_readsOrder_144, e_X7_readsOrder_147, tand, true_and, and_true, nl1_int, nl1_ref, nl1_null, nl1_ra, cat1_int, cat1_ref, cat1_null, stbs_nil, stbs_cons, stb_int, stb_long, stb_ref, stb_null, stb_ra, alv_nil, alv_cons, alv1_int, alv1_ref, alv1_null, alv1_ra, List.length_nil, List.length_cons, Nat.reduceAdd, Nat.reduceLeDiff, Nat.zero_le, Option.toList_some, Option.toList_none, List.cons_append, List.nil_append, or_true, true_or, or_false, false_or, Nat.reduceEqDiff, not_true_eq_false, not_false_eq_true, false_and, and_false, false_implies, true_implies, implies_true, ne_eq, and_self, ok1, M6.k40, n1z, M6.cr.1]
              refine c_X7_number (most := 500) M6 T (by omega) (by omega) (by omega) (fun hw g7 M7 => ?_) fun hw hr => ?_
              · have r500 := rdN_le (t := t) (n := n) (most := 500) 60 ((rdN t n 999 60 (p + 3) 0).1 + 1) 0 (by omega) (by omega)
                simp only [e_X7_readsOrder_150, tand, true_and, and_true, nl1_int, nl1_ref, nl1_null, nl1_ra, cat1_int, cat1_ref, cat1_null, stbs_nil, stbs_cons, stb_int, stb_long, stb_ref, stb_null, stb_ra, alv_nil, alv_cons, alv1_int, alv1_ref, alv1_null, alv1_ra, List.length_nil, List.length_cons, Nat.reduceAdd, Nat.reduceLeDiff, Nat.zero_le, Option.toList_some, Option.toList_none, List.cons_append, List.nil_append, or_true, true_or, or_false, false_or, Nat.reduceEqDiff, not_true_eq_false, not_false_eq_true, false_and, and_false, false_implies, true_implies, implies_true, ne_eq, and_self, ok1]
                refine F _ M7 (fun g' c' _ M' hL' hv'' => ⟨fun z => ?_, fun _ => ?_⟩) (Or.inr (by omega))
                · rw [nI_le0 (by omega)] at z
                  exact absurd z hw
                · refine q1 (decide_eq_true hw) g' c' M' (fun i hi => ?_) ?_ ?_ ?_ hv''
                  · rw [hL' i (by omega), hL5 i (by omega)]; exact dL i hi
                  · rw [hL' _ (by omega), hL5 _ (by omega), d0]
                    show nB (decide (p < n ∧ t p = 98)) = nB (decide (t p = 98))
                    congr 1
                    exact decide_eq_decide.mpr ⟨fun z => z.2, fun z => ⟨h1.1, z⟩⟩
                  · rw [hL' _ (by omega), hL5 _ (by omega)]; exact d1
                  · rw [hL' _ (by omega)]; exact hv5
              · simp only [e_X7_readsOrder_150, tand, true_and, and_true, nl1_int, nl1_ref, nl1_null, nl1_ra, cat1_int, cat1_ref, cat1_null, stbs_nil, stbs_cons, stb_int, stb_long, stb_ref, stb_null, stb_ra, alv_nil, alv_cons, alv1_int, alv1_ref, alv1_null, alv1_ra, List.length_nil, List.length_cons, Nat.reduceAdd, Nat.reduceLeDiff, Nat.zero_le, Option.toList_some, Option.toList_none, List.cons_append, List.nil_append, or_true, true_or, or_false, false_or, Nat.reduceEqDiff, not_true_eq_false, not_false_eq_true, false_and, and_false, false_implies, true_implies, implies_true, ne_eq, and_self, ok1]
                rw [nIm1]
                refine F 4294967295 M6 (fun g' c' _ M' _ _ => ⟨fun _ => q0 (decide_eq_false fun z => z hw) g' c' _ (by rw [← hr] at M'; exact M'), fun z => absurd (by decide) z⟩) (Or.inl rfl)
            · have e5 := rdL_4 h1 hd h3' (fun z => h5 ⟨z.2.1, z.2.2⟩)
              rw [e5] at q0
              simp only [e_X7_readsOrder_140, e_X7_readsOrder_153, tand, true_and, and_true, nl1_int, nl1_ref, nl1_null, nl1_ra, cat1_int, cat1_ref, cat1_null, stbs_nil, stbs_cons, stb_int, stb_long, stb_ref, stb_null, stb_ra, alv_nil, alv_cons, alv1_int, alv1_ref, alv1_null, alv1_ra, List.length_nil, List.length_cons, Nat.reduceAdd, Nat.reduceLeDiff, Nat.zero_le, Option.toList_some, Option.toList_none, List.cons_append, List.nil_append, or_true, true_or, or_false, false_or, Nat.reduceEqDiff, not_true_eq_false, not_false_eq_true, false_and, and_false, false_implies, true_implies, implies_true, ne_eq, and_self, ok1, n0z]
              rw [nIm1]
              refine F 4294967295 M5 (fun g' c' _ M' _ _ => ⟨fun _ => q0 rfl g' c' _ M', fun z => absurd (by decide) z⟩) (Or.inl rfl)
          · simp only [e_X7_readsOrder_111, tand, true_and, and_true, nl1_int, nl1_ref, nl1_null, nl1_ra, cat1_int, cat1_ref, cat1_null, stbs_nil, stbs_cons, stb_int, stb_long, stb_ref, stb_null, stb_ra, alv_nil, alv_cons, alv1_int, alv1_ref, alv1_null, alv1_ra, List.length_nil, List.length_cons, Nat.reduceAdd, Nat.reduceLeDiff, Nat.zero_le, Option.toList_some, Option.toList_none, List.cons_append, List.nil_append, or_true, true_or, or_false, false_or, Nat.reduceEqDiff, not_true_eq_false, not_false_eq_true, false_and, and_false, false_implies, true_implies, implies_true, ne_eq, and_self, ok1]
            rw [nIm1]
            refine E 4294967295 (Or.inl rfl) M3 fun g5 c5 M5 _ hv5 => bad M5 hv5 ?_
            have e5 := rdL_4 h1 hd h3' (fun z => z.1 hv)
            rw [e5]
            have : (rdN t n 999 60 (p + 3) 0).1 = p + 3 := hr
            rw [this]
        · have e5 := rdL_3 h1 hd (show ¬ (p + 2 < n ∧ t (p + 2) = 58) from h3)
          simp only [e_X7_readsOrder_101, e_X7_readsOrder_114, tand, true_and, and_true, nl1_int, nl1_ref, nl1_null, nl1_ra, cat1_int, cat1_ref, cat1_null, stbs_nil, stbs_cons, stb_int, stb_long, stb_ref, stb_null, stb_ra, alv_nil, alv_cons, alv1_int, alv1_ref, alv1_null, alv1_ra, List.length_nil, List.length_cons, Nat.reduceAdd, Nat.reduceLeDiff, Nat.zero_le, Option.toList_some, Option.toList_none, List.cons_append, List.nil_append, or_true, true_or, or_false, false_or, Nat.reduceEqDiff, not_true_eq_false, not_false_eq_true, false_and, and_false, false_implies, true_implies, implies_true, ne_eq, and_self, ok1, n0z]
          rw [nIm1]
          exact E 4294967295 (Or.inl rfl) M2 fun g5 c5 M5 _ hv5 => bad M5 hv5 e5
      have no : ¬ (p + 1 < n ∧ 48 ≤ t (p + 1) ∧ t (p + 1) ≤ 53) → WP m_X7_readsOrder Q 58 [.ref 40, .int (nI (4 * j))] [.int (nI 0)] g := fun hd => by
        have e5 := rdL_2 h1 hd
        rw [e5] at q0
        simp only [e_X7_readsOrder_58, e_X7_readsOrder_61, e_X7_readsOrder_62, tand, true_and, and_true, nl1_int, nl1_ref, nl1_null, nl1_ra, cat1_int, cat1_ref, cat1_null, stbs_nil, stbs_cons, stb_int, stb_long, stb_ref, stb_null, stb_ra, alv_nil, alv_cons, alv1_int, alv1_ref, alv1_null, alv1_ra, List.length_nil, List.length_cons, Nat.reduceAdd, Nat.reduceLeDiff, Nat.zero_le, Option.toList_some, Option.toList_none, List.cons_append, List.nil_append, or_true, true_or, or_false, false_or, Nat.reduceEqDiff, not_true_eq_false, not_false_eq_true, false_and, and_false, false_implies, true_implies, implies_true, ne_eq, and_self, ok1, n0z, bE0]
        exact q0 rfl g c1 j M
      simp only [e_X7_readsOrder_47, e_X7_readsOrder_48, tand, true_and, and_true, nl1_int, nl1_ref, nl1_null, nl1_ra, cat1_int, cat1_ref, cat1_null, stbs_nil, stbs_cons, stb_int, stb_long, stb_ref, stb_null, stb_ra, alv_nil, alv_cons, alv1_int, alv1_ref, alv1_null, alv1_ra, List.length_nil, List.length_cons, Nat.reduceAdd, Nat.reduceLeDiff, Nat.zero_le, Option.toList_some, Option.toList_none, List.cons_append, List.nil_append, or_true, true_or, or_false, false_or, Nat.reduceEqDiff, not_true_eq_false, not_false_eq_true, false_and, and_false, false_implies, true_implies, implies_true, ne_eq, and_self, ok1, M.k40]
      refine c_X7_sign M T (by omega) (fun h => ?_) fun h => ?_
      · have hb := (T.2.2 _ h).2
        simp only [e_X7_readsOrder_51, e_X7_readsOrder_53, e_X7_readsOrder_55, tand, true_and, and_true, nl1_int, nl1_ref, nl1_null, nl1_ra, cat1_int, cat1_ref, cat1_null, stbs_nil, stbs_cons, stb_int, stb_long, stb_ref, stb_null, stb_ra, alv_nil, alv_cons, alv1_int, alv1_ref, alv1_null, alv1_ra, List.length_nil, List.length_cons, Nat.reduceAdd, Nat.reduceLeDiff, Nat.zero_le, Option.toList_some, Option.toList_none, List.cons_append, List.nil_append, or_true, true_or, or_false, false_or, Nat.reduceEqDiff, not_true_eq_false, not_false_eq_true, false_and, and_false, false_implies, true_implies, implies_true, ne_eq, and_self, ok1, M.k40]
        by_cases hd : 48 ≤ t (p + 1) ∧ t (p + 1) ≤ 53
        · refine c_X7_inT hd (by omega) ?_
          simp only [e_X7_readsOrder_58, tand, true_and, and_true, nl1_int, nl1_ref, nl1_null, nl1_ra, cat1_int, cat1_ref, cat1_null, stbs_nil, stbs_cons, stb_int, stb_long, stb_ref, stb_null, stb_ra, alv_nil, alv_cons, alv1_int, alv1_ref, alv1_null, alv1_ra, List.length_nil, List.length_cons, Nat.reduceAdd, Nat.reduceLeDiff, Nat.zero_le, Option.toList_some, Option.toList_none, List.cons_append, List.nil_append, or_true, true_or, or_false, false_or, Nat.reduceEqDiff, not_true_eq_false, not_false_eq_true, false_and, and_false, false_implies, true_implies, implies_true, ne_eq, and_self, ok1, n1z]
          exact D ⟨h, hd⟩
        · refine c_X7_inF (by omega) (by omega) (fun ⟨m, em, m1, m2⟩ => ?_) ?_
          · rw [nI_eqE (by omega) (by omega)] at em
            omega
          · exact no fun z => hd z.2
      · simp only [e_X7_readsOrder_51, e_X7_readsOrder_53, e_X7_readsOrder_55, tand, true_and, and_true, nl1_int, nl1_ref, nl1_null, nl1_ra, cat1_int, cat1_ref, cat1_null, stbs_nil, stbs_cons, stb_int, stb_long, stb_ref, stb_null, stb_ra, alv_nil, alv_cons, alv1_int, alv1_ref, alv1_null, alv1_ra, List.length_nil, List.length_cons, Nat.reduceAdd, Nat.reduceLeDiff, Nat.zero_le, Option.toList_some, Option.toList_none, List.cons_append, List.nil_append, or_true, true_or, or_false, false_or, Nat.reduceEqDiff, not_true_eq_false, not_false_eq_true, false_and, and_false, false_implies, true_implies, implies_true, ne_eq, and_self, ok1, M.k40]
        refine c_X7_inF (by omega) (by omega) (fun ⟨m, em, m1, m2⟩ => ?_) ?_
        · have := congrArg Int32.toInt em
          rw [nI_toInt (by omega)] at this
          have e3 : (-1 : Int32).toInt = -1 := by decide
          omega
        · exact no fun z => h z.1
    simp only [e_X7_readsOrder_27, e_X7_readsOrder_28, e_X7_readsOrder_30, tand, true_and, and_true, nl1_int, nl1_ref, nl1_null, nl1_ra, cat1_int, cat1_ref, cat1_null, stbs_nil, stbs_cons, stb_int, stb_long, stb_ref, stb_null, stb_ra, alv_nil, alv_cons, alv1_int, alv1_ref, alv1_null, alv1_ra, List.length_nil, List.length_cons, Nat.reduceAdd, Nat.reduceLeDiff, Nat.zero_le, Option.toList_some, Option.toList_none, List.cons_append, List.nil_append, or_true, true_or, or_false, false_or, Nat.reduceEqDiff, not_true_eq_false, not_false_eq_true, false_and, and_false, false_implies, true_implies, implies_true, ne_eq, and_self, ok1, M.k40]
    refine c_X7_takes M T (by omega) (by omega) (fun h1 h2 g1 M1 => ?_) fun h1 => ?_
    · simp only [e_X7_readsOrder_33, tand, true_and, and_true, nl1_int, nl1_ref, nl1_null, nl1_ra, cat1_int, cat1_ref, cat1_null, stbs_nil, stbs_cons, stb_int, stb_long, stb_ref, stb_null, stb_ra, alv_nil, alv_cons, alv1_int, alv1_ref, alv1_null, alv1_ra, List.length_nil, List.length_cons, Nat.reduceAdd, Nat.reduceLeDiff, Nat.zero_le, Option.toList_some, Option.toList_none, List.cons_append, List.nil_append, or_true, true_or, or_false, false_or, Nat.reduceEqDiff, not_true_eq_false, not_false_eq_true, false_and, and_false, false_implies, true_implies, implies_true, ne_eq, and_self, ok1, n1z]
      exact B ⟨h1, Or.inl h2⟩ M1
    · simp only [e_X7_readsOrder_33, e_X7_readsOrder_36, e_X7_readsOrder_37, e_X7_readsOrder_39, tand, true_and, and_true, nl1_int, nl1_ref, nl1_null, nl1_ra, cat1_int, cat1_ref, cat1_null, stbs_nil, stbs_cons, stb_int, stb_long, stb_ref, stb_null, stb_ra, alv_nil, alv_cons, alv1_int, alv1_ref, alv1_null, alv1_ra, List.length_nil, List.length_cons, Nat.reduceAdd, Nat.reduceLeDiff, Nat.zero_le, Option.toList_some, Option.toList_none, List.cons_append, List.nil_append, or_true, true_or, or_false, false_or, Nat.reduceEqDiff, not_true_eq_false, not_false_eq_true, false_and, and_false, false_implies, true_implies, implies_true, ne_eq, and_self, ok1, n0z, M.k40]
      refine c_X7_takes M T (by omega) (by omega) (fun h2 h3 g1 M1 => ?_) fun h2 => ?_
      · simp only [e_X7_readsOrder_42, tand, true_and, and_true, nl1_int, nl1_ref, nl1_null, nl1_ra, cat1_int, cat1_ref, cat1_null, stbs_nil, stbs_cons, stb_int, stb_long, stb_ref, stb_null, stb_ra, alv_nil, alv_cons, alv1_int, alv1_ref, alv1_null, alv1_ra, List.length_nil, List.length_cons, Nat.reduceAdd, Nat.reduceLeDiff, Nat.zero_le, Option.toList_some, Option.toList_none, List.cons_append, List.nil_append, or_true, true_or, or_false, false_or, Nat.reduceEqDiff, not_true_eq_false, not_false_eq_true, false_and, and_false, false_implies, true_implies, implies_true, ne_eq, and_self, ok1, n1z]
        exact B ⟨h2, Or.inr h3⟩ M1
      · have e5 := rdL_1 (t := t) (n := n) (p := p) (fun z => by
          rcases z.2 with e | e
          · exact h1 ⟨z.1, e⟩
          · exact h2 ⟨z.1, e⟩)
        rw [e5] at q0
        simp only [e_X7_readsOrder_42, e_X7_readsOrder_45, e_X7_readsOrder_46, tand, true_and, and_true, nl1_int, nl1_ref, nl1_null, nl1_ra, cat1_int, cat1_ref, cat1_null, stbs_nil, stbs_cons, stb_int, stb_long, stb_ref, stb_null, stb_ra, alv_nil, alv_cons, alv1_int, alv1_ref, alv1_null, alv1_ra, List.length_nil, List.length_cons, Nat.reduceAdd, Nat.reduceLeDiff, Nat.zero_le, Option.toList_some, Option.toList_none, List.cons_append, List.nil_append, or_true, true_or, or_false, false_or, Nat.reduceEqDiff, not_true_eq_false, not_false_eq_true, false_and, and_false, false_implies, true_implies, implies_true, ne_eq, and_self, ok1, n0z, bE0]
        exact q0 rfl g c1 j M
  have W : ∀ (b : Bool), b = decide (p < n ∧ t p = 98) → WP m_X7_readsOrder Q 26 [.ref 40, .int (nI (4 * j))] [.int (nI (nB b)), .int (nI (4 * j)), .ref 46] g := fun b hb => by
    simp (disch := omega) only [e_X7_readsOrder_26, tand, true_and, and_true, nl1_int, nl1_ref, nl1_null, nl1_ra, cat1_int, cat1_ref, cat1_null, stbs_nil, stbs_cons, stb_int, stb_long, stb_ref, stb_null, stb_ra, alv_nil, alv_cons, alv1_int, alv1_ref, alv1_null, alv1_ra, List.length_nil, List.length_cons, Nat.reduceAdd, Nat.reduceLeDiff, Nat.zero_le, Option.toList_some, Option.toList_none, List.cons_append, List.nil_append, or_true, true_or, or_false, false_or, Nat.reduceEqDiff, not_true_eq_false, not_false_eq_true, false_and, and_false, false_implies, true_implies, implies_true, ne_eq, and_self, ok1, kc.1, kc.2.1, vpT, nI_clamp]
    rw [hb]
    exact M.wp fun g1 M1 => A M1
  refine c_X7_sign M T (by omega) (fun h => ?_) fun h => ?_
  · have hb := (T.2.2 _ h).2
    simp (disch := omega) only [e_X7_readsOrder_16, e_X7_readsOrder_18, e_X7_readsOrder_21, e_X7_readsOrder_22, e_X7_readsOrder_25, tand, true_and, and_true, nl1_int, nl1_ref, nl1_null, nl1_ra, cat1_int, cat1_ref, cat1_null, stbs_nil, stbs_cons, stb_int, stb_long, stb_ref, stb_null, stb_ra, alv_nil, alv_cons, alv1_int, alv1_ref, alv1_null, alv1_ra, List.length_nil, List.length_cons, Nat.reduceAdd, Nat.reduceLeDiff, Nat.zero_le, Option.toList_some, Option.toList_none, List.cons_append, List.nil_append, or_true, true_or, or_false, false_or, Nat.reduceEqDiff, not_true_eq_false, not_false_eq_true, false_and, and_false, false_implies, true_implies, implies_true, ne_eq, and_self, ok1, nI_eqE]
    refine ⟨fun h1 => W false (decide_eq_false fun z => h1 z.2).symm, fun h1 => W true (decide_eq_true ⟨h, Decidable.not_not.mp h1⟩).symm⟩
  · have hne : ((-1 : Int32) = nI 98) = False := by simp [show (-1 : Int32) ≠ nI 98 by decide]
    simp only [e_X7_readsOrder_16, e_X7_readsOrder_18, e_X7_readsOrder_25, tand, true_and, and_true, nl1_int, nl1_ref, nl1_null, nl1_ra, cat1_int, cat1_ref, cat1_null, stbs_nil, stbs_cons, stb_int, stb_long, stb_ref, stb_null, stb_ra, alv_nil, alv_cons, alv1_int, alv1_ref, alv1_null, alv1_ra, List.length_nil, List.length_cons, Nat.reduceAdd, Nat.reduceLeDiff, Nat.zero_le, Option.toList_some, Option.toList_none, List.cons_append, List.nil_append, or_true, true_or, or_false, false_or, Nat.reduceEqDiff, not_true_eq_false, not_false_eq_true, false_and, and_false, false_implies, true_implies, implies_true, ne_eq, and_self, ok1, hne]
    exact W false (decide_eq_false fun z => h z.1).symm
/-- the told lines from i on -/
def LnM (c : Nat → Nat) : Nat → List Ln → Prop
  | _, [] => True
  | i, x :: L => (c (4 * i) = x.1 ∧ c (4 * i + 1) = x.2.1 ∧ c (4 * i + 2) = x.2.2.1 ∧ c (4 * i + 3) = x.2.2.2) ∧ LnM c (i + 1) L
theorem reads_loop (T : TX g0 A0 t n) : ∀ (f : Nat) {g : mG} {c : Nat → Nat} {p j : Nat}, 7 * j ≤ p → j + f = 9 → p ≤ n → MX g0 g A0 c p j →
    ((rdA t n f p).1 = none → ∀ g' c' p', MX g0 g' A0 c' p' (j + (rdA t n f p).2.length) → (∀ i, i < 4 * j → c' i = c i) → LnM c' j (rdA t n f p).2 → Q (some (.int (nI 1))) g') →
    (∀ pl, (rdA t n f p).1 = some pl → ∀ g' c' j', MX g0 g' A0 c' pl j' → Q (some (.int (nI 0))) g') → WP m_X7_reads Q 10 [.ref 40] [] g := by
  intro f
  induction f with
  | zero =>
    intro g c p j h7 hj hp M _ _
    have := T.2.1
    omega
  | succ f ih =>
    intro g c p j h7 hj hp M q1 q0
    have hn := T.2.1
    have eA : rdA t n (f + 1) p = if (rdL t n p).1 = true then (if (rdL t n p).2.1 = n then (none, [(rdL t n p).2.2]) else
      if (rdL t n p).2.1 < n ∧ t (rdL t n p).2.1 = 59 then ((rdA t n f ((rdL t n p).2.1 + 1)).1, (rdL t n p).2.2 :: (rdA t n f ((rdL t n p).2.1 + 1)).2) else (some (rdL t n p).2.1, []))
    else (some (rdL t n p).2.1, []) := rfl
    rw [eA] at q1 q0
    have hle := rdL_le (t := t) hp
    simp only [e_X7_reads_10, e_X7_reads_11, tand, true_and, and_true, nl1_int, nl1_ref, nl1_null, nl1_ra, cat1_int, cat1_ref, cat1_null, stbs_nil, stbs_cons, stb_int, stb_long, stb_ref, stb_null, stb_ra, alv_nil, alv_cons, alv1_int, alv1_ref, alv1_null, alv1_ra, List.length_nil, List.length_cons, Nat.reduceAdd, Nat.reduceLeDiff, Nat.zero_le, Option.toList_some, Option.toList_none, List.cons_append, List.nil_append, or_true, true_or, or_false, false_or, Nat.reduceEqDiff, not_true_eq_false, not_false_eq_true, false_and, and_false, false_implies, true_implies, implies_true, ne_eq, and_self, ok1, M.k40]
    refine c_X7_readsOrder M T hp (by omega) (fun ht g1 c1 M1 hL c0 c1' c2 c3 => ?_) (fun hf g1 c1 j1 M1 => ?_)
    · rw [if_pos ht] at q1 q0
      have h6 := rdL_len6 hp ht
      have e7 : gI g1 40 7 = nI n := (M1.2.2.2.2 7 (by decide) (by decide)).trans T.1
      simp (disch := omega) only [e_X7_reads_14, e_X7_reads_17, e_X7_reads_18, e_X7_reads_21, e_X7_reads_22, e_X7_reads_25, tand, true_and, and_true, nl1_int, nl1_ref, nl1_null, nl1_ra, cat1_int, cat1_ref, cat1_null, stbs_nil, stbs_cons, stb_int, stb_long, stb_ref, stb_null, stb_ra, alv_nil, alv_cons, alv1_int, alv1_ref, alv1_null, alv1_ra, List.length_nil, List.length_cons, Nat.reduceAdd, Nat.reduceLeDiff, Nat.zero_le, Option.toList_some, Option.toList_none, List.cons_append, List.nil_append, or_true, true_or, or_false, false_or, Nat.reduceEqDiff, not_true_eq_false, not_false_eq_true, false_and, and_false, false_implies, true_implies, implies_true, ne_eq, and_self, ok1, n1z, M1.k40, M1.2.2.1, e7, nI_eqE]
      refine ⟨fun h1 => ?_, fun h1 => ?_⟩
      · rw [if_neg h1] at q1 q0
        simp only [e_X7_reads_30, e_X7_reads_31, e_X7_reads_33, tand, true_and, and_true, nl1_int, nl1_ref, nl1_null, nl1_ra, cat1_int, cat1_ref, cat1_null, stbs_nil, stbs_cons, stb_int, stb_long, stb_ref, stb_null, stb_ra, alv_nil, alv_cons, alv1_int, alv1_ref, alv1_null, alv1_ra, List.length_nil, List.length_cons, Nat.reduceAdd, Nat.reduceLeDiff, Nat.zero_le, Option.toList_some, Option.toList_none, List.cons_append, List.nil_append, or_true, true_or, or_false, false_or, Nat.reduceEqDiff, not_true_eq_false, not_false_eq_true, false_and, and_false, false_implies, true_implies, implies_true, ne_eq, and_self, ok1, M1.k40]
        refine c_X7_takes M1 T (by omega) (by omega) (fun h2 h3 g2 M2 => ?_) fun h2 => ?_
        · rw [if_pos ⟨h2, h3⟩] at q1 q0
          simp only [e_X7_reads_36, tand, true_and, and_true, nl1_int, nl1_ref, nl1_null, nl1_ra, cat1_int, cat1_ref, cat1_null, stbs_nil, stbs_cons, stb_int, stb_long, stb_ref, stb_null, stb_ra, alv_nil, alv_cons, alv1_int, alv1_ref, alv1_null, alv1_ra, List.length_nil, List.length_cons, Nat.reduceAdd, Nat.reduceLeDiff, Nat.zero_le, Option.toList_some, Option.toList_none, List.cons_append, List.nil_append, or_true, true_or, or_false, false_or, Nat.reduceEqDiff, not_true_eq_false, not_false_eq_true, false_and, and_false, false_implies, true_implies, implies_true, ne_eq, and_self, ok1, n1z]
          refine ih (by omega) (by omega) (by omega) M2 (fun hr g' c' p' M' hL' hl' => ?_) (fun pl hr g' c' j' M' => q0 pl hr g' c' j' M')
          refine q1 hr g' c' p' (by rw [List.length_cons]; rw [show j + ((rdA t n f ((rdL t n p).2.1 + 1)).2.length + 1) = j + 1 + (rdA t n f ((rdL t n p).2.1 + 1)).2.length by omega]; exact M') (fun i hi => (hL' i (by omega)).trans (hL i hi)) ⟨⟨?_, ?_, ?_, ?_⟩, hl'⟩
          · rw [hL' _ (by omega)]; exact c0
          · rw [hL' _ (by omega)]; exact c1'
          · rw [hL' _ (by omega)]; exact c2
          · rw [hL' _ (by omega)]; exact c3
        · rw [if_neg h2] at q1 q0
          simp only [e_X7_reads_36, e_X7_reads_39, e_X7_reads_40, tand, true_and, and_true, nl1_int, nl1_ref, nl1_null, nl1_ra, cat1_int, cat1_ref, cat1_null, stbs_nil, stbs_cons, stb_int, stb_long, stb_ref, stb_null, stb_ra, alv_nil, alv_cons, alv1_int, alv1_ref, alv1_null, alv1_ra, List.length_nil, List.length_cons, Nat.reduceAdd, Nat.reduceLeDiff, Nat.zero_le, Option.toList_some, Option.toList_none, List.cons_append, List.nil_append, or_true, true_or, or_false, false_or, Nat.reduceEqDiff, not_true_eq_false, not_false_eq_true, false_and, and_false, false_implies, true_implies, implies_true, ne_eq, and_self, ok1, n0z, bE0]
          exact q0 _ rfl g1 c1 _ M1
      · rw [if_pos (Decidable.not_not.mp h1)] at q1 q0
        simp only [e_X7_reads_28, e_X7_reads_29, tand, true_and, and_true, nl1_int, nl1_ref, nl1_null, nl1_ra, cat1_int, cat1_ref, cat1_null, stbs_nil, stbs_cons, stb_int, stb_long, stb_ref, stb_null, stb_ra, alv_nil, alv_cons, alv1_int, alv1_ref, alv1_null, alv1_ra, List.length_nil, List.length_cons, Nat.reduceAdd, Nat.reduceLeDiff, Nat.zero_le, Option.toList_some, Option.toList_none, List.cons_append, List.nil_append, or_true, true_or, or_false, false_or, Nat.reduceEqDiff, not_true_eq_false, not_false_eq_true, false_and, and_false, false_implies, true_implies, implies_true, ne_eq, and_self, ok1, bE1]
        exact q1 rfl g1 c1 _ M1 hL ⟨⟨c0, c1', c2, c3⟩, trivial⟩
    · rw [if_neg (by rw [hf]; decide)] at q1 q0
      simp only [e_X7_reads_14, e_X7_reads_41, e_X7_reads_42, tand, true_and, and_true, nl1_int, nl1_ref, nl1_null, nl1_ra, cat1_int, cat1_ref, cat1_null, stbs_nil, stbs_cons, stb_int, stb_long, stb_ref, stb_null, stb_ra, alv_nil, alv_cons, alv1_int, alv1_ref, alv1_null, alv1_ra, List.length_nil, List.length_cons, Nat.reduceAdd, Nat.reduceLeDiff, Nat.zero_le, Option.toList_some, Option.toList_none, List.cons_append, List.nil_append, or_true, true_or, or_false, false_or, Nat.reduceEqDiff, not_true_eq_false, not_false_eq_true, false_and, and_false, false_implies, true_implies, implies_true, ne_eq, and_self, ok1, n0z, bE0]
      exact q0 _ rfl g1 c1 j1 M1
theorem c_X7_reads {A : Nat → Nat → Nat} (D : MD g A) (T : TX g A t n)
    (q1 : (rdA t n 9 0).1 = none → ∀ g' c' p', MX g g' A c' p' (rdA t n 9 0).2.length → LnM c' 0 (rdA t n 9 0).2 → Q (some (.int (nI 1))) g')
    (q0 : ∀ pl, (rdA t n 9 0).1 = some pl → ∀ g' c' j', MX g g' A c' pl j' → Q (some (.int (nI 0))) g') : w_X7_reads [.ref 40] g Q := by
  refine wm_at rfl ⟨trivial, trivial⟩ (show WP m_X7_reads Q 0 [.ref 40] [] g from ?_)
  simp only [e_X7_reads_0, e_X7_reads_1, e_X7_reads_2, e_X7_reads_5, e_X7_reads_6, e_X7_reads_7, tand, true_and, and_true, nl1_int, nl1_ref, nl1_null, nl1_ra, cat1_int, cat1_ref, cat1_null, stbs_nil, stbs_cons, stb_int, stb_long, stb_ref, stb_null, stb_ra, alv_nil, alv_cons, alv1_int, alv1_ref, alv1_null, alv1_ra, List.length_nil, List.length_cons, Nat.reduceAdd, Nat.reduceLeDiff, Nat.zero_le, Option.toList_some, Option.toList_none, List.cons_append, List.nil_append, or_true, true_or, or_false, false_or, Nat.reduceEqDiff, not_true_eq_false, not_false_eq_true, false_and, and_false, false_implies, true_implies, implies_true, ne_eq, and_self, ok1, D.1.1, gK_pI]
  have M : MX g (pI (pI g 40 8 (nI 0)) 40 9 (nI 0)) A (A 46) 0 0 := by
    refine ⟨(FX.rf.pI (XD.of (by decide) (by decide))).pI (XD.of (by decide) (by decide)), ((D.ext fun b i _ _ _ => ?_).fld 8 _).fld 9 _, by rw [gI_diff (by decide), gI_same], gI_same, fun f h8 h9 => by rw [gI_diff h9, gI_diff h8]⟩
    by_cases e : b = 46
    · rw [e, ur_eq]
    · rw [ur_ne e]
  refine reads_loop T 9 (Nat.zero_le _) rfl (Nat.zero_le _) M (fun hr g' c' p' M' _ hl => q1 hr g' c' p' ?_ hl) q0
  rw [Nat.zero_add] at M'
  exact M'
end Mrd
