/-! ===== the model's object, abstract: the town, the history, the snapshot, the text ===== -/
def MB (g : mG) (w : Rw) (hist : Nat → Rw) (st kept : Nat) (snap : Rw) (t : Nat → Nat) (n : Nat) : Prop := ∃ A, MD g A ∧ HI g A hist st ∧ (gI g 40 7 = nI n ∧ gI g 40 10 = nI kept ∧ n ≤ 60 ∧ kept ≤ 1) ∧ RelN w (A 41) ∧ (kept = 1 → RelN snap (A 42)) ∧ ∀ i, i < n → A 45 i = t i
theorem HI.keep {g g' : mG} {A A' : Nat → Nat → Nat} {hist : Nat → Rw} {st : Nat} (h : HI g A hist st) (e6 : gI g' 40 6 = gI g 40 6) (e : ∀ i, i < 92576 → A' 44 i = A 44 i) : HI g' A' hist st := by
  obtain ⟨h1, h2, h3⟩ := h
  refine ⟨e6.trans h1, h2, fun j hj => (h3 j hj).same fun i hi => e _ (by omega)⟩
section Sta
variable {g : mG} {Q : mQ} {w snap : Rw} {hist : Nat → Rw} {st kept n : Nat} {t : Nat → Nat}
theorem MB.now (h : MB g w hist st kept snap t n) : ∃ A pos, MT g g A (A 41) ∧ RelG w (A 41) pos 17 ∧ RlN w (A 41) pos ∧ ∀ g' a' w', MT g g' A a' → RelN w' a' → MB g' w' hist st kept snap t n ∧ FX g g' := by
  obtain ⟨A, h1, h2, ⟨h3, h4, h5, h6⟩, ⟨pos, h7, h8⟩, h9, h10⟩ := h
  refine ⟨A, pos, MT.of h1, h7, h8, fun g' a' w' M R => ⟨⟨_, M.2.1, h2.keep (by rw [M.2.2]) (fun i _ => by rw [ur_ne (by decide)]), ⟨by rw [M.2.2]; exact h3, by rw [M.2.2]; exact h4, h5, h6⟩, by rw [ur_eq]; exact R, fun hk => by rw [ur_ne (by decide)]; exact h9 hk, fun i hi => by rw [ur_ne (by decide)]; exact h10 i hi⟩, M.1⟩⟩
theorem d_record (h : MB g w hist st kept snap t n) (q : ∀ g', MB g' w (hcn w hist) (min (st + 1) 4) kept snap t n → FX g g' → Q none g') : w_X7_record [.ref 40] g Q := by
  obtain ⟨A, h1, h2, ⟨h3, h4, h5, h6⟩, h7, h9, h10⟩ := h
  refine c_X7_record h1 h2 h7 fun g' A' F D e1 e2 e3 => q g' ⟨A', D, e3, ⟨by rw [e2 7 (by decide)]; exact h3, by rw [e2 10 (by decide)]; exact h4, h5, h6⟩, by rw [e1 41 (by decide)]; exact h7, fun hk => by rw [e1 42 (by decide)]; exact h9 hk, fun i hi => by rw [e1 45 (by decide)]; exact h10 i hi⟩ F
theorem MB.k40 (h : MB g w hist st kept snap t n) : gK g 40 = 8 := by
  obtain ⟨A, h1, _⟩ := h
  exact h1.1.1
/-- the row of the town that is is copied elsewhere, or another one becomes it -/
theorem keep_loop {g0 : mG} {A0 : Nat → Nat → Nat} (q1 : ∀ g a', MR 42 g0 g A0 a' → (∀ i, i < 23144 → a' i = A0 41 i) → WP m_X7_keep Q 27 [.ref 40, .int (nI 23144)] [] g) : ∀ (d k : Nat) {g : mG} {a' : Nat → Nat}, k + d = 23144 → MR 42 g0 g A0 a' → (∀ i, i < k → a' i = A0 41 i) → WP m_X7_keep Q 2 [.ref 40, .int (nI k)] [] g := by
  intro d
  induction d with
  | zero =>
    intro k g a' hk M hM
    have e : k = 23144 := by omega
    subst e
    simp (disch := omega) only [e_X7_keep_2, e_X7_keep_3, e_X7_keep_6, tand, true_and, and_true, nl1_int, nl1_ref, nl1_null, nl1_ra, cat1_int, cat1_ref, cat1_null, stbs_nil, stbs_cons, stb_int, stb_long, stb_ref, stb_null, stb_ra, alv_nil, alv_cons, alv1_int, alv1_ref, alv1_null, alv1_ra, List.length_nil, List.length_cons, Nat.reduceAdd, Nat.reduceLeDiff, Nat.zero_le, Option.toList_some, Option.toList_none, List.cons_append, List.nil_append, or_true, true_or, or_false, false_or, Nat.reduceEqDiff, not_true_eq_false, not_false_eq_true, false_and, and_false, false_implies, true_implies, implies_true, ne_eq, and_self, ok1, nI_leE, Nat.le_refl]
    exact q1 g a' M hM
  | succ d ih =>
    intro k g a' hk M hM
    have hlt : ¬ 23144 ≤ k := by omega
    have r1 := M.rf 1 (by decide)
    have r0 := M.rf 0 (by decide)
    have n42 := M.nn (by decide) (by decide)
    have oS := M.other 41 (by decide) (by decide) (by decide)
    simp only [mL, Nat.reduceEqDiff, if_false, Nat.reduceAdd] at n42 oS r1 r0
    have z42 : (42 : Nat) ≠ 0 := by decide
    simp (disch := omega) only [e_X7_keep_2, e_X7_keep_3, e_X7_keep_6, e_X7_keep_9, e_X7_keep_10, e_X7_keep_13, e_X7_keep_14, e_X7_keep_15, e_X7_keep_18, e_X7_keep_19, e_X7_keep_20, e_X7_keep_21, tand, true_and, and_true, nl1_int, nl1_ref, nl1_null, nl1_ra, cat1_int, cat1_ref, cat1_null, stbs_nil, stbs_cons, stb_int, stb_long, stb_ref, stb_null, stb_ra, alv_nil, alv_cons, alv1_int, alv1_ref, alv1_null, alv1_ra, List.length_nil, List.length_cons, Nat.reduceAdd, Nat.reduceLeDiff, Nat.zero_le, Option.toList_some, Option.toList_none, List.cons_append, List.nil_append, or_true, true_or, or_false, false_or, Nat.reduceEqDiff, not_true_eq_false, not_false_eq_true, false_and, and_false, false_implies, true_implies, implies_true, ne_eq, and_self, ok1, nI_leE, hlt, M.k40, r0, r1, M.kk (by decide) (by decide), n42, oS.1, oS.2.1, oS.2.2, isIA, vpT, nI_clamp, nI_add, z41, z42]
    simp only [e_X7_keep_24, tand, true_and, and_true, nl1_int, nl1_ref, nl1_null, nl1_ra, cat1_int, cat1_ref, cat1_null, stbs_nil, stbs_cons, stb_int, stb_long, stb_ref, stb_null, stb_ra, alv_nil, alv_cons, alv1_int, alv1_ref, alv1_null, alv1_ra, List.length_nil, List.length_cons, Nat.reduceAdd, Nat.reduceLeDiff, Nat.zero_le, Option.toList_some, Option.toList_none, List.cons_append, List.nil_append, or_true, true_or, or_false, false_or, Nat.reduceEqDiff, not_true_eq_false, not_false_eq_true, false_and, and_false, false_implies, true_implies, implies_true, ne_eq, and_self, ok1]
    refine ih (k + 1) (by omega) (M.set (by decide) k (A0 41 k)) fun i hi => ?_
    unfold u1
    by_cases h1 : i = k
    · rw [if_pos h1, h1]
    · rw [if_neg h1]; exact hM i (by omega)
theorem d_keep (h : MB g w hist st kept snap t n) (q : ∀ g', MB g' w hist st 1 w t n → FX g g' → Q (some (.int (nI (wS w 0)))) g') : w_X7_keep [.ref 40] g Q := by
  refine wm_at rfl ⟨trivial, trivial⟩ (show WP m_X7_keep Q 0 [.ref 40, .retAddr 0] [] g from ?_)
  obtain ⟨A, h1, h2, ⟨h3, h4, h5, h6⟩, h7, h9, h10⟩ := h
  simp only [e_X7_keep_0, e_X7_keep_1, tand, true_and, and_true, nl1_int, nl1_ref, nl1_null, nl1_ra, cat1_int, cat1_ref, cat1_null, stbs_nil, stbs_cons, stb_int, stb_long, stb_ref, stb_null, stb_ra, alv_nil, alv_cons, alv1_int, alv1_ref, alv1_null, alv1_ra, List.length_nil, List.length_cons, Nat.reduceAdd, Nat.reduceLeDiff, Nat.zero_le, Option.toList_some, Option.toList_none, List.cons_append, List.nil_append, or_true, true_or, or_false, false_or, Nat.reduceEqDiff, not_true_eq_false, not_false_eq_true, false_and, and_false, false_implies, true_implies, implies_true, ne_eq, and_self, ok1]
  refine keep_loop (fun g1 a1 M hM => ?_) 23144 0 (by omega) (MR.of h1) (fun i hi => absurd hi (Nat.not_lt_zero i))
  have r0 := M.rf 0 (by decide)
  have oS := M.other 41 (by decide) (by decide) (by decide)
  simp only [mL, Nat.reduceEqDiff, if_false, Nat.reduceAdd] at oS r0
  have e0 : A 41 0 = wS w 0 := by
    obtain ⟨pos, hR, _⟩ := h7
    exact hR.1.1 0 (by decide) (by decide)
  have ne : (41 : Nat) ≠ 40 := by decide
  simp (disch := omega) only [e_X7_keep_27, e_X7_keep_28, e_X7_keep_29, e_X7_keep_32, e_X7_keep_33, e_X7_keep_36, e_X7_keep_37, e_X7_keep_38, tand, true_and, and_true, nl1_int, nl1_ref, nl1_null, nl1_ra, cat1_int, cat1_ref, cat1_null, stbs_nil, stbs_cons, stb_int, stb_long, stb_ref, stb_null, stb_ra, alv_nil, alv_cons, alv1_int, alv1_ref, alv1_null, alv1_ra, List.length_nil, List.length_cons, Nat.reduceAdd, Nat.reduceLeDiff, Nat.zero_le, Option.toList_some, Option.toList_none, List.cons_append, List.nil_append, or_true, true_or, or_false, false_or, Nat.reduceEqDiff, not_true_eq_false, not_false_eq_true, false_and, and_false, false_implies, true_implies, implies_true, ne_eq, and_self, ok1, M.k40, bE1, gK_pI, gN_pI, gR_pI, gI_pI_ne ne, r0, oS.1, oS.2.1, isIA, vpT, nI_clamp, oS.2.2 0 (by decide), z41, e0]
  refine q _ ⟨_, M.2.1.fld 10 _, h2.keep (by rw [gI_diff (by decide), M.2.2]) (fun i _ => by rw [ur_ne (by decide)]), ⟨by rw [gI_diff (by decide), M.2.2]; exact h3, gI_same, h5, Nat.le_refl 1⟩, by rw [ur_ne (by decide)]; exact h7, fun _ => ?_, fun i hi => by rw [ur_ne (by decide)]; exact h10 i hi⟩ (M.1.pI (XD.of (by decide) (by decide)))
  rw [ur_eq]
  exact h7.same hM
theorem restore_loop {g0 : mG} {A0 : Nat → Nat → Nat} (q1 : ∀ g a', MR 41 g0 g A0 a' → (∀ i, i < 23144 → a' i = A0 42 i) → WP m_X7_restore Q 41 [.ref 40, .int (nI 23144)] [] g) : ∀ (d k : Nat) {g : mG} {a' : Nat → Nat}, k + d = 23144 → MR 41 g0 g A0 a' → (∀ i, i < k → a' i = A0 42 i) → WP m_X7_restore Q 16 [.ref 40, .int (nI k)] [] g := by
  intro d
  induction d with
  | zero =>
    intro k g a' hk M hM
    have e : k = 23144 := by omega
    subst e
    simp (disch := omega) only [e_X7_restore_16, e_X7_restore_17, e_X7_restore_20, tand, true_and, and_true, nl1_int, nl1_ref, nl1_null, nl1_ra, cat1_int, cat1_ref, cat1_null, stbs_nil, stbs_cons, stb_int, stb_long, stb_ref, stb_null, stb_ra, alv_nil, alv_cons, alv1_int, alv1_ref, alv1_null, alv1_ra, List.length_nil, List.length_cons, Nat.reduceAdd, Nat.reduceLeDiff, Nat.zero_le, Option.toList_some, Option.toList_none, List.cons_append, List.nil_append, or_true, true_or, or_false, false_or, Nat.reduceEqDiff, not_true_eq_false, not_false_eq_true, false_and, and_false, false_implies, true_implies, implies_true, ne_eq, and_self, ok1, nI_leE, Nat.le_refl]
    exact q1 g a' M hM
  | succ d ih =>
    intro k g a' hk M hM
    have hlt : ¬ 23144 ≤ k := by omega
    have r1 := M.rf 1 (by decide)
    have r0 := M.rf 0 (by decide)
    have n41 := M.nn (by decide) (by decide)
    have oS := M.other 42 (by decide) (by decide) (by decide)
    simp only [mL, Nat.reduceEqDiff, if_false, Nat.reduceAdd] at n41 oS r1 r0
    have z42 : (42 : Nat) ≠ 0 := by decide
    simp (disch := omega) only [e_X7_restore_16, e_X7_restore_17, e_X7_restore_20, e_X7_restore_23, e_X7_restore_24, e_X7_restore_27, e_X7_restore_28, e_X7_restore_29, e_X7_restore_32, e_X7_restore_33, e_X7_restore_34, e_X7_restore_35, tand, true_and, and_true, nl1_int, nl1_ref, nl1_null, nl1_ra, cat1_int, cat1_ref, cat1_null, stbs_nil, stbs_cons, stb_int, stb_long, stb_ref, stb_null, stb_ra, alv_nil, alv_cons, alv1_int, alv1_ref, alv1_null, alv1_ra, List.length_nil, List.length_cons, Nat.reduceAdd, Nat.reduceLeDiff, Nat.zero_le, Option.toList_some, Option.toList_none, List.cons_append, List.nil_append, or_true, true_or, or_false, false_or, Nat.reduceEqDiff, not_true_eq_false, not_false_eq_true, false_and, and_false, false_implies, true_implies, implies_true, ne_eq, and_self, ok1, nI_leE, hlt, M.k40, r0, r1, M.kk (by decide) (by decide), n41, oS.1, oS.2.1, oS.2.2, isIA, vpT, nI_clamp, nI_add, z41, z42]
    simp only [e_X7_restore_38, tand, true_and, and_true, nl1_int, nl1_ref, nl1_null, nl1_ra, cat1_int, cat1_ref, cat1_null, stbs_nil, stbs_cons, stb_int, stb_long, stb_ref, stb_null, stb_ra, alv_nil, alv_cons, alv1_int, alv1_ref, alv1_null, alv1_ra, List.length_nil, List.length_cons, Nat.reduceAdd, Nat.reduceLeDiff, Nat.zero_le, Option.toList_some, Option.toList_none, List.cons_append, List.nil_append, or_true, true_or, or_false, false_or, Nat.reduceEqDiff, not_true_eq_false, not_false_eq_true, false_and, and_false, false_implies, true_implies, implies_true, ne_eq, and_self, ok1]
    refine ih (k + 1) (by omega) (M.set (by decide) k (A0 42 k)) fun i hi => ?_
    unfold u1
    by_cases h1 : i = k
    · rw [if_pos h1, h1]
    · rw [if_neg h1]; exact hM i (by omega)
theorem d_restore (h : MB g w hist st kept snap t n) (q1 : kept = 0 → Q (some (.int (-5))) g) (q2 : ∀ g', kept = 1 → MB g' snap (hcn w hist) (min (st + 1) 4) kept snap t n → FX g g' → Q (some (.int (nI (wS snap 0)))) g') : w_X7_restore [.ref 40] g Q := by
  refine wm_at rfl ⟨trivial, trivial⟩ (show WP m_X7_restore Q 0 [.ref 40, .retAddr 0] [] g from ?_)
  obtain ⟨A, h1, h2, ⟨h3, h4, h5, h6⟩, h7, h9, h10⟩ := id h
  by_cases hk : kept = 0
  · subst hk
    simp only [e_X7_restore_0, e_X7_restore_1, e_X7_restore_4, e_X7_restore_7, e_X7_restore_9, tand, true_and, and_true, nl1_int, nl1_ref, nl1_null, nl1_ra, cat1_int, cat1_ref, cat1_null, stbs_nil, stbs_cons, stb_int, stb_long, stb_ref, stb_null, stb_ra, alv_nil, alv_cons, alv1_int, alv1_ref, alv1_null, alv1_ra, List.length_nil, List.length_cons, Nat.reduceAdd, Nat.reduceLeDiff, Nat.zero_le, Option.toList_some, Option.toList_none, List.cons_append, List.nil_append, or_true, true_or, or_false, false_or, Nat.reduceEqDiff, not_true_eq_false, not_false_eq_true, false_and, and_false, false_implies, true_implies, implies_true, ne_eq, and_self, ok1, h1.1.1, h4, n0z]
    exact q1 rfl
  · have hk1 : kept = 1 := by omega
    subst hk1
    simp only [e_X7_restore_0, e_X7_restore_1, e_X7_restore_4, e_X7_restore_10, e_X7_restore_11, tand, true_and, and_true, nl1_int, nl1_ref, nl1_null, nl1_ra, cat1_int, cat1_ref, cat1_null, stbs_nil, stbs_cons, stb_int, stb_long, stb_ref, stb_null, stb_ra, alv_nil, alv_cons, alv1_int, alv1_ref, alv1_null, alv1_ra, List.length_nil, List.length_cons, Nat.reduceAdd, Nat.reduceLeDiff, Nat.zero_le, Option.toList_some, Option.toList_none, List.cons_append, List.nil_append, or_true, true_or, or_false, false_or, Nat.reduceEqDiff, not_true_eq_false, not_false_eq_true, false_and, and_false, false_implies, true_implies, implies_true, ne_eq, and_self, ok1, h1.1.1, h4, n1z]
    refine d_record h fun g1 hB F1 => ?_
    obtain ⟨A1, h1, h2, ⟨h3, h4, h5, h6⟩, h7, h9, h10⟩ := hB
    simp only [e_X7_restore_14, e_X7_restore_15, tand, true_and, and_true, nl1_int, nl1_ref, nl1_null, nl1_ra, cat1_int, cat1_ref, cat1_null, stbs_nil, stbs_cons, stb_int, stb_long, stb_ref, stb_null, stb_ra, alv_nil, alv_cons, alv1_int, alv1_ref, alv1_null, alv1_ra, List.length_nil, List.length_cons, Nat.reduceAdd, Nat.reduceLeDiff, Nat.zero_le, Option.toList_some, Option.toList_none, List.cons_append, List.nil_append, or_true, true_or, or_false, false_or, Nat.reduceEqDiff, not_true_eq_false, not_false_eq_true, false_and, and_false, false_implies, true_implies, implies_true, ne_eq, and_self, ok1]
    refine restore_loop (fun g2 a2 M hM => ?_) 23144 0 (by omega) (MR.of h1) (fun i hi => absurd hi (Nat.not_lt_zero i))
    have r0 := M.rf 0 (by decide)
    have n41 := M.nn (by decide) (by decide)
    have rd := M.rd (by decide) (by decide)
    simp only [mL, Nat.reduceEqDiff, if_false, Nat.reduceAdd] at n41 rd r0
    have e0 : a2 0 = wS snap 0 := by
      obtain ⟨pos, hR, _⟩ := h9 rfl
      rw [hM 0 (by decide)]
      exact hR.1.1 0 (by decide) (by decide)
    simp (disch := omega) only [e_X7_restore_41, e_X7_restore_42, e_X7_restore_45, e_X7_restore_46, e_X7_restore_47, tand, true_and, and_true, nl1_int, nl1_ref, nl1_null, nl1_ra, cat1_int, cat1_ref, cat1_null, stbs_nil, stbs_cons, stb_int, stb_long, stb_ref, stb_null, stb_ra, alv_nil, alv_cons, alv1_int, alv1_ref, alv1_null, alv1_ra, List.length_nil, List.length_cons, Nat.reduceAdd, Nat.reduceLeDiff, Nat.zero_le, Option.toList_some, Option.toList_none, List.cons_append, List.nil_append, or_true, true_or, or_false, false_or, Nat.reduceEqDiff, not_true_eq_false, not_false_eq_true, false_and, and_false, false_implies, true_implies, implies_true, ne_eq, and_self, ok1, M.k40, r0, M.kk (by decide) (by decide), n41, isIA, vpT, nI_clamp, rd 0 (by decide), z41, e0]
    exact q2 g2 rfl ⟨_, M.2.1, h2.keep (by rw [M.2.2]) (fun i _ => by rw [ur_ne (by decide)]), ⟨by rw [M.2.2]; exact h3, by rw [M.2.2]; exact h4, h5, h6⟩, by rw [ur_eq]; exact (h9 rfl).same hM, fun hk => by rw [ur_ne (by decide)]; exact h9 hk, fun i hi => by rw [ur_ne (by decide)]; exact h10 i hi⟩ (F1.tr M.1)
theorem undo_loop {g0 : mG} {A0 : Nat → Nat → Nat} {s : Nat} (hs : s ≤ 3) (h6 : gI g0 40 6 = nI s) (q1 : ∀ g a', MR 41 g0 g A0 a' → (∀ i, i < 23144 → a' i = A0 44 (23144 * s + i)) → WP m_X7_undo Q 56 [.ref 40, .int (nI 23144)] [] g) : ∀ (d k : Nat) {g : mG} {a' : Nat → Nat}, k + d = 23144 → MR 41 g0 g A0 a' → (∀ i, i < k → a' i = A0 44 (23144 * s + i)) → WP m_X7_undo Q 22 [.ref 40, .int (nI k)] [] g := by
  intro d
  induction d with
  | zero =>
    intro k g a' hk M hM
    have e : k = 23144 := by omega
    subst e
    simp (disch := omega) only [e_X7_undo_22, e_X7_undo_23, e_X7_undo_26, tand, true_and, and_true, nl1_int, nl1_ref, nl1_null, nl1_ra, cat1_int, cat1_ref, cat1_null, stbs_nil, stbs_cons, stb_int, stb_long, stb_ref, stb_null, stb_ra, alv_nil, alv_cons, alv1_int, alv1_ref, alv1_null, alv1_ra, List.length_nil, List.length_cons, Nat.reduceAdd, Nat.reduceLeDiff, Nat.zero_le, Option.toList_some, Option.toList_none, List.cons_append, List.nil_append, or_true, true_or, or_false, false_or, Nat.reduceEqDiff, not_true_eq_false, not_false_eq_true, false_and, and_false, false_implies, true_implies, implies_true, ne_eq, and_self, ok1, nI_leE, Nat.le_refl]
    exact q1 g a' M hM
  | succ d ih =>
    intro k g a' hk M hM
    have hlt : ¬ 23144 ≤ k := by omega
    have r3 := M.rf 3 (by decide)
    have r0 := M.rf 0 (by decide)
    have n41 := M.nn (by decide) (by decide)
    have oS := M.other 44 (by decide) (by decide) (by decide)
    simp only [mL, Nat.reduceEqDiff, if_true, if_false, Nat.reduceAdd] at n41 oS r3 r0
    have g6 : gI g 40 6 = nI s := by rw [M.2.2]; exact h6
    simp (disch := omega) only [e_X7_undo_22, e_X7_undo_23, e_X7_undo_26, e_X7_undo_29, e_X7_undo_30, e_X7_undo_33, e_X7_undo_34, e_X7_undo_35, e_X7_undo_38, e_X7_undo_41, e_X7_undo_42, e_X7_undo_45, e_X7_undo_46, e_X7_undo_47, e_X7_undo_48, e_X7_undo_49, e_X7_undo_50, tand, true_and, and_true, nl1_int, nl1_ref, nl1_null, nl1_ra, cat1_int, cat1_ref, cat1_null, stbs_nil, stbs_cons, stb_int, stb_long, stb_ref, stb_null, stb_ra, alv_nil, alv_cons, alv1_int, alv1_ref, alv1_null, alv1_ra, List.length_nil, List.length_cons, Nat.reduceAdd, Nat.reduceLeDiff, Nat.zero_le, Option.toList_some, Option.toList_none, List.cons_append, List.nil_append, or_true, true_or, or_false, false_or, Nat.reduceEqDiff, not_true_eq_false, not_false_eq_true, false_and, and_false, false_implies, true_implies, implies_true, ne_eq, and_self, ok1, nI_leE, hlt, M.k40, r0, r3, M.kk (by decide) (by decide), n41, oS.1, oS.2.1, oS.2.2, g6, pk_mul, isIA, vpT, nI_clamp, nI_add, z41, z44]
    simp only [e_X7_undo_53, tand, true_and, and_true, nl1_int, nl1_ref, nl1_null, nl1_ra, cat1_int, cat1_ref, cat1_null, stbs_nil, stbs_cons, stb_int, stb_long, stb_ref, stb_null, stb_ra, alv_nil, alv_cons, alv1_int, alv1_ref, alv1_null, alv1_ra, List.length_nil, List.length_cons, Nat.reduceAdd, Nat.reduceLeDiff, Nat.zero_le, Option.toList_some, Option.toList_none, List.cons_append, List.nil_append, or_true, true_or, or_false, false_or, Nat.reduceEqDiff, not_true_eq_false, not_false_eq_true, false_and, and_false, false_implies, true_implies, implies_true, ne_eq, and_self, ok1]
    refine ih (k + 1) (by omega) (M.set (by decide) k (A0 44 (23144 * s + k))) fun i hi => ?_
    unfold u1
    by_cases h1 : i = k
    · rw [if_pos h1, h1]
    · rw [if_neg h1]; exact hM i (by omega)
theorem d_undo (h : MB g w hist st kept snap t n) (q1 : st = 0 → Q (some (.int (-5))) g) (q2 : ∀ g', st ≠ 0 → MB g' (hist 0) (fun j => hist (j + 1)) (st - 1) kept snap t n → FX g g' → Q (some (.int (nI (st - 1)))) g') : w_X7_undo [.ref 40] g Q := by
  refine wm_at rfl ⟨trivial, trivial⟩ (show WP m_X7_undo Q 0 [.ref 40, .retAddr 0] [] g from ?_)
  obtain ⟨A, h1, ⟨h6a, h6b, h6c⟩, ⟨h3, h4, h5, h6⟩, h7, h9, h10⟩ := id h
  by_cases hk : st = 0
  · subst hk
    simp only [e_X7_undo_0, e_X7_undo_1, e_X7_undo_4, e_X7_undo_7, e_X7_undo_9, tand, true_and, and_true, nl1_int, nl1_ref, nl1_null, nl1_ra, cat1_int, cat1_ref, cat1_null, stbs_nil, stbs_cons, stb_int, stb_long, stb_ref, stb_null, stb_ra, alv_nil, alv_cons, alv1_int, alv1_ref, alv1_null, alv1_ra, List.length_nil, List.length_cons, Nat.reduceAdd, Nat.reduceLeDiff, Nat.zero_le, Option.toList_some, Option.toList_none, List.cons_append, List.nil_append, or_true, true_or, or_false, false_or, Nat.reduceEqDiff, not_true_eq_false, not_false_eq_true, false_and, and_false, false_implies, true_implies, implies_true, ne_eq, and_self, ok1, h1.1.1, h6a, n0z]
    exact q1 rfl
  · have hz : (nI st = 0) = False := by
      rw [nI_eq0 (by omega)]
      exact propext ⟨fun z => hk z, fun z => z.elim⟩
    have hs1 : 1 ≤ st := by omega
    simp only [e_X7_undo_0, e_X7_undo_1, e_X7_undo_4, e_X7_undo_10, e_X7_undo_11, e_X7_undo_12, e_X7_undo_15, e_X7_undo_16, e_X7_undo_17, e_X7_undo_20, e_X7_undo_21, tand, true_and, and_true, nl1_int, nl1_ref, nl1_null, nl1_ra, cat1_int, cat1_ref, cat1_null, stbs_nil, stbs_cons, stb_int, stb_long, stb_ref, stb_null, stb_ra, alv_nil, alv_cons, alv1_int, alv1_ref, alv1_null, alv1_ra, List.length_nil, List.length_cons, Nat.reduceAdd, Nat.reduceLeDiff, Nat.zero_le, Option.toList_some, Option.toList_none, List.cons_append, List.nil_append, or_true, true_or, or_false, false_or, Nat.reduceEqDiff, not_true_eq_false, not_false_eq_true, false_and, and_false, false_implies, true_implies, implies_true, ne_eq, and_self, ok1, h1.1.1, h6a, hz, pk_sub hs1]
    refine undo_loop (s := st - 1) (by omega) gI_same (fun g2 a2 M hM => ?_) 23144 0 (by omega) (MR.of (h1.fld 6 _)) (fun i hi => absurd hi (Nat.not_lt_zero i))
    have e6 : gI g2 40 6 = nI (st - 1) := by rw [M.2.2]; exact gI_same
    simp only [e_X7_undo_56, e_X7_undo_57, e_X7_undo_60, tand, true_and, and_true, nl1_int, nl1_ref, nl1_null, nl1_ra, cat1_int, cat1_ref, cat1_null, stbs_nil, stbs_cons, stb_int, stb_long, stb_ref, stb_null, stb_ra, alv_nil, alv_cons, alv1_int, alv1_ref, alv1_null, alv1_ra, List.length_nil, List.length_cons, Nat.reduceAdd, Nat.reduceLeDiff, Nat.zero_le, Option.toList_some, Option.toList_none, List.cons_append, List.nil_append, or_true, true_or, or_false, false_or, Nat.reduceEqDiff, not_true_eq_false, not_false_eq_true, false_and, and_false, false_implies, true_implies, implies_true, ne_eq, and_self, ok1, M.k40, e6]
    refine q2 g2 hk ⟨_, M.2.1, ⟨e6, by omega, fun j hj => ?_⟩, ⟨by rw [M.2.2, gI_diff (by decide)]; exact h3, by rw [M.2.2, gI_diff (by decide)]; exact h4, h5, h6⟩, ?_, fun hk => by rw [ur_ne (by decide)]; exact h9 hk, fun i hi => by rw [ur_ne (by decide)]; exact h10 i hi⟩ ((FX.rf.pI (XD.of (by decide) (by decide))).tr M.1)
    · refine (h6c (j + 1) (by omega)).same fun i hi => ?_
      show ur A 41 a2 44 (23144 * (st - 1 - 1 - j) + i) = A 44 (23144 * (st - 1 - (j + 1)) + i)
      rw [ur_ne (by decide), show st - 1 - 1 - j = st - 1 - (j + 1) by omega]
    · rw [ur_eq]
      refine (h6c 0 (by omega)).same fun i hi => ?_
      rw [hM i hi]
      rfl
theorem d_clearText (h : MB g w hist st kept snap t n) (q : ∀ g', MB g' w hist st kept snap t 0 → FX g g' → Q (some (.int (nI n))) g') : w_X7_clearText [.ref 40] g Q := by
  refine wm_at rfl ⟨trivial, trivial⟩ (show WP m_X7_clearText Q 0 [.ref 40, .retAddr 0] [] g from ?_)
  obtain ⟨A, h1, h2, ⟨h3, h4, h5, h6⟩, h7, h9, h10⟩ := h
  simp only [e_X7_clearText_0, e_X7_clearText_1, e_X7_clearText_4, e_X7_clearText_5, e_X7_clearText_6, e_X7_clearText_7, e_X7_clearText_10, e_X7_clearText_11, tand, true_and, and_true, nl1_int, nl1_ref, nl1_null, nl1_ra, cat1_int, cat1_ref, cat1_null, stbs_nil, stbs_cons, stb_int, stb_long, stb_ref, stb_null, stb_ra, alv_nil, alv_cons, alv1_int, alv1_ref, alv1_null, alv1_ra, List.length_nil, List.length_cons, Nat.reduceAdd, Nat.reduceLeDiff, Nat.zero_le, Option.toList_some, Option.toList_none, List.cons_append, List.nil_append, or_true, true_or, or_false, false_or, Nat.reduceEqDiff, not_true_eq_false, not_false_eq_true, false_and, and_false, false_implies, true_implies, implies_true, ne_eq, and_self, ok1, h1.1.1, h3]
  exact q _ ⟨_, h1.fld 7 _, h2.keep (gI_diff (by decide)) (fun _ _ => rfl), ⟨gI_same, by rw [gI_diff (by decide)]; exact h4, Nat.zero_le _, h6⟩, h7, h9, fun i hi => absurd hi (Nat.not_lt_zero i)⟩ (FX.rf.pI (XD.of (by decide) (by decide)))
theorem d_type {c : Nat} (h : MB g w hist st kept snap t n) (q1 : ¬ n < 60 → Q (some (.int (-3))) g) (q2 : ∀ g', n < 60 → MB g' w hist st kept snap (u1 t n c) (n + 1) → FX g g' → Q (some (.int (nI (n + 1)))) g') : w_X7_type [.ref 40, .int (nI c)] g Q := by
  refine wm_at rfl ⟨trivial, trivial, trivial⟩ (show WP m_X7_type Q 0 [.ref 40, .int (nI c)] [] g from ?_)
  obtain ⟨A, h1, h2, ⟨h3, h4, h5, h6⟩, h7, h9, h10⟩ := h
  obtain ⟨k1, k2, k3⟩ := h1.row 45 (by decide) (by decide)
  have r4 := h1.1.2 4 (by decide)
  simp only [mL, Nat.reduceEqDiff, if_true, if_false, Nat.reduceAdd] at k2 k3 r4
  have z45 : (45 : Nat) ≠ 0 := by decide
  have ne : (40 : Nat) ≠ 45 := by decide
  by_cases hn : n < 60
  · have hz : (nI n = nI 60) = False := by
      rw [nI_eqE (by omega) (by omega)]
      exact propext ⟨fun z => by omega, fun z => z.elim⟩
    simp (disch := omega) only [e_X7_type_0, e_X7_type_1, e_X7_type_4, e_X7_type_6, e_X7_type_12, e_X7_type_13, e_X7_type_16, e_X7_type_17, e_X7_type_20, e_X7_type_21, e_X7_type_22, e_X7_type_23, e_X7_type_24, e_X7_type_27, e_X7_type_28, e_X7_type_29, e_X7_type_32, e_X7_type_33, e_X7_type_36, tand, true_and, and_true, nl1_int, nl1_ref, nl1_null, nl1_ra, cat1_int, cat1_ref, cat1_null, stbs_nil, stbs_cons, stb_int, stb_long, stb_ref, stb_null, stb_ra, alv_nil, alv_cons, alv1_int, alv1_ref, alv1_null, alv1_ra, List.length_nil, List.length_cons, Nat.reduceAdd, Nat.reduceLeDiff, Nat.zero_le, Option.toList_some, Option.toList_none, List.cons_append, List.nil_append, or_true, true_or, or_false, false_or, Nat.reduceEqDiff, not_true_eq_false, not_false_eq_true, false_and, and_false, false_implies, true_implies, implies_true, ne_eq, and_self, ok1, h1.1.1, h3, hz, r4, k1, k2, vpT, nI_clamp, z45, gK_pI, gI_pI_ne ne, nI_add, gI_same]
    refine q2 _ hn ⟨_, (h1.set 45 n c).fld 7 _, h2.keep (by rw [gI_diff (by decide), gI_pI_ne ne]) (fun i _ => by rw [u2_ne (by decide)]), ⟨gI_same, by rw [gI_diff (by decide), gI_pI_ne ne]; exact h4, by omega, h6⟩, by rw [u2_ne (by decide)]; exact h7, fun hk => by rw [u2_ne (by decide)]; exact h9 hk, fun i hi => ?_⟩ ((FX.rf.pI (XD.of (by decide) (by decide))).pI (XD.of (by decide) (by decide)))
    rw [u2_eq]
    by_cases e : i = n
    · rw [e, u1_eq, u1_eq]
    · rw [u1_ne e, u1_ne e]
      exact h10 i (by omega)
  · have hz : n = 60 := by omega
    simp (disch := omega) only [e_X7_type_0, e_X7_type_1, e_X7_type_4, e_X7_type_6, e_X7_type_9, e_X7_type_11, tand, true_and, and_true, nl1_int, nl1_ref, nl1_null, nl1_ra, cat1_int, cat1_ref, cat1_null, stbs_nil, stbs_cons, stb_int, stb_long, stb_ref, stb_null, stb_ra, alv_nil, alv_cons, alv1_int, alv1_ref, alv1_null, alv1_ra, List.length_nil, List.length_cons, Nat.reduceAdd, Nat.reduceLeDiff, Nat.zero_le, Option.toList_some, Option.toList_none, List.cons_append, List.nil_append, or_true, true_or, or_false, false_or, Nat.reduceEqDiff, not_true_eq_false, not_false_eq_true, false_and, and_false, false_implies, true_implies, implies_true, ne_eq, and_self, ok1, h1.1.1, h3, hz]
    exact q1 hn
end Sta
