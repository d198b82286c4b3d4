/-! ===== what a town is asked ===== -/
theorem TRw.pl {g : mG} {T : Nat} {w : Rw} (h : TRw g T w) : (gK g T = 6 ∧ gR g T 11 = T + 1 ∧ gR g T 12 = T + 2 ∧ gR g T 13 = T + 3) ∧ (gK g (T + 1) = 11 ∧ gN g (T + 1) = 5) ∧ (gK g (T + 2) = 14 ∧ gN g (T + 2) = 6) ∧ (gK g (T + 3) = 15 ∧ gN g (T + 3) = 17) := ⟨h.1.1, h.1.2.1, h.1.2.2.1, h.1.2.2.2.1⟩
theorem TRw.rk {g : mG} {T k : Nat} {w : Rw} (h : TRw g T w) (hk : k < 6) : gR g (T + 2) k = T + 4 + 3 * k := (h.1.2.2.2.2.1 k hk).1
theorem TRw.ro {g : mG} {T i : Nat} {w : Rw} (h : TRw g T w) (hi : i < 17) : gR g (T + 3) i = T + 22 + 3 * i := (h.1.2.2.2.2.2 i hi).1
theorem stb_k {g : mG} {a n : Nat} (h : gK g a = n) (h0 : n ≠ 0) (h1 : n ≠ 12) : stb g (.ref a) = True := propext ⟨fun _ => trivial, fun _ => ⟨by rw [h]; exact h0, by rw [h]; exact h1⟩⟩
section Ask
variable {g : mG} {T : Nat} {w : Rw} {Q : mQ}
theorem c_kilnAt {v : Int32} (h : TRw g T w) (q : ∀ k, k < 6 → v = nI k → Q (some (.ref (T + 4 + 3 * k))) g) (q2 : (∀ k, k < 6 → v ≠ nI k) → Q (some .null) g) : w_X5_kilnAt [.ref T, .int v] g Q := by
  refine wm_at rfl ⟨trivial, trivial, trivial⟩ (show WP m_X5_kilnAt Q 0 [.ref T, .int v] [] g from ?_)
  obtain ⟨⟨a1, a2, a3, a4⟩, ⟨b1, b2⟩, ⟨c1, c2⟩, ⟨d1, d2⟩⟩ := h.pl
  have z : T + 2 ≠ 0 := by omega
  simp (disch := omega) only [e_X5_kilnAt_0, e_X5_kilnAt_1, e_X5_kilnAt_4, e_X5_kilnAt_5, e_X5_kilnAt_6, e_X5_kilnAt_9, e_X5_kilnAt_10, tand, true_and, and_true, nl1_int, nl1_ref, nl1_null, nl1_ra, cat1_int, cat1_ref, cat1_null, stbs_nil, stbs_cons, stb_int, stb_long, stb_ref, stb_null, stb_ra, alv_nil, alv_cons, alv1_int, alv1_ref, alv1_null, alv1_ra, List.length_nil, List.length_cons, Nat.reduceAdd, Nat.reduceLeDiff, Nat.zero_le, Option.toList_some, Option.toList_none, List.cons_append, List.nil_append, or_true, true_or, or_false, false_or, Nat.reduceEqDiff, not_true_eq_false, not_false_eq_true, false_and, and_false, false_implies, true_implies, implies_true, ne_eq, and_self, ok1, a1, a3, c1, c2, z]
  have no : v < 0 ∨ nI 6 ≤ v → ∀ k, k < 6 → v ≠ nI k := fun hv k hk e => by
    rcases hv with hv | hv
    · rw [e, nI_lt0 (by omega)] at hv
      exact hv
    · rw [e, nI_leE (by omega) (by omega)] at hv
      omega
  refine ⟨fun hv => ?_, fun hv => ⟨fun hv2 => ?_, fun hv2 => ?_⟩⟩
  · simp only [e_X5_kilnAt_22, e_X5_kilnAt_23, e_X5_kilnAt_23n, tand, true_and, and_true, nl1_int, nl1_ref, nl1_null, nl1_ra, cat1_int, cat1_ref, cat1_null, stbs_nil, stbs_cons, stb_int, stb_long, stb_ref, stb_null, stb_ra, alv_nil, alv_cons, alv1_int, alv1_ref, alv1_null, alv1_ra, List.length_nil, List.length_cons, Nat.reduceAdd, Nat.reduceLeDiff, Nat.zero_le, Option.toList_some, Option.toList_none, List.cons_append, List.nil_append, or_true, true_or, or_false, false_or, Nat.reduceEqDiff, not_true_eq_false, not_false_eq_true, false_and, and_false, false_implies, true_implies, implies_true, ne_eq, and_self, ok1]
    exact q2 (no (Or.inl hv))
  · simp only [e_X5_kilnAt_22, e_X5_kilnAt_23, e_X5_kilnAt_23n, tand, true_and, and_true, nl1_int, nl1_ref, nl1_null, nl1_ra, cat1_int, cat1_ref, cat1_null, stbs_nil, stbs_cons, stb_int, stb_long, stb_ref, stb_null, stb_ra, alv_nil, alv_cons, alv1_int, alv1_ref, alv1_null, alv1_ra, List.length_nil, List.length_cons, Nat.reduceAdd, Nat.reduceLeDiff, Nat.zero_le, Option.toList_some, Option.toList_none, List.cons_append, List.nil_append, or_true, true_or, or_false, false_or, Nat.reduceEqDiff, not_true_eq_false, not_false_eq_true, false_and, and_false, false_implies, true_implies, implies_true, ne_eq, and_self, ok1]
    exact q2 (no (Or.inr hv2))
  · have ⟨k, hk, e⟩ : ∃ k, k < 6 ∧ v = nI k := by
      have hv0 : 0 ≤ v := Int32.not_lt.mp hv
      have hv1 : v < nI 6 := Int32.not_le.mp hv2
      rw [Int32.le_iff_toInt_le] at hv0
      rw [Int32.lt_iff_toInt_lt, nI_toInt (by omega)] at hv1
      have e0 : (0 : Int32).toInt = 0 := rfl
      refine ⟨v.toInt.toNat, by omega, ?_⟩
      rw [← Int32.toInt_inj, nI_toInt (by omega)]
      omega
    have z2 : T + 4 + 3 * k ≠ 0 := by omega
    subst e
    have hk2 : (k < 6) = True := propext ⟨fun _ => trivial, fun _ => hk⟩
    simp (disch := omega) only [e_X5_kilnAt_13, e_X5_kilnAt_14, e_X5_kilnAt_17, e_X5_kilnAt_18, e_X5_kilnAt_19, e_X5_kilnAt_22, e_X5_kilnAt_23, e_X5_kilnAt_23n, tand, true_and, and_true, nl1_int, nl1_ref, nl1_null, nl1_ra, cat1_int, cat1_ref, cat1_null, stbs_nil, stbs_cons, stb_int, stb_long, stb_ref, stb_null, stb_ra, alv_nil, alv_cons, alv1_int, alv1_ref, alv1_null, alv1_ra, List.length_nil, List.length_cons, Nat.reduceAdd, Nat.reduceLeDiff, Nat.zero_le, Option.toList_some, Option.toList_none, List.cons_append, List.nil_append, or_true, true_or, or_false, false_or, Nat.reduceEqDiff, not_true_eq_false, not_false_eq_true, false_and, and_false, false_implies, true_implies, implies_true, ne_eq, and_self, ok1, a1, a3, c1, c2, z, nI_vp, nI_clamp, hk2, h.rk hk, z2]
    exact q k hk rfl
theorem standing_loop (h : TRw g T w) (hB : TB w) (q : Q (some (.int (nI (sm (fun i => nB (decide (0 < wF w i 3))) 17)))) g) : ∀ (k i : Nat) {l5 : Value}, i + k = 17 → WP m_X5_standingCount Q 13 [.ref T, .int (nI (sm (fun i => nB (decide (0 < wF w i 3))) i)), .ref (T + 3), .int (nI 17), .int (nI i), l5] [] g := by
  obtain ⟨⟨a1, a2, a3, a4⟩, ⟨b1, b2⟩, ⟨c1, c2⟩, ⟨d1, d2⟩⟩ := h.pl
  intro k
  induction k with
  | zero =>
    intro i l5 hi
    have hi2 : i = 17 := by omega
    subst hi2
    simp (disch := omega) only [e_X5_standingCount_13, e_X5_standingCount_15, e_X5_standingCount_16, e_X5_standingCount_42, e_X5_standingCount_43, tand, true_and, and_true, nl1_int, nl1_ref, nl1_null, nl1_ra, cat1_int, cat1_ref, cat1_null, stbs_nil, stbs_cons, stb_int, stb_long, stb_ref, stb_null, stb_ra, alv_nil, alv_cons, alv1_int, alv1_ref, alv1_null, alv1_ra, List.length_nil, List.length_cons, Nat.reduceAdd, Nat.reduceLeDiff, Nat.zero_le, Option.toList_some, Option.toList_none, List.cons_append, List.nil_append, or_true, true_or, or_false, false_or, Nat.reduceEqDiff, not_true_eq_false, not_false_eq_true, false_and, and_false, false_implies, true_implies, implies_true, ne_eq, and_self, ok1, nI_leE]
    exact q
  | succ k ih =>
    intro i l5 hi
    have hlt : i < 17 := by omega
    have hlt2 : ¬ 17 ≤ i := by omega
    have z2 : T + 22 + 3 * i ≠ 0 := by omega
    obtain ⟨⟨o1, o2⟩, ⟨o3, o4⟩, o5⟩ := h.o hlt
    have f3 := (hB.2.2 i hlt).1 3 (by decide)
    simp (disch := omega) only [e_X5_standingCount_13, e_X5_standingCount_15, e_X5_standingCount_16, e_X5_standingCount_19, e_X5_standingCount_19n, e_X5_standingCount_20, e_X5_standingCount_22, e_X5_standingCount_23, e_X5_standingCount_23n, e_X5_standingCount_25, e_X5_standingCount_25n, e_X5_standingCount_27, e_X5_standingCount_30, e_X5_standingCount_33, e_X5_standingCount_36, tand, true_and, and_true, nl1_int, nl1_ref, nl1_null, nl1_ra, cat1_int, cat1_ref, cat1_null, stbs_nil, stbs_cons, stb_int, stb_long, stb_ref, stb_null, stb_ra, alv_nil, alv_cons, alv1_int, alv1_ref, alv1_null, alv1_ra, List.length_nil, List.length_cons, Nat.reduceAdd, Nat.reduceLeDiff, Nat.zero_le, Option.toList_some, Option.toList_none, List.cons_append, List.nil_append, or_true, true_or, or_false, false_or, Nat.reduceEqDiff, not_true_eq_false, not_false_eq_true, false_and, and_false, false_implies, true_implies, implies_true, ne_eq, and_self, ok1, d1, d2, nI_leE, hlt2, nI_vp, hlt, nI_clamp, h.ro hlt, z2, o1, o5 3 (by decide), nI_le0, nI_add]
    simp only [e_X5_standingCount_39, tand, true_and, and_true, nl1_int, nl1_ref, nl1_null, nl1_ra, cat1_int, cat1_ref, cat1_null, stbs_nil, stbs_cons, stb_int, stb_long, stb_ref, stb_null, stb_ra, alv_nil, alv_cons, alv1_int, alv1_ref, alv1_null, alv1_ra, List.length_nil, List.length_cons, Nat.reduceAdd, Nat.reduceLeDiff, Nat.zero_le, Option.toList_some, Option.toList_none, List.cons_append, List.nil_append, or_true, true_or, or_false, false_or, Nat.reduceEqDiff, not_true_eq_false, not_false_eq_true, false_and, and_false, false_implies, true_implies, implies_true, ne_eq, and_self, ok1]
    refine ⟨fun h0 => ?_, fun h0 => ?_⟩
    · have e : sm (fun i => nB (decide (0 < wF w i 3))) (i + 1) = sm (fun i => nB (decide (0 < wF w i 3))) i := by
        simp only [sm]
        rw [show decide (0 < wF w i 3) = false from decide_eq_false (by omega)]
        rfl
      rw [← e]; exact ih (i + 1) (by omega)
    · have e : sm (fun i => nB (decide (0 < wF w i 3))) (i + 1) = sm (fun i => nB (decide (0 < wF w i 3))) i + 1 := by
        simp only [sm]
        rw [show decide (0 < wF w i 3) = true from decide_eq_true (by omega)]
        rfl
      rw [← e]; exact ih (i + 1) (by omega)
theorem c_standingCount (h : TRw g T w) (hB : TB w) (q : Q (some (.int (nI (sm (fun i => nB (decide (0 < wF w i 3))) 17)))) g) : w_X5_standingCount [.ref T] g Q := by
  refine wm_at rfl ⟨trivial, trivial⟩ (show WP m_X5_standingCount Q 0 [.ref T, .retAddr 0, .retAddr 0, .retAddr 0, .retAddr 0, .retAddr 0] [] g from ?_)
  obtain ⟨⟨a1, a2, a3, a4⟩, ⟨b1, b2⟩, ⟨c1, c2⟩, ⟨d1, d2⟩⟩ := h.pl
  have z : T + 3 ≠ 0 := by omega
  simp (disch := omega) only [e_X5_standingCount_0, e_X5_standingCount_1, e_X5_standingCount_2, e_X5_standingCount_3, e_X5_standingCount_6, e_X5_standingCount_6n, e_X5_standingCount_7, e_X5_standingCount_7n, e_X5_standingCount_8, e_X5_standingCount_9, e_X5_standingCount_10, e_X5_standingCount_11, tand, true_and, and_true, nl1_int, nl1_ref, nl1_null, nl1_ra, cat1_int, cat1_ref, cat1_null, stbs_nil, stbs_cons, stb_int, stb_long, stb_ref, stb_null, stb_ra, alv_nil, alv_cons, alv1_int, alv1_ref, alv1_null, alv1_ra, List.length_nil, List.length_cons, Nat.reduceAdd, Nat.reduceLeDiff, Nat.zero_le, Option.toList_some, Option.toList_none, List.cons_append, List.nil_append, or_true, true_or, or_false, false_or, Nat.reduceEqDiff, not_true_eq_false, not_false_eq_true, false_and, and_false, false_implies, true_implies, implies_true, ne_eq, and_self, ok1, a1, a4, d1, d2, z]
  exact standing_loop h hB q 17 0 rfl
theorem held_loop {n : Nat} (hn : n < 2 ^ 30) (h : TRw g T w) (hB : TB w) (q : Q (some (.int (nI (sm (fun i => if wF w i 2 = n then hbF w i else 0) 17)))) g) : ∀ (k i : Nat) {l5 : Value}, stb g l5 = True → i + k = 17 → WP m_X5_heldBackBy Q 14 [.ref T, .int (nI n), .int (nI (sm (fun i => if wF w i 2 = n then hbF w i else 0) i)), .ref (T + 3), .int (nI 17), .int (nI i), l5] [] g := by
  obtain ⟨⟨a1, a2, a3, a4⟩, ⟨b1, b2⟩, ⟨c1, c2⟩, ⟨d1, d2⟩⟩ := h.pl
  intro k
  induction k with
  | zero =>
    intro i l5 hl5 hi
    have hi2 : i = 17 := by omega
    subst hi2
    simp (disch := omega) only [e_X5_heldBackBy_14, e_X5_heldBackBy_16, e_X5_heldBackBy_18, e_X5_heldBackBy_50, e_X5_heldBackBy_51, tand, true_and, and_true, nl1_int, nl1_ref, nl1_null, nl1_ra, cat1_int, cat1_ref, cat1_null, stbs_nil, stbs_cons, stb_int, stb_long, stb_ref, stb_null, stb_ra, alv_nil, alv_cons, alv1_int, alv1_ref, alv1_null, alv1_ra, List.length_nil, List.length_cons, Nat.reduceAdd, Nat.reduceLeDiff, Nat.zero_le, Option.toList_some, Option.toList_none, List.cons_append, List.nil_append, or_true, true_or, or_false, false_or, Nat.reduceEqDiff, not_true_eq_false, not_false_eq_true, false_and, and_false, false_implies, true_implies, implies_true, ne_eq, and_self, ok1, nI_leE]
    exact q
  | succ k ih =>
    intro i l5 hl5 hi
    have hlt : i < 17 := by omega
    have hlt2 : ¬ 17 ≤ i := by omega
    have z2 : T + 22 + 3 * i ≠ 0 := by omega
    obtain ⟨⟨o1, o2⟩, ⟨o3, o4⟩, o5⟩ := h.o hlt
    have f2 := (hB.2.2 i hlt).1 2 (by decide)
    have e : sm (fun i => if wF w i 2 = n then hbF w i else 0) (i + 1) = sm (fun i => if wF w i 2 = n then hbF w i else 0) i + if wF w i 2 = n then hbF w i else 0 := rfl
    have ih1 := ih (i + 1) (l5 := .ref (T + 22 + 3 * i)) (stb_k o1 (by decide) (by decide)) (by omega)
    rw [e] at ih1
    simp (disch := omega) only [e_X5_heldBackBy_14, e_X5_heldBackBy_16, e_X5_heldBackBy_18, e_X5_heldBackBy_21, e_X5_heldBackBy_21n, e_X5_heldBackBy_22, e_X5_heldBackBy_24, e_X5_heldBackBy_25, e_X5_heldBackBy_25n, e_X5_heldBackBy_27, e_X5_heldBackBy_27n, e_X5_heldBackBy_29, e_X5_heldBackBy_32, e_X5_heldBackBy_33, e_X5_heldBackBy_36, e_X5_heldBackBy_37, e_X5_heldBackBy_37n, e_X5_heldBackBy_39, tand, true_and, and_true, nl1_int, nl1_ref, nl1_null, nl1_ra, cat1_int, cat1_ref, cat1_null, stbs_nil, stbs_cons, stb_int, stb_long, stb_ref, stb_null, stb_ra, alv_nil, alv_cons, alv1_int, alv1_ref, alv1_null, alv1_ra, List.length_nil, List.length_cons, Nat.reduceAdd, Nat.reduceLeDiff, Nat.zero_le, Option.toList_some, Option.toList_none, List.cons_append, List.nil_append, or_true, true_or, or_false, false_or, Nat.reduceEqDiff, not_true_eq_false, not_false_eq_true, false_and, and_false, false_implies, true_implies, implies_true, ne_eq, and_self, ok1, d1, d2, nI_leE, hlt2, nI_vp, hlt, nI_clamp, h.ro hlt, z2, o1, o5 2 (by decide), nI_eqE, hl5, a1]
    refine ⟨fun h0 => ?_, fun h0 => ?_⟩
    · rw [if_neg h0] at ih1
      simp only [e_X5_heldBackBy_44, e_X5_heldBackBy_47, tand, true_and, and_true, nl1_int, nl1_ref, nl1_null, nl1_ra, cat1_int, cat1_ref, cat1_null, stbs_nil, stbs_cons, stb_int, stb_long, stb_ref, stb_null, stb_ra, alv_nil, alv_cons, alv1_int, alv1_ref, alv1_null, alv1_ra, List.length_nil, List.length_cons, Nat.reduceAdd, Nat.reduceLeDiff, Nat.zero_le, Option.toList_some, Option.toList_none, List.cons_append, List.nil_append, or_true, true_or, or_false, false_or, Nat.reduceEqDiff, not_true_eq_false, not_false_eq_true, false_and, and_false, false_implies, true_implies, implies_true, ne_eq, and_self, ok1, nI_add]
      exact ih1
    · rw [if_pos (by omega)] at ih1
      refine c_heldBack h hlt hB ?_
      simp only [e_X5_heldBackBy_42, e_X5_heldBackBy_43, e_X5_heldBackBy_44, e_X5_heldBackBy_47, tand, true_and, and_true, nl1_int, nl1_ref, nl1_null, nl1_ra, cat1_int, cat1_ref, cat1_null, stbs_nil, stbs_cons, stb_int, stb_long, stb_ref, stb_null, stb_ra, alv_nil, alv_cons, alv1_int, alv1_ref, alv1_null, alv1_ra, List.length_nil, List.length_cons, Nat.reduceAdd, Nat.reduceLeDiff, Nat.zero_le, Option.toList_some, Option.toList_none, List.cons_append, List.nil_append, or_true, true_or, or_false, false_or, Nat.reduceEqDiff, not_true_eq_false, not_false_eq_true, false_and, and_false, false_implies, true_implies, implies_true, ne_eq, and_self, ok1, nI_add]
      exact ih1
theorem c_heldBackBy {n : Nat} (hn : n < 2 ^ 30) (h : TRw g T w) (hB : TB w) (q : Q (some (.int (nI (sm (fun i => if wF w i 2 = n then hbF w i else 0) 17)))) g) : w_X5_heldBackBy [.ref T, .int (nI n)] g Q := by
  refine wm_at rfl ⟨trivial, trivial, trivial⟩ (show WP m_X5_heldBackBy Q 0 [.ref T, .int (nI n), .retAddr 0, .retAddr 0, .retAddr 0, .retAddr 0, .retAddr 0] [] g from ?_)
  obtain ⟨⟨a1, a2, a3, a4⟩, ⟨b1, b2⟩, ⟨c1, c2⟩, ⟨d1, d2⟩⟩ := h.pl
  have z : T + 3 ≠ 0 := by omega
  simp (disch := omega) only [e_X5_heldBackBy_0, e_X5_heldBackBy_1, e_X5_heldBackBy_2, e_X5_heldBackBy_3, e_X5_heldBackBy_6, e_X5_heldBackBy_6n, e_X5_heldBackBy_7, e_X5_heldBackBy_7n, e_X5_heldBackBy_8, e_X5_heldBackBy_9, e_X5_heldBackBy_11, e_X5_heldBackBy_12, tand, true_and, and_true, nl1_int, nl1_ref, nl1_null, nl1_ra, cat1_int, cat1_ref, cat1_null, stbs_nil, stbs_cons, stb_int, stb_long, stb_ref, stb_null, stb_ra, alv_nil, alv_cons, alv1_int, alv1_ref, alv1_null, alv1_ra, List.length_nil, List.length_cons, Nat.reduceAdd, Nat.reduceLeDiff, Nat.zero_le, Option.toList_some, Option.toList_none, List.cons_append, List.nil_append, or_true, true_or, or_false, false_or, Nat.reduceEqDiff, not_true_eq_false, not_false_eq_true, false_and, and_false, false_implies, true_implies, implies_true, ne_eq, and_self, ok1, a1, a4, d1, d2, z]
  exact held_loop hn h hB q 17 0 rfl rfl
theorem offered_loop {n : Nat} (hn : n < 2 ^ 30) (h : TRw g T w) (hB : TB w) (q : Q (some (.int (nI (sm (fun i => if wF w i 2 = n then rt (wO w i) else 0) 17)))) g) : ∀ (k i : Nat) {l5 : Value}, i + k = 17 → WP m_X5_offeredBy Q 14 [.ref T, .int (nI n), .int (nI (sm (fun i => if wF w i 2 = n then rt (wO w i) else 0) i)), .ref (T + 3), .int (nI 17), .int (nI i), l5] [] g := by
  obtain ⟨⟨a1, a2, a3, a4⟩, ⟨b1, b2⟩, ⟨c1, c2⟩, ⟨d1, d2⟩⟩ := h.pl
  intro k
  induction k with
  | zero =>
    intro i l5 hi
    have hi2 : i = 17 := by omega
    subst hi2
    simp (disch := omega) only [e_X5_offeredBy_14, e_X5_offeredBy_16, e_X5_offeredBy_18, e_X5_offeredBy_53, e_X5_offeredBy_54, tand, true_and, and_true, nl1_int, nl1_ref, nl1_null, nl1_ra, cat1_int, cat1_ref, cat1_null, stbs_nil, stbs_cons, stb_int, stb_long, stb_ref, stb_null, stb_ra, alv_nil, alv_cons, alv1_int, alv1_ref, alv1_null, alv1_ra, List.length_nil, List.length_cons, Nat.reduceAdd, Nat.reduceLeDiff, Nat.zero_le, Option.toList_some, Option.toList_none, List.cons_append, List.nil_append, or_true, true_or, or_false, false_or, Nat.reduceEqDiff, not_true_eq_false, not_false_eq_true, false_and, and_false, false_implies, true_implies, implies_true, ne_eq, and_self, ok1, nI_leE]
    exact q
  | succ k ih =>
    intro i l5 hi
    have hlt : i < 17 := by omega
    have hlt2 : ¬ 17 ≤ i := by omega
    have z2 : T + 22 + 3 * i ≠ 0 := by omega
    have z3 : T + 23 + 3 * i ≠ 0 := by omega
    obtain ⟨⟨o1, o2⟩, ⟨o3, o4⟩, o5⟩ := h.o hlt
    have f2 := (hB.2.2 i hlt).1 2 (by decide)
    have e : sm (fun i => if wF w i 2 = n then rt (wO w i) else 0) (i + 1) = sm (fun i => if wF w i 2 = n then rt (wO w i) else 0) i + if wF w i 2 = n then rt (wO w i) else 0 := rfl
    have ih1 := ih (i + 1) (l5 := .ref (T + 22 + 3 * i)) (by omega)
    rw [e] at ih1
    simp (disch := omega) only [e_X5_offeredBy_14, e_X5_offeredBy_16, e_X5_offeredBy_18, e_X5_offeredBy_21, e_X5_offeredBy_21n, e_X5_offeredBy_22, e_X5_offeredBy_24, e_X5_offeredBy_25, e_X5_offeredBy_25n, e_X5_offeredBy_27, e_X5_offeredBy_27n, e_X5_offeredBy_29, e_X5_offeredBy_32, e_X5_offeredBy_33, tand, true_and, and_true, nl1_int, nl1_ref, nl1_null, nl1_ra, cat1_int, cat1_ref, cat1_null, stbs_nil, stbs_cons, stb_int, stb_long, stb_ref, stb_null, stb_ra, alv_nil, alv_cons, alv1_int, alv1_ref, alv1_null, alv1_ra, List.length_nil, List.length_cons, Nat.reduceAdd, Nat.reduceLeDiff, Nat.zero_le, Option.toList_some, Option.toList_none, List.cons_append, List.nil_append, or_true, true_or, or_false, false_or, Nat.reduceEqDiff, not_true_eq_false, not_false_eq_true, false_and, and_false, false_implies, true_implies, implies_true, ne_eq, and_self, ok1, d1, d2, nI_leE, hlt2, nI_vp, hlt, nI_clamp, h.ro hlt, z2, o1, o5 2 (by decide), nI_eqE]
    refine ⟨fun h0 => ?_, fun h0 => ?_⟩
    · rw [if_neg h0] at ih1
      simp only [e_X5_offeredBy_47, e_X5_offeredBy_50, tand, true_and, and_true, nl1_int, nl1_ref, nl1_null, nl1_ra, cat1_int, cat1_ref, cat1_null, stbs_nil, stbs_cons, stb_int, stb_long, stb_ref, stb_null, stb_ra, alv_nil, alv_cons, alv1_int, alv1_ref, alv1_null, alv1_ra, List.length_nil, List.length_cons, Nat.reduceAdd, Nat.reduceLeDiff, Nat.zero_le, Option.toList_some, Option.toList_none, List.cons_append, List.nil_append, or_true, true_or, or_false, false_or, Nat.reduceEqDiff, not_true_eq_false, not_false_eq_true, false_and, and_false, false_implies, true_implies, implies_true, ne_eq, and_self, ok1, nI_add]
      exact ih1
    · rw [if_pos (by omega)] at ih1
      simp only [e_X5_offeredBy_36, e_X5_offeredBy_37, e_X5_offeredBy_37n, e_X5_offeredBy_39, e_X5_offeredBy_42, e_X5_offeredBy_45, e_X5_offeredBy_46, e_X5_offeredBy_47, e_X5_offeredBy_50, tand, true_and, and_true, nl1_int, nl1_ref, nl1_null, nl1_ra, cat1_int, cat1_ref, cat1_null, stbs_nil, stbs_cons, stb_int, stb_long, stb_ref, stb_null, stb_ra, alv_nil, alv_cons, alv1_int, alv1_ref, alv1_null, alv1_ra, List.length_nil, List.length_cons, Nat.reduceAdd, Nat.reduceLeDiff, Nat.zero_le, Option.toList_some, Option.toList_none, List.cons_append, List.nil_append, or_true, true_or, or_false, false_or, Nat.reduceEqDiff, not_true_eq_false, not_false_eq_true, false_and, and_false, false_implies, true_implies, implies_true, ne_eq, and_self, ok1, nI_add, o1, o2, o3, o4, z3]
      exact ih1
theorem c_offeredBy {n : Nat} (hn : n < 2 ^ 30) (h : TRw g T w) (hB : TB w) (q : Q (some (.int (nI (sm (fun i => if wF w i 2 = n then rt (wO w i) else 0) 17)))) g) : w_X5_offeredBy [.ref T, .int (nI n)] g Q := by
  refine wm_at rfl ⟨trivial, trivial, trivial⟩ (show WP m_X5_offeredBy Q 0 [.ref T, .int (nI n), .retAddr 0, .retAddr 0, .retAddr 0, .retAddr 0, .retAddr 0] [] g from ?_)
  obtain ⟨⟨a1, a2, a3, a4⟩, ⟨b1, b2⟩, ⟨c1, c2⟩, ⟨d1, d2⟩⟩ := h.pl
  have z : T + 3 ≠ 0 := by omega
  simp (disch := omega) only [e_X5_offeredBy_0, e_X5_offeredBy_1, e_X5_offeredBy_2, e_X5_offeredBy_3, e_X5_offeredBy_6, e_X5_offeredBy_6n, e_X5_offeredBy_7, e_X5_offeredBy_7n, e_X5_offeredBy_8, e_X5_offeredBy_9, e_X5_offeredBy_11, e_X5_offeredBy_12, tand, true_and, and_true, nl1_int, nl1_ref, nl1_null, nl1_ra, cat1_int, cat1_ref, cat1_null, stbs_nil, stbs_cons, stb_int, stb_long, stb_ref, stb_null, stb_ra, alv_nil, alv_cons, alv1_int, alv1_ref, alv1_null, alv1_ra, List.length_nil, List.length_cons, Nat.reduceAdd, Nat.reduceLeDiff, Nat.zero_le, Option.toList_some, Option.toList_none, List.cons_append, List.nil_append, or_true, true_or, or_false, false_or, Nat.reduceEqDiff, not_true_eq_false, not_false_eq_true, false_and, and_false, false_implies, true_implies, implies_true, ne_eq, and_self, ok1, a1, a4, d1, d2, z]
  exact offered_loop hn h hB q 17 0 rfl
def frP (w : Rw) (i : Nat) : Prop := wF w i 3 = 0
theorem free_loop (h : TRw g T w) (hB : TB w) (q : ∀ i, i < 17 → wF w i 3 = 0 → (∀ j, j < i → wF w j 3 ≠ 0) → Q (some (.ref (T + 22 + 3 * i))) g) (q2 : (∀ i, i < 17 → wF w i 3 ≠ 0) → Q (some .null) g) : ∀ (k i : Nat) {l4 : Value}, i + k = 17 → (∀ j, j < i → wF w j 3 ≠ 0) → WP m_X5_freePlace Q 10 [.ref T, .ref (T + 3), .int (nI 17), .int (nI i), l4] [] g := by
  obtain ⟨⟨a1, a2, a3, a4⟩, ⟨b1, b2⟩, ⟨c1, c2⟩, ⟨d1, d2⟩⟩ := h.pl
  intro k
  induction k with
  | zero =>
    intro i l4 hi hz
    have hi2 : i = 17 := by omega
    subst hi2
    simp (disch := omega) only [e_X5_freePlace_10, e_X5_freePlace_11, e_X5_freePlace_12, e_X5_freePlace_37, e_X5_freePlace_38, e_X5_freePlace_38n, tand, true_and, and_true, nl1_int, nl1_ref, nl1_null, nl1_ra, cat1_int, cat1_ref, cat1_null, stbs_nil, stbs_cons, stb_int, stb_long, stb_ref, stb_null, stb_ra, alv_nil, alv_cons, alv1_int, alv1_ref, alv1_null, alv1_ra, List.length_nil, List.length_cons, Nat.reduceAdd, Nat.reduceLeDiff, Nat.zero_le, Option.toList_some, Option.toList_none, List.cons_append, List.nil_append, or_true, true_or, or_false, false_or, Nat.reduceEqDiff, not_true_eq_false, not_false_eq_true, false_and, and_false, false_implies, true_implies, implies_true, ne_eq, and_self, ok1, nI_leE]
    exact q2 hz
  | succ k ih =>
    intro i l4 hi hz
    have hlt : i < 17 := by omega
    have hlt2 : ¬ 17 ≤ i := by omega
    have z2 : T + 22 + 3 * i ≠ 0 := by omega
    obtain ⟨⟨o1, o2⟩, ⟨o3, o4⟩, o5⟩ := h.o hlt
    have f3 := (hB.2.2 i hlt).1 3 (by decide)
    simp (disch := omega) only [e_X5_freePlace_10, e_X5_freePlace_11, e_X5_freePlace_12, e_X5_freePlace_15, e_X5_freePlace_15n, e_X5_freePlace_16, e_X5_freePlace_17, e_X5_freePlace_18, e_X5_freePlace_18n, e_X5_freePlace_20, e_X5_freePlace_20n, e_X5_freePlace_22, e_X5_freePlace_25, e_X5_freePlace_28, e_X5_freePlace_28n, e_X5_freePlace_30, e_X5_freePlace_30n, e_X5_freePlace_31, tand, true_and, and_true, nl1_int, nl1_ref, nl1_null, nl1_ra, cat1_int, cat1_ref, cat1_null, stbs_nil, stbs_cons, stb_int, stb_long, stb_ref, stb_null, stb_ra, alv_nil, alv_cons, alv1_int, alv1_ref, alv1_null, alv1_ra, List.length_nil, List.length_cons, Nat.reduceAdd, Nat.reduceLeDiff, Nat.zero_le, Option.toList_some, Option.toList_none, List.cons_append, List.nil_append, or_true, true_or, or_false, false_or, Nat.reduceEqDiff, not_true_eq_false, not_false_eq_true, false_and, and_false, false_implies, true_implies, implies_true, ne_eq, and_self, ok1, d1, d2, nI_leE, hlt2, nI_vp, hlt, nI_clamp, h.ro hlt, z2, o1, o5 3 (by decide), nI_eq0, nI_add]
    refine ⟨fun h0 => ?_, fun h0 => ?_⟩
    · simp only [e_X5_freePlace_34, tand, true_and, and_true, nl1_int, nl1_ref, nl1_null, nl1_ra, cat1_int, cat1_ref, cat1_null, stbs_nil, stbs_cons, stb_int, stb_long, stb_ref, stb_null, stb_ra, alv_nil, alv_cons, alv1_int, alv1_ref, alv1_null, alv1_ra, List.length_nil, List.length_cons, Nat.reduceAdd, Nat.reduceLeDiff, Nat.zero_le, Option.toList_some, Option.toList_none, List.cons_append, List.nil_append, or_true, true_or, or_false, false_or, Nat.reduceEqDiff, not_true_eq_false, not_false_eq_true, false_and, and_false, false_implies, true_implies, implies_true, ne_eq, and_self, ok1]
      refine ih (i + 1) (by omega) fun j hj => ?_
      by_cases hji : j = i
      · rw [hji]; exact h0
      · exact hz j (by omega)
    · exact q i hlt (by omega) hz
theorem c_freePlace (h : TRw g T w) (hB : TB w) (q : ∀ i, i < 17 → wF w i 3 = 0 → (∀ j, j < i → wF w j 3 ≠ 0) → Q (some (.ref (T + 22 + 3 * i))) g) (q2 : (∀ i, i < 17 → wF w i 3 ≠ 0) → Q (some .null) g) : w_X5_freePlace [.ref T] g Q := by
  refine wm_at rfl ⟨trivial, trivial⟩ (show WP m_X5_freePlace Q 0 [.ref T, .retAddr 0, .retAddr 0, .retAddr 0, .retAddr 0] [] g from ?_)
  obtain ⟨⟨a1, a2, a3, a4⟩, ⟨b1, b2⟩, ⟨c1, c2⟩, ⟨d1, d2⟩⟩ := h.pl
  have z : T + 3 ≠ 0 := by omega
  simp (disch := omega) only [e_X5_freePlace_0, e_X5_freePlace_1, e_X5_freePlace_4, e_X5_freePlace_4n, e_X5_freePlace_5, e_X5_freePlace_5n, e_X5_freePlace_6, e_X5_freePlace_7, e_X5_freePlace_8, e_X5_freePlace_9, tand, true_and, and_true, nl1_int, nl1_ref, nl1_null, nl1_ra, cat1_int, cat1_ref, cat1_null, stbs_nil, stbs_cons, stb_int, stb_long, stb_ref, stb_null, stb_ra, alv_nil, alv_cons, alv1_int, alv1_ref, alv1_null, alv1_ra, List.length_nil, List.length_cons, Nat.reduceAdd, Nat.reduceLeDiff, Nat.zero_le, Option.toList_some, Option.toList_none, List.cons_append, List.nil_append, or_true, true_or, or_false, false_or, Nat.reduceEqDiff, not_true_eq_false, not_false_eq_true, false_and, and_false, false_implies, true_implies, implies_true, ne_eq, and_self, ok1, a1, a4, d1, d2, z]
  exact free_loop h hB q q2 17 0 rfl fun j hj => absurd hj (Nat.not_lt_zero j)
theorem with_loop {v : Int32} (h : TRw g T w) (hB : TB w) (q : ∀ i, i < 17 → 0 < wF w i 3 → v = nI (wF w i 0) → Q (some (.ref (T + 22 + 3 * i))) g) (q2 : (∀ i, i < 17 → 0 < wF w i 3 → v ≠ nI (wF w i 0)) → Q (some .null) g) : ∀ (k i : Nat) {l5 : Value}, i + k = 17 → (∀ j, j < i → 0 < wF w j 3 → v ≠ nI (wF w j 0)) → WP m_X5_standingWith Q 11 [.ref T, .int v, .ref (T + 3), .int (nI 17), .int (nI i), l5] [] g := by
  obtain ⟨⟨a1, a2, a3, a4⟩, ⟨b1, b2⟩, ⟨c1, c2⟩, ⟨d1, d2⟩⟩ := h.pl
  intro k
  induction k with
  | zero =>
    intro i l5 hi hz
    have hi2 : i = 17 := by omega
    subst hi2
    simp (disch := omega) only [e_X5_standingWith_11, e_X5_standingWith_13, e_X5_standingWith_14, e_X5_standingWith_49, e_X5_standingWith_50, e_X5_standingWith_50n, tand, true_and, and_true, nl1_int, nl1_ref, nl1_null, nl1_ra, cat1_int, cat1_ref, cat1_null, stbs_nil, stbs_cons, stb_int, stb_long, stb_ref, stb_null, stb_ra, alv_nil, alv_cons, alv1_int, alv1_ref, alv1_null, alv1_ra, List.length_nil, List.length_cons, Nat.reduceAdd, Nat.reduceLeDiff, Nat.zero_le, Option.toList_some, Option.toList_none, List.cons_append, List.nil_append, or_true, true_or, or_false, false_or, Nat.reduceEqDiff, not_true_eq_false, not_false_eq_true, false_and, and_false, false_implies, true_implies, implies_true, ne_eq, and_self, ok1, nI_leE]
    exact q2 hz
  | succ k ih =>
    intro i l5 hi hz
    have hlt : i < 17 := by omega
    have hlt2 : ¬ 17 ≤ i := by omega
    have z2 : T + 22 + 3 * i ≠ 0 := by omega
    obtain ⟨⟨o1, o2⟩, ⟨o3, o4⟩, o5⟩ := h.o hlt
    have f3 := (hB.2.2 i hlt).1 3 (by decide)
    simp (disch := omega) only [e_X5_standingWith_11, e_X5_standingWith_13, e_X5_standingWith_14, e_X5_standingWith_17, e_X5_standingWith_17n, e_X5_standingWith_18, e_X5_standingWith_20, e_X5_standingWith_21, e_X5_standingWith_21n, e_X5_standingWith_23, e_X5_standingWith_23n, e_X5_standingWith_25, e_X5_standingWith_28, e_X5_standingWith_31, e_X5_standingWith_31n, e_X5_standingWith_33, e_X5_standingWith_36, e_X5_standingWith_37, e_X5_standingWith_40, e_X5_standingWith_40n, e_X5_standingWith_42, e_X5_standingWith_42n, tand, true_and, and_true, nl1_int, nl1_ref, nl1_null, nl1_ra, cat1_int, cat1_ref, cat1_null, stbs_nil, stbs_cons, stb_int, stb_long, stb_ref, stb_null, stb_ra, alv_nil, alv_cons, alv1_int, alv1_ref, alv1_null, alv1_ra, List.length_nil, List.length_cons, Nat.reduceAdd, Nat.reduceLeDiff, Nat.zero_le, Option.toList_some, Option.toList_none, List.cons_append, List.nil_append, or_true, true_or, or_false, false_or, Nat.reduceEqDiff, not_true_eq_false, not_false_eq_true, false_and, and_false, false_implies, true_implies, implies_true, ne_eq, and_self, ok1, d1, d2, nI_leE, hlt2, nI_vp, hlt, nI_clamp, h.ro hlt, z2, o1, o5 3 (by decide), o5 0 (by decide), nI_le0]
    have nx : (0 < wF w i 3 → v ≠ nI (wF w i 0)) → WP m_X5_standingWith Q 43 [.ref T, .int v, .ref (T + 3), .int (nI 17), .int (nI i), .ref (T + 22 + 3 * i)] [] g := fun hn => by
      simp only [e_X5_standingWith_43, e_X5_standingWith_46, tand, true_and, and_true, nl1_int, nl1_ref, nl1_null, nl1_ra, cat1_int, cat1_ref, cat1_null, stbs_nil, stbs_cons, stb_int, stb_long, stb_ref, stb_null, stb_ra, alv_nil, alv_cons, alv1_int, alv1_ref, alv1_null, alv1_ra, List.length_nil, List.length_cons, Nat.reduceAdd, Nat.reduceLeDiff, Nat.zero_le, Option.toList_some, Option.toList_none, List.cons_append, List.nil_append, or_true, true_or, or_false, false_or, Nat.reduceEqDiff, not_true_eq_false, not_false_eq_true, false_and, and_false, false_implies, true_implies, implies_true, ne_eq, and_self, ok1, nI_add]
      refine ih (i + 1) (by omega) fun j hj => ?_
      by_cases hji : j = i
      · rw [hji]; exact hn
      · exact hz j (by omega)
    refine ⟨fun h0 => nx fun h1 => by omega, fun h0 => ⟨fun h1 => nx fun _ e => h1 e.symm, fun h1 => q i hlt (by omega) (Decidable.not_not.mp h1).symm⟩⟩
theorem c_standingWith {v : Int32} (h : TRw g T w) (hB : TB w) (q : ∀ i, i < 17 → 0 < wF w i 3 → v = nI (wF w i 0) → Q (some (.ref (T + 22 + 3 * i))) g) (q2 : (∀ i, i < 17 → 0 < wF w i 3 → v ≠ nI (wF w i 0)) → Q (some .null) g) : w_X5_standingWith [.ref T, .int v] g Q := by
  refine wm_at rfl ⟨trivial, trivial, trivial⟩ (show WP m_X5_standingWith Q 0 [.ref T, .int v, .retAddr 0, .retAddr 0, .retAddr 0, .retAddr 0] [] g from ?_)
  obtain ⟨⟨a1, a2, a3, a4⟩, ⟨b1, b2⟩, ⟨c1, c2⟩, ⟨d1, d2⟩⟩ := h.pl
  have z : T + 3 ≠ 0 := by omega
  simp (disch := omega) only [e_X5_standingWith_0, e_X5_standingWith_1, e_X5_standingWith_4, e_X5_standingWith_4n, e_X5_standingWith_5, e_X5_standingWith_5n, e_X5_standingWith_6, e_X5_standingWith_7, e_X5_standingWith_8, e_X5_standingWith_9, tand, true_and, and_true, nl1_int, nl1_ref, nl1_null, nl1_ra, cat1_int, cat1_ref, cat1_null, stbs_nil, stbs_cons, stb_int, stb_long, stb_ref, stb_null, stb_ra, alv_nil, alv_cons, alv1_int, alv1_ref, alv1_null, alv1_ra, List.length_nil, List.length_cons, Nat.reduceAdd, Nat.reduceLeDiff, Nat.zero_le, Option.toList_some, Option.toList_none, List.cons_append, List.nil_append, or_true, true_or, or_false, false_or, Nat.reduceEqDiff, not_true_eq_false, not_false_eq_true, false_and, and_false, false_implies, true_implies, implies_true, ne_eq, and_self, ok1, a1, a4, d1, d2, z]
  exact with_loop h hB q q2 17 0 rfl fun j hj => absurd hj (Nat.not_lt_zero j)
theorem better_loop {i : Nat} (hi : i < 17) (h : TRw g T w) (hB : TB w) (q : Q (some (.int (nI (sm (fun j => nB (stF w (wF w i 1) j && beF w j i)) 17)))) g) : ∀ (k j : Nat) {l6 : Value}, stb g l6 = True → j + k = 17 → WP m_X5_betterThan Q 14 [.ref T, .ref (T + 22 + 3 * i), .int (nI (sm (fun j => nB (stF w (wF w i 1) j && beF w j i)) j)), .ref (T + 3), .int (nI 17), .int (nI j), l6] [] g := by
  obtain ⟨⟨a1, a2, a3, a4⟩, ⟨b1, b2⟩, ⟨c1, c2⟩, ⟨d1, d2⟩⟩ := h.pl
  obtain ⟨⟨p1, p2⟩, ⟨p3, p4⟩, p5⟩ := h.o hi
  intro k
  induction k with
  | zero =>
    intro j l6 hl6 hj
    have hi2 : j = 17 := by omega
    subst hi2
    simp (disch := omega) only [e_X5_betterThan_14, e_X5_betterThan_16, e_X5_betterThan_18, e_X5_betterThan_57, e_X5_betterThan_58, tand, true_and, and_true, nl1_int, nl1_ref, nl1_null, nl1_ra, cat1_int, cat1_ref, cat1_null, stbs_nil, stbs_cons, stb_int, stb_long, stb_ref, stb_null, stb_ra, alv_nil, alv_cons, alv1_int, alv1_ref, alv1_null, alv1_ra, List.length_nil, List.length_cons, Nat.reduceAdd, Nat.reduceLeDiff, Nat.zero_le, Option.toList_some, Option.toList_none, List.cons_append, List.nil_append, or_true, true_or, or_false, false_or, Nat.reduceEqDiff, not_true_eq_false, not_false_eq_true, false_and, and_false, false_implies, true_implies, implies_true, ne_eq, and_self, ok1, nI_leE]
    exact q
  | succ k ih =>
    intro j l6 hl6 hj
    have hlt : j < 17 := by omega
    have hlt2 : ¬ 17 ≤ j := by omega
    have z2 : T + 22 + 3 * j ≠ 0 := by omega
    obtain ⟨⟨o1, o2⟩, ⟨o3, o4⟩, o5⟩ := h.o hlt
    have e : sm (fun j => nB (stF w (wF w i 1) j && beF w j i)) (j + 1) = sm (fun j => nB (stF w (wF w i 1) j && beF w j i)) j + nB (stF w (wF w i 1) j && beF w j i) := rfl
    have ih1 := ih (j + 1) (l6 := .ref (T + 22 + 3 * j)) (stb_k o1 (by decide) (by decide)) (by omega)
    rw [e] at ih1
    simp (disch := omega) only [e_X5_betterThan_14, e_X5_betterThan_16, e_X5_betterThan_18, e_X5_betterThan_21, e_X5_betterThan_21n, e_X5_betterThan_22, e_X5_betterThan_24, e_X5_betterThan_25, e_X5_betterThan_25n, e_X5_betterThan_27, e_X5_betterThan_27n, e_X5_betterThan_29, e_X5_betterThan_29n, e_X5_betterThan_30, e_X5_betterThan_33, tand, true_and, and_true, nl1_int, nl1_ref, nl1_null, nl1_ra, cat1_int, cat1_ref, cat1_null, stbs_nil, stbs_cons, stb_int, stb_long, stb_ref, stb_null, stb_ra, alv_nil, alv_cons, alv1_int, alv1_ref, alv1_null, alv1_ra, List.length_nil, List.length_cons, Nat.reduceAdd, Nat.reduceLeDiff, Nat.zero_le, Option.toList_some, Option.toList_none, List.cons_append, List.nil_append, or_true, true_or, or_false, false_or, Nat.reduceEqDiff, not_true_eq_false, not_false_eq_true, false_and, and_false, false_implies, true_implies, implies_true, ne_eq, and_self, ok1, d1, d2, nI_leE, hlt2, nI_vp, hlt, nI_clamp, h.ro hlt, z2, o1, p1, p5 1 (by decide), a1]
    refine c_standsAs h hlt hB (h.b1 hi) ?_
    by_cases h1 : stF w (wF w i 1) j = true
    · rw [h1] at ih1 ⊢
      have n1 : nI (nB true) ≠ 0 := by decide
      simp (disch := omega) only [e_X5_betterThan_36, e_X5_betterThan_39, e_X5_betterThan_39n, e_X5_betterThan_41, e_X5_betterThan_41n, e_X5_betterThan_42, tand, true_and, and_true, nl1_int, nl1_ref, nl1_null, nl1_ra, cat1_int, cat1_ref, cat1_null, stbs_nil, stbs_cons, stb_int, stb_long, stb_ref, stb_null, stb_ra, alv_nil, alv_cons, alv1_int, alv1_ref, alv1_null, alv1_ra, List.length_nil, List.length_cons, Nat.reduceAdd, Nat.reduceLeDiff, Nat.zero_le, Option.toList_some, Option.toList_none, List.cons_append, List.nil_append, or_true, true_or, or_false, false_or, Nat.reduceEqDiff, not_true_eq_false, not_false_eq_true, false_and, and_false, false_implies, true_implies, implies_true, ne_eq, and_self, ok1, d1, d2, o1, p1, a1, n1]
      refine c_isBetterThan h hlt hi hB ?_
      by_cases h2 : beF w j i = true
      · rw [h2] at ih1 ⊢
        simp only [e_X5_betterThan_45, e_X5_betterThan_48, e_X5_betterThan_51, e_X5_betterThan_54, tand, true_and, and_true, nl1_int, nl1_ref, nl1_null, nl1_ra, cat1_int, cat1_ref, cat1_null, stbs_nil, stbs_cons, stb_int, stb_long, stb_ref, stb_null, stb_ra, alv_nil, alv_cons, alv1_int, alv1_ref, alv1_null, alv1_ra, List.length_nil, List.length_cons, Nat.reduceAdd, Nat.reduceLeDiff, Nat.zero_le, Option.toList_some, Option.toList_none, List.cons_append, List.nil_append, or_true, true_or, or_false, false_or, Nat.reduceEqDiff, not_true_eq_false, not_false_eq_true, false_and, and_false, false_implies, true_implies, implies_true, ne_eq, and_self, ok1, n1, nI_add]
        exact ih1
      · have h2' : beF w j i = false := by simpa using h2
        rw [h2'] at ih1 ⊢
        have n0 : nI (nB false) = 0 := by decide
        simp only [e_X5_betterThan_45, e_X5_betterThan_48, e_X5_betterThan_51, e_X5_betterThan_54, tand, true_and, and_true, nl1_int, nl1_ref, nl1_null, nl1_ra, cat1_int, cat1_ref, cat1_null, stbs_nil, stbs_cons, stb_int, stb_long, stb_ref, stb_null, stb_ra, alv_nil, alv_cons, alv1_int, alv1_ref, alv1_null, alv1_ra, List.length_nil, List.length_cons, Nat.reduceAdd, Nat.reduceLeDiff, Nat.zero_le, Option.toList_some, Option.toList_none, List.cons_append, List.nil_append, or_true, true_or, or_false, false_or, Nat.reduceEqDiff, not_true_eq_false, not_false_eq_true, false_and, and_false, false_implies, true_implies, implies_true, ne_eq, and_self, ok1, n0, nI_add]
        exact ih1
    · have h1' : stF w (wF w i 1) j = false := by simpa using h1
      rw [h1'] at ih1 ⊢
      have n0 : nI (nB false) = 0 := by decide
      simp only [e_X5_betterThan_36, e_X5_betterThan_51, e_X5_betterThan_54, tand, true_and, and_true, nl1_int, nl1_ref, nl1_null, nl1_ra, cat1_int, cat1_ref, cat1_null, stbs_nil, stbs_cons, stb_int, stb_long, stb_ref, stb_null, stb_ra, alv_nil, alv_cons, alv1_int, alv1_ref, alv1_null, alv1_ra, List.length_nil, List.length_cons, Nat.reduceAdd, Nat.reduceLeDiff, Nat.zero_le, Option.toList_some, Option.toList_none, List.cons_append, List.nil_append, or_true, true_or, or_false, false_or, Nat.reduceEqDiff, not_true_eq_false, not_false_eq_true, false_and, and_false, false_implies, true_implies, implies_true, ne_eq, and_self, ok1, n0, nI_add]
      exact ih1
theorem c_betterThan {i : Nat} (hi : i < 17) (h : TRw g T w) (hB : TB w) (q : Q (some (.int (nI (sm (fun j => nB (stF w (wF w i 1) j && beF w j i)) 17)))) g) : w_X5_betterThan [.ref T, .ref (T + 22 + 3 * i)] g Q := by
  refine wm_at rfl ⟨trivial, trivial, trivial⟩ (show WP m_X5_betterThan Q 0 [.ref T, .ref (T + 22 + 3 * i), .retAddr 0, .retAddr 0, .retAddr 0, .retAddr 0, .retAddr 0] [] g from ?_)
  obtain ⟨⟨a1, a2, a3, a4⟩, ⟨b1, b2⟩, ⟨c1, c2⟩, ⟨d1, d2⟩⟩ := h.pl
  have z : T + 3 ≠ 0 := by omega
  simp (disch := omega) only [e_X5_betterThan_0, e_X5_betterThan_1, e_X5_betterThan_2, e_X5_betterThan_3, e_X5_betterThan_6, e_X5_betterThan_6n, e_X5_betterThan_7, e_X5_betterThan_7n, e_X5_betterThan_8, e_X5_betterThan_9, e_X5_betterThan_11, e_X5_betterThan_12, tand, true_and, and_true, nl1_int, nl1_ref, nl1_null, nl1_ra, cat1_int, cat1_ref, cat1_null, stbs_nil, stbs_cons, stb_int, stb_long, stb_ref, stb_null, stb_ra, alv_nil, alv_cons, alv1_int, alv1_ref, alv1_null, alv1_ra, List.length_nil, List.length_cons, Nat.reduceAdd, Nat.reduceLeDiff, Nat.zero_le, Option.toList_some, Option.toList_none, List.cons_append, List.nil_append, or_true, true_or, or_false, false_or, Nat.reduceEqDiff, not_true_eq_false, not_false_eq_true, false_and, and_false, false_implies, true_implies, implies_true, ne_eq, and_self, ok1, a1, a4, d1, d2, z]
  exact better_loop hi h hB q 17 0 rfl rfl
end Ask
