/-! ===== what a town is asked, 2 ===== -/
/-- better than others of its side -/
def btN (w : Rw) (i : Nat) : Nat := sm (fun j => nB (stF w (wF w i 1) j && beF w j i)) 17
/-- the best of the first n places -/
def bsF (w : Rw) (b : Nat) : Nat → Option Nat
  | 0 => none
  | n + 1 => if stF w b n then (match bsF w b n with
    | none => some n
    | some m => if beF w n m then some n else some m) else bsF w b n
theorem bsF_lt {w : Rw} {b : Nat} : ∀ (n : Nat) {m : Nat}, bsF w b n = some m → m < n ∧ stF w b m = true
  | 0, m, h => by simp [bsF] at h
  | n + 1, m, h => by
    unfold bsF at h
    by_cases h1 : stF w b n = true
    · rw [if_pos h1] at h
      cases h2 : bsF w b n with
      | none =>
        rw [h2] at h
        have : n = m := by simpa using h
        exact ⟨by omega, by rw [← this]; exact h1⟩
      | some m' =>
        rw [h2] at h
        have h3 := bsF_lt n h2
        by_cases h4 : beF w n m' = true
        · have : n = m := by simpa [h4] using h
          exact ⟨by omega, by rw [← this]; exact h1⟩
        · have : m' = m := by simpa [h4] using h
          exact ⟨by omega, by rw [← this]; exact h3.2⟩
    · rw [if_neg h1] at h
      have h3 := bsF_lt n h
      exact ⟨by omega, h3.2⟩
def oV (T : Nat) : Option Nat → Value
  | none => .null
  | some i => .ref (T + 22 + 3 * i)
section Ask2
variable {g : mG} {T : Nat} {w : Rw} {Q : mQ}
theorem nB1 : (nI (nB true) = 0) = False := by simp [show nI (nB true) ≠ 0 by decide]
theorem nB0 : (nI (nB false) = 0) = True := by simp [show nI (nB false) = 0 by decide]
theorem ranked_loop {b : Nat} {v : Int32} (hb : b ≤ 1) (h : TRw g T w) (hB : TB w) (q : ∀ i, i < 17 → stF w b i = true → v = nI (btN w i) → Q (some (.ref (T + 22 + 3 * i))) g) (q2 : (∀ i, i < 17 → stF w b i = true → v ≠ nI (btN w i)) → Q (some .null) g) : ∀ (k j : Nat) {l6 : Value}, stb g l6 = True → j + k = 17 → (∀ i, i < j → stF w b i = true → v ≠ nI (btN w i)) → WP m_X5_ranked Q 12 [.ref T, .int (nI b), .int v, .ref (T + 3), .int (nI 17), .int (nI j), l6] [] g := by
  obtain ⟨⟨a1, a2, a3, a4⟩, ⟨b1, b2⟩, ⟨c1, c2⟩, ⟨d1, d2⟩⟩ := h.pl
  intro k
  induction k with
  | zero =>
    intro j l6 hl6 hj hz
    have hi2 : j = 17 := by omega
    subst hi2
    simp (disch := omega) only [e_X5_ranked_12, e_X5_ranked_14, e_X5_ranked_16, e_X5_ranked_53, e_X5_ranked_54, e_X5_ranked_54n, tand, true_and, and_true, nl1_int, nl1_ref, nl1_null, nl1_ra, cat1_int, cat1_ref, cat1_null, stbs_nil, stbs_cons, stb_int, stb_long, stb_ref, stb_null, stb_ra, alv_nil, alv_cons, alv1_int, alv1_ref, alv1_null, alv1_ra, List.length_nil, List.length_cons, Nat.reduceAdd, Nat.reduceLeDiff, Nat.zero_le, Option.toList_some, Option.toList_none, List.cons_append, List.nil_append, or_true, true_or, or_false, false_or, Nat.reduceEqDiff, not_true_eq_false, not_false_eq_true, false_and, and_false, false_implies, true_implies, implies_true, ne_eq, and_self, ok1, nI_leE]
    exact q2 hz
  | succ k ih =>
    intro j l6 hl6 hj hz
    have hlt : j < 17 := by omega
    have hlt2 : ¬ 17 ≤ j := by omega
    have z2 : T + 22 + 3 * j ≠ 0 := by omega
    obtain ⟨⟨o1, o2⟩, ⟨o3, o4⟩, o5⟩ := h.o hlt
    have so : stb g (.ref (T + 22 + 3 * j)) = True := stb_k o1 (by decide) (by decide)
    have nx : (stF w b j = true → v ≠ nI (btN w j)) → WP m_X5_ranked Q 47 [.ref T, .int (nI b), .int v, .ref (T + 3), .int (nI 17), .int (nI j), .ref (T + 22 + 3 * j)] [] g := fun hn => by
      simp only [e_X5_ranked_47, e_X5_ranked_50, tand, true_and, and_true, nl1_int, nl1_ref, nl1_null, nl1_ra, cat1_int, cat1_ref, cat1_null, stbs_nil, stbs_cons, stb_int, stb_long, stb_ref, stb_null, stb_ra, alv_nil, alv_cons, alv1_int, alv1_ref, alv1_null, alv1_ra, List.length_nil, List.length_cons, Nat.reduceAdd, Nat.reduceLeDiff, Nat.zero_le, Option.toList_some, Option.toList_none, List.cons_append, List.nil_append, or_true, true_or, or_false, false_or, Nat.reduceEqDiff, not_true_eq_false, not_false_eq_true, false_and, and_false, false_implies, true_implies, implies_true, ne_eq, and_self, ok1, nI_add]
      refine ih (j + 1) so (by omega) fun i hi => ?_
      by_cases hji : i = j
      · rw [hji]; exact hn
      · exact hz i (by omega)
    simp (disch := omega) only [e_X5_ranked_12, e_X5_ranked_14, e_X5_ranked_16, e_X5_ranked_19, e_X5_ranked_19n, e_X5_ranked_20, e_X5_ranked_22, e_X5_ranked_23, e_X5_ranked_23n, e_X5_ranked_25, e_X5_ranked_25n, e_X5_ranked_27, e_X5_ranked_28, tand, true_and, and_true, nl1_int, nl1_ref, nl1_null, nl1_ra, cat1_int, cat1_ref, cat1_null, stbs_nil, stbs_cons, stb_int, stb_long, stb_ref, stb_null, stb_ra, alv_nil, alv_cons, alv1_int, alv1_ref, alv1_null, alv1_ra, List.length_nil, List.length_cons, Nat.reduceAdd, Nat.reduceLeDiff, Nat.zero_le, Option.toList_some, Option.toList_none, List.cons_append, List.nil_append, or_true, true_or, or_false, false_or, Nat.reduceEqDiff, not_true_eq_false, not_false_eq_true, false_and, and_false, false_implies, true_implies, implies_true, ne_eq, and_self, ok1, d1, d2, nI_leE, hlt2, nI_vp, hlt, nI_clamp, h.ro hlt, z2, o1, a1]
    refine c_standsAs h hlt hB hb ?_
    by_cases h1 : stF w b j = true
    · rw [h1]
      simp (disch := omega) only [e_X5_ranked_31, e_X5_ranked_34, e_X5_ranked_35, e_X5_ranked_35n, e_X5_ranked_37, tand, true_and, and_true, nl1_int, nl1_ref, nl1_null, nl1_ra, cat1_int, cat1_ref, cat1_null, stbs_nil, stbs_cons, stb_int, stb_long, stb_ref, stb_null, stb_ra, alv_nil, alv_cons, alv1_int, alv1_ref, alv1_null, alv1_ra, List.length_nil, List.length_cons, Nat.reduceAdd, Nat.reduceLeDiff, Nat.zero_le, Option.toList_some, Option.toList_none, List.cons_append, List.nil_append, or_true, true_or, or_false, false_or, Nat.reduceEqDiff, not_true_eq_false, not_false_eq_true, false_and, and_false, false_implies, true_implies, implies_true, ne_eq, and_self, ok1, nB1, a1, d1, o1]
      refine c_betterThan hlt h hB ?_
      simp only [e_X5_ranked_40, e_X5_ranked_41, tand, true_and, and_true, nl1_int, nl1_ref, nl1_null, nl1_ra, cat1_int, cat1_ref, cat1_null, stbs_nil, stbs_cons, stb_int, stb_long, stb_ref, stb_null, stb_ra, alv_nil, alv_cons, alv1_int, alv1_ref, alv1_null, alv1_ra, List.length_nil, List.length_cons, Nat.reduceAdd, Nat.reduceLeDiff, Nat.zero_le, Option.toList_some, Option.toList_none, List.cons_append, List.nil_append, or_true, true_or, or_false, false_or, Nat.reduceEqDiff, not_true_eq_false, not_false_eq_true, false_and, and_false, false_implies, true_implies, implies_true, ne_eq, and_self, ok1]
      refine ⟨fun h2 => nx fun _ e => h2 e.symm, fun h2 => ?_⟩
      simp only [e_X5_ranked_44, e_X5_ranked_44n, e_X5_ranked_46, e_X5_ranked_46n, tand, true_and, and_true, nl1_int, nl1_ref, nl1_null, nl1_ra, cat1_int, cat1_ref, cat1_null, stbs_nil, stbs_cons, stb_int, stb_long, stb_ref, stb_null, stb_ra, alv_nil, alv_cons, alv1_int, alv1_ref, alv1_null, alv1_ra, List.length_nil, List.length_cons, Nat.reduceAdd, Nat.reduceLeDiff, Nat.zero_le, Option.toList_some, Option.toList_none, List.cons_append, List.nil_append, or_true, true_or, or_false, false_or, Nat.reduceEqDiff, not_true_eq_false, not_false_eq_true, false_and, and_false, false_implies, true_implies, implies_true, ne_eq, and_self, ok1]
      exact q j hlt h1 (Decidable.not_not.mp h2).symm
    · have h1' : stF w b j = false := by simpa using h1
      rw [h1']
      simp (disch := omega) only [e_X5_ranked_31, tand, true_and, and_true, nl1_int, nl1_ref, nl1_null, nl1_ra, cat1_int, cat1_ref, cat1_null, stbs_nil, stbs_cons, stb_int, stb_long, stb_ref, stb_null, stb_ra, alv_nil, alv_cons, alv1_int, alv1_ref, alv1_null, alv1_ra, List.length_nil, List.length_cons, Nat.reduceAdd, Nat.reduceLeDiff, Nat.zero_le, Option.toList_some, Option.toList_none, List.cons_append, List.nil_append, or_true, true_or, or_false, false_or, Nat.reduceEqDiff, not_true_eq_false, not_false_eq_true, false_and, and_false, false_implies, true_implies, implies_true, ne_eq, and_self, ok1, nB0]
      exact nx fun z => absurd z h1
theorem c_ranked {b : Nat} {v : Int32} (hb : b ≤ 1) (h : TRw g T w) (hB : TB w) (q : ∀ i, i < 17 → stF w b i = true → v = nI (btN w i) → Q (some (.ref (T + 22 + 3 * i))) g) (q2 : (∀ i, i < 17 → stF w b i = true → v ≠ nI (btN w i)) → Q (some .null) g) : w_X5_ranked [.ref T, .int (nI b), .int v] g Q := by
  refine wm_at rfl ⟨trivial, trivial, trivial, trivial⟩ (show WP m_X5_ranked Q 0 [.ref T, .int (nI b), .int v, .retAddr 0, .retAddr 0, .retAddr 0, .retAddr 0] [] g from ?_)
  obtain ⟨⟨a1, a2, a3, a4⟩, ⟨b1, b2⟩, ⟨c1, c2⟩, ⟨d1, d2⟩⟩ := h.pl
  have z : T + 3 ≠ 0 := by omega
  simp (disch := omega) only [e_X5_ranked_0, e_X5_ranked_1, e_X5_ranked_4, e_X5_ranked_4n, e_X5_ranked_5, e_X5_ranked_5n, e_X5_ranked_6, e_X5_ranked_7, e_X5_ranked_9, e_X5_ranked_10, tand, true_and, and_true, nl1_int, nl1_ref, nl1_null, nl1_ra, cat1_int, cat1_ref, cat1_null, stbs_nil, stbs_cons, stb_int, stb_long, stb_ref, stb_null, stb_ra, alv_nil, alv_cons, alv1_int, alv1_ref, alv1_null, alv1_ra, List.length_nil, List.length_cons, Nat.reduceAdd, Nat.reduceLeDiff, Nat.zero_le, Option.toList_some, Option.toList_none, List.cons_append, List.nil_append, or_true, true_or, or_false, false_or, Nat.reduceEqDiff, not_true_eq_false, not_false_eq_true, false_and, and_false, false_implies, true_implies, implies_true, ne_eq, and_self, ok1, a1, a4, d1, d2, z]
  exact ranked_loop hb h hB q q2 17 0 rfl rfl fun j hj => absurd hj (Nat.not_lt_zero j)
theorem best_loop {b : Nat} (hb : b ≤ 1) (h : TRw g T w) (hB : TB w) (q : Q (some (oV T (bsF w b 17))) g) : ∀ (k j : Nat) {l6 : Value}, stb g l6 = True → j + k = 17 → WP m_X5_bestOf Q 14 [.ref T, .int (nI b), oV T (bsF w b j), .ref (T + 3), .int (nI 17), .int (nI j), l6] [] g := by
  obtain ⟨⟨a1, a2, a3, a4⟩, ⟨b1, b2⟩, ⟨c1, c2⟩, ⟨d1, d2⟩⟩ := h.pl
  intro k
  induction k with
  | zero =>
    intro j l6 hl6 hj
    have hi2 : j = 17 := by omega
    subst hi2
    simp (disch := omega) only [e_X5_bestOf_14, e_X5_bestOf_16, e_X5_bestOf_18, tand, true_and, and_true, nl1_int, nl1_ref, nl1_null, nl1_ra, cat1_int, cat1_ref, cat1_null, stbs_nil, stbs_cons, stb_int, stb_long, stb_ref, stb_null, stb_ra, alv_nil, alv_cons, alv1_int, alv1_ref, alv1_null, alv1_ra, List.length_nil, List.length_cons, Nat.reduceAdd, Nat.reduceLeDiff, Nat.zero_le, Option.toList_some, Option.toList_none, List.cons_append, List.nil_append, or_true, true_or, or_false, false_or, Nat.reduceEqDiff, not_true_eq_false, not_false_eq_true, false_and, and_false, false_implies, true_implies, implies_true, ne_eq, and_self, ok1, nI_leE]
    cases h1 : bsF w b 17 with
    | none =>
      rw [h1] at q
      simp only [oV] at q ⊢
      simp only [e_X5_bestOf_58, e_X5_bestOf_58n, e_X5_bestOf_59, e_X5_bestOf_59n, tand, true_and, and_true, nl1_int, nl1_ref, nl1_null, nl1_ra, cat1_int, cat1_ref, cat1_null, stbs_nil, stbs_cons, stb_int, stb_long, stb_ref, stb_null, stb_ra, alv_nil, alv_cons, alv1_int, alv1_ref, alv1_null, alv1_ra, List.length_nil, List.length_cons, Nat.reduceAdd, Nat.reduceLeDiff, Nat.zero_le, Option.toList_some, Option.toList_none, List.cons_append, List.nil_append, or_true, true_or, or_false, false_or, Nat.reduceEqDiff, not_true_eq_false, not_false_eq_true, false_and, and_false, false_implies, true_implies, implies_true, ne_eq, and_self, ok1]
      exact q
    | some m =>
      rw [h1] at q
      simp only [oV] at q ⊢
      simp only [e_X5_bestOf_58, e_X5_bestOf_58n, e_X5_bestOf_59, e_X5_bestOf_59n, tand, true_and, and_true, nl1_int, nl1_ref, nl1_null, nl1_ra, cat1_int, cat1_ref, cat1_null, stbs_nil, stbs_cons, stb_int, stb_long, stb_ref, stb_null, stb_ra, alv_nil, alv_cons, alv1_int, alv1_ref, alv1_null, alv1_ra, List.length_nil, List.length_cons, Nat.reduceAdd, Nat.reduceLeDiff, Nat.zero_le, Option.toList_some, Option.toList_none, List.cons_append, List.nil_append, or_true, true_or, or_false, false_or, Nat.reduceEqDiff, not_true_eq_false, not_false_eq_true, false_and, and_false, false_implies, true_implies, implies_true, ne_eq, and_self, ok1]
      exact q
  | succ k ih =>
    intro j l6 hl6 hj
    have hlt : j < 17 := by omega
    have hlt2 : ¬ 17 ≤ j := by omega
    have z2 : T + 22 + 3 * j ≠ 0 := by omega
    obtain ⟨⟨o1, o2⟩, ⟨o3, o4⟩, o5⟩ := h.o hlt
    have so : stb g (.ref (T + 22 + 3 * j)) = True := stb_k o1 (by decide) (by decide)
    have sv : stb g (oV T (bsF w b j)) = True := by
      cases h1 : bsF w b j with
      | none => rfl
      | some m => exact stb_k (h.o (show m < 17 by have := (bsF_lt _ h1).1; omega)).1.1 (by decide) (by decide)
    have ih1 := ih (j + 1) so (by omega)
    have e : bsF w b (j + 1) = if stF w b j then (match bsF w b j with
      | none => some j
      | some m => if beF w j m then some j else some m) else bsF w b j := rfl
    rw [e] at ih1
    simp (disch := omega) only [e_X5_bestOf_14, e_X5_bestOf_16, e_X5_bestOf_18, e_X5_bestOf_21, e_X5_bestOf_21n, e_X5_bestOf_22, e_X5_bestOf_24, e_X5_bestOf_25, e_X5_bestOf_25n, e_X5_bestOf_27, e_X5_bestOf_27n, e_X5_bestOf_29, e_X5_bestOf_30, tand, true_and, and_true, nl1_int, nl1_ref, nl1_null, nl1_ra, cat1_int, cat1_ref, cat1_null, stbs_nil, stbs_cons, stb_int, stb_long, stb_ref, stb_null, stb_ra, alv_nil, alv_cons, alv1_int, alv1_ref, alv1_null, alv1_ra, List.length_nil, List.length_cons, Nat.reduceAdd, Nat.reduceLeDiff, Nat.zero_le, Option.toList_some, Option.toList_none, List.cons_append, List.nil_append, or_true, true_or, or_false, false_or, Nat.reduceEqDiff, not_true_eq_false, not_false_eq_true, false_and, and_false, false_implies, true_implies, implies_true, ne_eq, and_self, ok1, d1, d2, nI_leE, hlt2, nI_vp, hlt, nI_clamp, h.ro hlt, z2, o1, a1, sv]
    refine c_standsAs h hlt hB hb ?_
    by_cases h1 : stF w b j = true
    · rw [if_pos h1] at ih1
      rw [h1]
      cases h2 : bsF w b j with
      | none =>
        rw [h2] at ih1
        simp only [oV] at ih1 ⊢
        simp only [e_X5_bestOf_33, e_X5_bestOf_36, e_X5_bestOf_36n, e_X5_bestOf_37, e_X5_bestOf_37n, e_X5_bestOf_49, e_X5_bestOf_49n, e_X5_bestOf_51, e_X5_bestOf_51n, e_X5_bestOf_52, e_X5_bestOf_55, tand, true_and, and_true, nl1_int, nl1_ref, nl1_null, nl1_ra, cat1_int, cat1_ref, cat1_null, stbs_nil, stbs_cons, stb_int, stb_long, stb_ref, stb_null, stb_ra, alv_nil, alv_cons, alv1_int, alv1_ref, alv1_null, alv1_ra, List.length_nil, List.length_cons, Nat.reduceAdd, Nat.reduceLeDiff, Nat.zero_le, Option.toList_some, Option.toList_none, List.cons_append, List.nil_append, or_true, true_or, or_false, false_or, Nat.reduceEqDiff, not_true_eq_false, not_false_eq_true, false_and, and_false, false_implies, true_implies, implies_true, ne_eq, and_self, ok1, nB1, nI_add]
        exact ih1
      | some m =>
        have hm := (bsF_lt _ h2).1
        obtain ⟨⟨p1, p2⟩, _, _⟩ := h.o (show m < 17 by omega)
        rw [h2] at ih1
        simp only [oV] at ih1 ⊢
        simp only [e_X5_bestOf_33, e_X5_bestOf_36, e_X5_bestOf_36n, e_X5_bestOf_37, e_X5_bestOf_37n, e_X5_bestOf_40, e_X5_bestOf_40n, e_X5_bestOf_42, e_X5_bestOf_42n, e_X5_bestOf_43, tand, true_and, and_true, nl1_int, nl1_ref, nl1_null, nl1_ra, cat1_int, cat1_ref, cat1_null, stbs_nil, stbs_cons, stb_int, stb_long, stb_ref, stb_null, stb_ra, alv_nil, alv_cons, alv1_int, alv1_ref, alv1_null, alv1_ra, List.length_nil, List.length_cons, Nat.reduceAdd, Nat.reduceLeDiff, Nat.zero_le, Option.toList_some, Option.toList_none, List.cons_append, List.nil_append, or_true, true_or, or_false, false_or, Nat.reduceEqDiff, not_true_eq_false, not_false_eq_true, false_and, and_false, false_implies, true_implies, implies_true, ne_eq, and_self, ok1, nB1, o1, a1, p1, d1]
        refine c_isBetterThan h hlt (by omega) hB ?_
        by_cases h3 : beF w j m = true
        · rw [if_pos h3] at ih1
          rw [h3]
          simp only [oV] at ih1
          simp only [e_X5_bestOf_46, e_X5_bestOf_49, e_X5_bestOf_49n, e_X5_bestOf_51, e_X5_bestOf_51n, e_X5_bestOf_52, e_X5_bestOf_55, tand, true_and, and_true, nl1_int, nl1_ref, nl1_null, nl1_ra, cat1_int, cat1_ref, cat1_null, stbs_nil, stbs_cons, stb_int, stb_long, stb_ref, stb_null, stb_ra, alv_nil, alv_cons, alv1_int, alv1_ref, alv1_null, alv1_ra, List.length_nil, List.length_cons, Nat.reduceAdd, Nat.reduceLeDiff, Nat.zero_le, Option.toList_some, Option.toList_none, List.cons_append, List.nil_append, or_true, true_or, or_false, false_or, Nat.reduceEqDiff, not_true_eq_false, not_false_eq_true, false_and, and_false, false_implies, true_implies, implies_true, ne_eq, and_self, ok1, nB1, nI_add]
          exact ih1
        · rw [if_neg h3] at ih1
          rw [show beF w j m = false by simpa using h3]
          simp only [oV] at ih1
          simp only [e_X5_bestOf_46, e_X5_bestOf_52, e_X5_bestOf_55, tand, true_and, and_true, nl1_int, nl1_ref, nl1_null, nl1_ra, cat1_int, cat1_ref, cat1_null, stbs_nil, stbs_cons, stb_int, stb_long, stb_ref, stb_null, stb_ra, alv_nil, alv_cons, alv1_int, alv1_ref, alv1_null, alv1_ra, List.length_nil, List.length_cons, Nat.reduceAdd, Nat.reduceLeDiff, Nat.zero_le, Option.toList_some, Option.toList_none, List.cons_append, List.nil_append, or_true, true_or, or_false, false_or, Nat.reduceEqDiff, not_true_eq_false, not_false_eq_true, false_and, and_false, false_implies, true_implies, implies_true, ne_eq, and_self, ok1, nB0, nI_add]
          exact ih1
    · rw [if_neg h1] at ih1
      rw [show stF w b j = false by simpa using h1]
      simp only [e_X5_bestOf_33, e_X5_bestOf_52, e_X5_bestOf_55, tand, true_and, and_true, nl1_int, nl1_ref, nl1_null, nl1_ra, cat1_int, cat1_ref, cat1_null, stbs_nil, stbs_cons, stb_int, stb_long, stb_ref, stb_null, stb_ra, alv_nil, alv_cons, alv1_int, alv1_ref, alv1_null, alv1_ra, List.length_nil, List.length_cons, Nat.reduceAdd, Nat.reduceLeDiff, Nat.zero_le, Option.toList_some, Option.toList_none, List.cons_append, List.nil_append, or_true, true_or, or_false, false_or, Nat.reduceEqDiff, not_true_eq_false, not_false_eq_true, false_and, and_false, false_implies, true_implies, implies_true, ne_eq, and_self, ok1, nB0, nI_add]
      exact ih1
theorem c_bestOf {b : Nat} (hb : b ≤ 1) (h : TRw g T w) (hB : TB w) (q : Q (some (oV T (bsF w b 17))) g) : w_X5_bestOf [.ref T, .int (nI b)] g Q := by
  refine wm_at rfl ⟨trivial, trivial, trivial⟩ (show WP m_X5_bestOf Q 0 [.ref T, .int (nI b), .retAddr 0, .retAddr 0, .retAddr 0, .retAddr 0, .retAddr 0] [] g from ?_)
  obtain ⟨⟨a1, a2, a3, a4⟩, ⟨b1, b2⟩, ⟨c1, c2⟩, ⟨d1, d2⟩⟩ := h.pl
  have z : T + 3 ≠ 0 := by omega
  simp (disch := omega) only [e_X5_bestOf_0, e_X5_bestOf_1, e_X5_bestOf_1n, e_X5_bestOf_2, e_X5_bestOf_3, e_X5_bestOf_6, e_X5_bestOf_6n, e_X5_bestOf_7, e_X5_bestOf_7n, e_X5_bestOf_8, e_X5_bestOf_9, e_X5_bestOf_11, e_X5_bestOf_12, tand, true_and, and_true, nl1_int, nl1_ref, nl1_null, nl1_ra, cat1_int, cat1_ref, cat1_null, stbs_nil, stbs_cons, stb_int, stb_long, stb_ref, stb_null, stb_ra, alv_nil, alv_cons, alv1_int, alv1_ref, alv1_null, alv1_ra, List.length_nil, List.length_cons, Nat.reduceAdd, Nat.reduceLeDiff, Nat.zero_le, Option.toList_some, Option.toList_none, List.cons_append, List.nil_append, or_true, true_or, or_false, false_or, Nat.reduceEqDiff, not_true_eq_false, not_false_eq_true, false_and, and_false, false_implies, true_implies, implies_true, ne_eq, and_self, ok1, a1, a4, d1, d2, z]
  exact best_loop hb h hB q 17 0 rfl rfl
def acN (w : Rw) (n : Nat) : Nat := sm (fun k => wK w k 0 + sm (fun i => if wF w i 2 = k then hbF w i else 0) 17) n
def apN (w : Rw) (n : Nat) : Nat := sm (fun k => rt (wP w k) + sm (fun i => if wF w i 2 = k then rt (wO w i) else 0) 17) n
theorem coins_loop (h : TRw g T w) (hB : TB w) (q : Q (some (.int (nI (acN w 6)))) g) : ∀ (k j : Nat), j + k = 6 → WP m_X5_allCoins Q 4 [.ref T, .int (nI (acN w j)), .int (nI j)] [] g := by
  obtain ⟨⟨a1, a2, a3, a4⟩, ⟨b1, b2⟩, ⟨c1, c2⟩, ⟨d1, d2⟩⟩ := h.pl
  have z : T + 2 ≠ 0 := by omega
  intro k
  induction k with
  | zero =>
    intro j hj
    have hi2 : j = 6 := by omega
    subst hi2
    simp (disch := omega) only [e_X5_allCoins_4, e_X5_allCoins_5, e_X5_allCoins_6, e_X5_allCoins_9, e_X5_allCoins_10, e_X5_allCoins_37, e_X5_allCoins_38, tand, true_and, and_true, nl1_int, nl1_ref, nl1_null, nl1_ra, cat1_int, cat1_ref, cat1_null, stbs_nil, stbs_cons, stb_int, stb_long, stb_ref, stb_null, stb_ra, alv_nil, alv_cons, alv1_int, alv1_ref, alv1_null, alv1_ra, List.length_nil, List.length_cons, Nat.reduceAdd, Nat.reduceLeDiff, Nat.zero_le, Option.toList_some, Option.toList_none, List.cons_append, List.nil_append, or_true, true_or, or_false, false_or, Nat.reduceEqDiff, not_true_eq_false, not_false_eq_true, false_and, and_false, false_implies, true_implies, implies_true, ne_eq, and_self, ok1, nI_leE, a1, a3, z, c1, c2]
    exact q
  | succ k ih =>
    intro j hj
    have hlt : j < 6 := by omega
    have hlt2 : ¬ 6 ≤ j := by omega
    have z2 : T + 4 + 3 * j ≠ 0 := by omega
    obtain ⟨⟨o1, o2⟩, ⟨o3, o4⟩, o5⟩ := h.k hlt
    simp (disch := omega) only [e_X5_allCoins_4, e_X5_allCoins_5, e_X5_allCoins_6, e_X5_allCoins_9, e_X5_allCoins_10, e_X5_allCoins_13, e_X5_allCoins_14, e_X5_allCoins_15, e_X5_allCoins_18, e_X5_allCoins_19, e_X5_allCoins_20, e_X5_allCoins_23, e_X5_allCoins_24, e_X5_allCoins_25, tand, true_and, and_true, nl1_int, nl1_ref, nl1_null, nl1_ra, cat1_int, cat1_ref, cat1_null, stbs_nil, stbs_cons, stb_int, stb_long, stb_ref, stb_null, stb_ra, alv_nil, alv_cons, alv1_int, alv1_ref, alv1_null, alv1_ra, List.length_nil, List.length_cons, Nat.reduceAdd, Nat.reduceLeDiff, Nat.zero_le, Option.toList_some, Option.toList_none, List.cons_append, List.nil_append, or_true, true_or, or_false, false_or, Nat.reduceEqDiff, not_true_eq_false, not_false_eq_true, false_and, and_false, false_implies, true_implies, implies_true, ne_eq, and_self, ok1, a1, a3, z, c1, c2, nI_leE, hlt2, nI_vp, hlt, nI_clamp, h.rk hlt, z2, o1, o5 0 (by decide)]
    refine c_heldBackBy (by omega) h hB ?_
    simp only [e_X5_allCoins_28, e_X5_allCoins_29, e_X5_allCoins_30, e_X5_allCoins_31, e_X5_allCoins_34, tand, true_and, and_true, nl1_int, nl1_ref, nl1_null, nl1_ra, cat1_int, cat1_ref, cat1_null, stbs_nil, stbs_cons, stb_int, stb_long, stb_ref, stb_null, stb_ra, alv_nil, alv_cons, alv1_int, alv1_ref, alv1_null, alv1_ra, List.length_nil, List.length_cons, Nat.reduceAdd, Nat.reduceLeDiff, Nat.zero_le, Option.toList_some, Option.toList_none, List.cons_append, List.nil_append, or_true, true_or, or_false, false_or, Nat.reduceEqDiff, not_true_eq_false, not_false_eq_true, false_and, and_false, false_implies, true_implies, implies_true, ne_eq, and_self, ok1, nI_add]
    exact ih (j + 1) (by omega)
theorem c_allCoins (h : TRw g T w) (hB : TB w) (q : Q (some (.int (nI (acN w 6)))) g) : w_X5_allCoins [.ref T] g Q := by
  refine wm_at rfl ⟨trivial, trivial⟩ (show WP m_X5_allCoins Q 0 [.ref T, .retAddr 0, .retAddr 0] [] g from ?_)
  simp only [e_X5_allCoins_0, e_X5_allCoins_1, e_X5_allCoins_2, e_X5_allCoins_3, tand, true_and, and_true, nl1_int, nl1_ref, nl1_null, nl1_ra, cat1_int, cat1_ref, cat1_null, stbs_nil, stbs_cons, stb_int, stb_long, stb_ref, stb_null, stb_ra, alv_nil, alv_cons, alv1_int, alv1_ref, alv1_null, alv1_ra, List.length_nil, List.length_cons, Nat.reduceAdd, Nat.reduceLeDiff, Nat.zero_le, Option.toList_some, Option.toList_none, List.cons_append, List.nil_append, or_true, true_or, or_false, false_or, Nat.reduceEqDiff, not_true_eq_false, not_false_eq_true, false_and, and_false, false_implies, true_implies, implies_true, ne_eq, and_self, ok1]
  exact coins_loop h hB q 6 0 rfl
theorem perms_loop (h : TRw g T w) (hB : TB w) (q : Q (some (.int (nI (apN w 6)))) g) : ∀ (k j : Nat), j + k = 6 → WP m_X5_allPermits Q 4 [.ref T, .int (nI (apN w j)), .int (nI j)] [] g := by
  obtain ⟨⟨a1, a2, a3, a4⟩, ⟨b1, b2⟩, ⟨c1, c2⟩, ⟨d1, d2⟩⟩ := h.pl
  have z : T + 2 ≠ 0 := by omega
  intro k
  induction k with
  | zero =>
    intro j hj
    have hi2 : j = 6 := by omega
    subst hi2
    simp (disch := omega) only [e_X5_allPermits_4, e_X5_allPermits_5, e_X5_allPermits_6, e_X5_allPermits_9, e_X5_allPermits_10, e_X5_allPermits_40, e_X5_allPermits_41, tand, true_and, and_true, nl1_int, nl1_ref, nl1_null, nl1_ra, cat1_int, cat1_ref, cat1_null, stbs_nil, stbs_cons, stb_int, stb_long, stb_ref, stb_null, stb_ra, alv_nil, alv_cons, alv1_int, alv1_ref, alv1_null, alv1_ra, List.length_nil, List.length_cons, Nat.reduceAdd, Nat.reduceLeDiff, Nat.zero_le, Option.toList_some, Option.toList_none, List.cons_append, List.nil_append, or_true, true_or, or_false, false_or, Nat.reduceEqDiff, not_true_eq_false, not_false_eq_true, false_and, and_false, false_implies, true_implies, implies_true, ne_eq, and_self, ok1, nI_leE, a1, a3, z, c1, c2]
    exact q
  | succ k ih =>
    intro j hj
    have hlt : j < 6 := by omega
    have hlt2 : ¬ 6 ≤ j := by omega
    have z2 : T + 4 + 3 * j ≠ 0 := by omega
    have z3 : T + 5 + 3 * j ≠ 0 := by omega
    obtain ⟨⟨o1, o2⟩, ⟨o3, o4⟩, o5⟩ := h.k hlt
    simp (disch := omega) only [e_X5_allPermits_4, e_X5_allPermits_5, e_X5_allPermits_6, e_X5_allPermits_9, e_X5_allPermits_10, e_X5_allPermits_13, e_X5_allPermits_14, e_X5_allPermits_15, e_X5_allPermits_18, e_X5_allPermits_19, e_X5_allPermits_20, e_X5_allPermits_23, e_X5_allPermits_26, e_X5_allPermits_27, e_X5_allPermits_28, tand, true_and, and_true, nl1_int, nl1_ref, nl1_null, nl1_ra, cat1_int, cat1_ref, cat1_null, stbs_nil, stbs_cons, stb_int, stb_long, stb_ref, stb_null, stb_ra, alv_nil, alv_cons, alv1_int, alv1_ref, alv1_null, alv1_ra, List.length_nil, List.length_cons, Nat.reduceAdd, Nat.reduceLeDiff, Nat.zero_le, Option.toList_some, Option.toList_none, List.cons_append, List.nil_append, or_true, true_or, or_false, false_or, Nat.reduceEqDiff, not_true_eq_false, not_false_eq_true, false_and, and_false, false_implies, true_implies, implies_true, ne_eq, and_self, ok1, a1, a3, z, c1, c2, nI_leE, hlt2, nI_vp, hlt, nI_clamp, h.rk hlt, z2, z3, o1, o2, o3, o4]
    refine c_offeredBy (by omega) h hB ?_
    simp only [e_X5_allPermits_31, e_X5_allPermits_32, e_X5_allPermits_33, e_X5_allPermits_34, e_X5_allPermits_37, tand, true_and, and_true, nl1_int, nl1_ref, nl1_null, nl1_ra, cat1_int, cat1_ref, cat1_null, stbs_nil, stbs_cons, stb_int, stb_long, stb_ref, stb_null, stb_ra, alv_nil, alv_cons, alv1_int, alv1_ref, alv1_null, alv1_ra, List.length_nil, List.length_cons, Nat.reduceAdd, Nat.reduceLeDiff, Nat.zero_le, Option.toList_some, Option.toList_none, List.cons_append, List.nil_append, or_true, true_or, or_false, false_or, Nat.reduceEqDiff, not_true_eq_false, not_false_eq_true, false_and, and_false, false_implies, true_implies, implies_true, ne_eq, and_self, ok1, nI_add]
    exact ih (j + 1) (by omega)
theorem c_allPermits (h : TRw g T w) (hB : TB w) (q : Q (some (.int (nI (apN w 6)))) g) : w_X5_allPermits [.ref T] g Q := by
  refine wm_at rfl ⟨trivial, trivial⟩ (show WP m_X5_allPermits Q 0 [.ref T, .retAddr 0, .retAddr 0] [] g from ?_)
  simp only [e_X5_allPermits_0, e_X5_allPermits_1, e_X5_allPermits_2, e_X5_allPermits_3, tand, true_and, and_true, nl1_int, nl1_ref, nl1_null, nl1_ra, cat1_int, cat1_ref, cat1_null, stbs_nil, stbs_cons, stb_int, stb_long, stb_ref, stb_null, stb_ra, alv_nil, alv_cons, alv1_int, alv1_ref, alv1_null, alv1_ra, List.length_nil, List.length_cons, Nat.reduceAdd, Nat.reduceLeDiff, Nat.zero_le, Option.toList_some, Option.toList_none, List.cons_append, List.nil_append, or_true, true_or, or_false, false_or, Nat.reduceEqDiff, not_true_eq_false, not_false_eq_true, false_and, and_false, false_implies, true_implies, implies_true, ne_eq, and_self, ok1]
  exact perms_loop h hB q 6 0 rfl
end Ask2
