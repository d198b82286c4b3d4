/-! ===== the main object made, 2 ===== -/
section Be2
variable {g0 : mG} {Q : mQ}
theorem kT6 {g : mG} {m c s T : Nat} (h : MM g0 g m c s) (j : Nat) (hj : j < m) (e : T = 100 * (j + 1)) : gK g T = 6 := by
  rw [e]; exact (h.2.2.1 j hj).1.1.1.1
/-- the history filled -/
def HB (g : mG) (m : Nat) : Prop := (gK g 20 = 7 ∧ gR g 20 0 = 100 ∧ gR g 20 1 = 200 ∧ gR g 20 2 = 300 ∧ gR g 20 4 = 21) ∧ gI g 20 = (fun _ => 0) ∧ (gK g 21 = 17 ∧ gN g 21 = 4) ∧ (∀ j, j < m → gR g 21 j = 400 + 100 * j) ∧ ∀ z, 22 ≤ z → z < 34 → gK g z = 0
theorem HB.nf {X : Nat → Prop} {g g' : mG} {m c s : Nat} (h : HB g m) (F : NF X g g' c s) (hX : ∀ b, 20 ≤ b → b < 34 → ¬ X b) : HB g' m := by
  obtain ⟨⟨a1, a2, a3, a4, a5⟩, b, ⟨c1, c2⟩, d, e⟩ := h
  have f20 := F.1 20 (hX 20 (by decide) (by decide))
  have f21 := F.1 21 (hX 21 (by decide) (by decide))
  have r20 := f20.2 (by decide)
  have r21 := f21.2 (by decide)
  exact ⟨⟨by rw [f20.1]; exact a1, by rw [r20.2.2]; exact a2, by rw [r20.2.2]; exact a3, by rw [r20.2.2]; exact a4, by rw [r20.2.2]; exact a5⟩, by rw [r20.2.1]; exact b, ⟨by rw [f21.1]; exact c1, by rw [r21.1]; exact c2⟩, fun j hj => by rw [r21.2.2]; exact d j hj, fun z h1 h2 => by rw [(F.1 z (hX z (by omega) h2)).1]; exact e z h1 h2⟩
theorem begin_loop (q : ∀ g', MM g0 g' 7 512 3119 → HB g' 4 → WP m_X6_init Q 75 [.ref 20, .int (nI 4)] [] g') : ∀ (k i : Nat) {g : mG}, i + k = 4 → MM g0 g (3 + i) (220 + 73 * i) (1339 + 445 * i) → HB g i → WP m_X6_init Q 47 [.ref 20, .int (nI i)] [] g := by
  intro k
  induction k with
  | zero =>
    intro i g hi hM hB
    obtain ⟨⟨a1, a2, a3, a4, a5⟩, b, ⟨c1, c2⟩, d, e⟩ := id hB
    have hi2 : i = 4 := by omega
    subst hi2
    have z : (21 : Nat) ≠ 0 := by decide
    simp (disch := omega) only [e_X6_init_47, e_X6_init_48, e_X6_init_49, e_X6_init_52, e_X6_init_53, tand, true_and, and_true, nl1_int, nl1_ref, nl1_null, nl1_ra, cat1_int, cat1_ref, cat1_null, stbs_nil, stbs_cons, stb_int, stb_long, stb_ref, stb_null, stb_ra, alv_nil, alv_cons, alv1_int, alv1_ref, alv1_null, alv1_ra, List.length_nil, List.length_cons, Nat.reduceAdd, Nat.reduceLeDiff, Nat.zero_le, Option.toList_some, Option.toList_none, List.cons_append, List.nil_append, or_true, true_or, or_false, false_or, Nat.reduceEqDiff, not_true_eq_false, not_false_eq_true, false_and, and_false, false_implies, true_implies, implies_true, ne_eq, and_self, ok1, a1, a5, z, c1, c2, nI_leE]
    exact q g hM hB
  | succ k ih =>
    intro i g hi hM hB
    obtain ⟨⟨a1, a2, a3, a4, a5⟩, b, ⟨c1, c2⟩, d, e⟩ := id hB
    have hlt : i < 4 := by omega
    have hlt2 : ¬ 4 ≤ i := by omega
    have z : (21 : Nat) ≠ 0 := by decide
    simp (disch := omega) only [e_X6_init_47, e_X6_init_48, e_X6_init_49, e_X6_init_52, e_X6_init_53, e_X6_init_56, e_X6_init_57, e_X6_init_60, e_X6_init_61, tand, true_and, and_true, nl1_int, nl1_ref, nl1_null, nl1_ra, cat1_int, cat1_ref, cat1_null, stbs_nil, stbs_cons, stb_int, stb_long, stb_ref, stb_null, stb_ra, alv_nil, alv_cons, alv1_int, alv1_ref, alv1_null, alv1_ra, List.length_nil, List.length_cons, Nat.reduceAdd, Nat.reduceLeDiff, Nat.zero_le, Option.toList_some, Option.toList_none, List.cons_append, List.nil_append, or_true, true_or, or_false, false_or, Nat.reduceEqDiff, not_true_eq_false, not_false_eq_true, false_and, and_false, false_implies, true_implies, implies_true, ne_eq, and_self, ok1, a1, a5, z, c1, c2, nI_leE, hlt2, frsh]
    have fr := hM.fresh (T := 400 + 100 * i) (by omega) (by omega)
    refine ⟨400 + 100 * i, fr, ?_⟩
    have e1 : gK (nw g (400 + 100 * i) 6 0 (xn 6) fun _ => 0) (400 + 100 * i) = 6 := by rw [gK_nw, if_pos rfl]
    have e2 : gK (nw g (400 + 100 * i) 6 0 (xn 6) fun _ => 0) 20 = 7 := by rw [gK_nw, if_neg (by omega)]; exact a1
    have e3 : gK (nw g (400 + 100 * i) 6 0 (xn 6) fun _ => 0) 21 = 17 := by rw [gK_nw, if_neg (by omega)]; exact c1
    simp (disch := omega) only [e_X6_init_64, e_X6_init_65, tand, true_and, and_true, nl1_int, nl1_ref, nl1_null, nl1_ra, cat1_int, cat1_ref, cat1_null, stbs_nil, stbs_cons, stb_int, stb_long, stb_ref, stb_null, stb_ra, alv_nil, alv_cons, alv1_int, alv1_ref, alv1_null, alv1_ra, List.length_nil, List.length_cons, Nat.reduceAdd, Nat.reduceLeDiff, Nat.zero_le, Option.toList_some, Option.toList_none, List.cons_append, List.nil_append, or_true, true_or, or_false, false_or, Nat.reduceEqDiff, not_true_eq_false, not_false_eq_true, false_and, and_false, false_implies, true_implies, implies_true, ne_eq, and_self, ok1, e1, e2, e3]
    refine new_town hM (by omega) (by omega) fun g2 F2 k2 hM2 => ?_
    have hB2 := hB.nf F2 fun b h1 h2 z => by unfold XN at z; omega
    obtain ⟨⟨a1', a2', a3', a4', a5'⟩, b', ⟨c1', c2'⟩, d', e'⟩ := id hB2
    have zl : 400 + 100 * i ≠ 0 := by omega
    simp (disch := omega) only [e_X6_init_68, e_X6_init_69, tand, true_and, and_true, nl1_int, nl1_ref, nl1_null, nl1_ra, cat1_int, cat1_ref, cat1_null, stbs_nil, stbs_cons, stb_int, stb_long, stb_ref, stb_null, stb_ra, alv_nil, alv_cons, alv1_int, alv1_ref, alv1_null, alv1_ra, List.length_nil, List.length_cons, Nat.reduceAdd, Nat.reduceLeDiff, Nat.zero_le, Option.toList_some, Option.toList_none, List.cons_append, List.nil_append, or_true, true_or, or_false, false_or, Nat.reduceEqDiff, not_true_eq_false, not_false_eq_true, false_and, and_false, false_implies, true_implies, implies_true, ne_eq, and_self, ok1, c1', c2', nI_vp, hlt, nI_clamp, k2, zl, nI_add]
    simp only [e_X6_init_72, tand, true_and, and_true, nl1_int, nl1_ref, nl1_null, nl1_ra, cat1_int, cat1_ref, cat1_null, stbs_nil, stbs_cons, stb_int, stb_long, stb_ref, stb_null, stb_ra, alv_nil, alv_cons, alv1_int, alv1_ref, alv1_null, alv1_ra, List.length_nil, List.length_cons, Nat.reduceAdd, Nat.reduceLeDiff, Nat.zero_le, Option.toList_some, Option.toList_none, List.cons_append, List.nil_append, or_true, true_or, or_false, false_or, Nat.reduceEqDiff, not_true_eq_false, not_false_eq_true, false_and, and_false, false_implies, true_implies, implies_true, ne_eq, and_self, ok1]
    have hM3 := hM2.low (X := fun b => b = 21) (g' := pR g2 21 i (400 + 100 * i)) (NF.pR rfl) (fun b hb => by omega)
    refine ih (i + 1) (by omega) ?_ ⟨⟨a1', ?_, ?_, ?_, ?_⟩, b', ⟨c1', c2'⟩, fun j hj => ?_, e'⟩
    · rw [show 3 + (i + 1) = 3 + i + 1 by omega, show 220 + 73 * (i + 1) = 220 + 73 * i + 73 + 0 by omega, show 1339 + 445 * (i + 1) = 1339 + 445 * i + 445 + 0 by omega]
      exact hM3
    · rw [gR_pR, if_neg (by decide)]; exact a2'
    · rw [gR_pR, if_neg (by decide)]; exact a3'
    · rw [gR_pR, if_neg (by decide)]; exact a4'
    · rw [gR_pR, if_neg (by decide)]; exact a5'
    · rw [gR_pR, if_pos rfl]
      by_cases hji : j = i
      · rw [if_pos hji, hji]
      · rw [if_neg hji]; exact d' j (by omega)
end Be2
