/-! ===== the main object: undo, all orders ===== -/
def hsu (N : Nat) (H : Nat → Nat) : Nat → Nat := fun j => if j = 3 then N else H (j + 1)
theorem PD.undo {N S : Nat} {H : Nat → Nat} (h : PD N S H) : PD (H 0) S (hsu N H) := by
  obtain ⟨h1, h2, h3, ⟨h4, h5, h6⟩, h7, h8⟩ := h
  have e : ∀ j, j < 4 → (j = 3 ∧ hsu N H j = N) ∨ (j < 3 ∧ hsu N H j = H (j + 1)) := fun j hj => by
    unfold hsu
    by_cases h0 : j = 3
    · left; exact ⟨h0, if_pos h0⟩
    · right; exact ⟨by omega, if_neg h0⟩
  refine ⟨h3 0 (by decide), h2, fun j hj => ?_, ⟨(h7 0 (by decide)).1, h5, (h7 0 (by decide)).2.2⟩, fun j hj => ?_, fun i j hi hj hij => ?_⟩
  · rcases e j hj with ⟨_, e⟩ | ⟨_, e⟩
    · rw [e]; exact h1
    · rw [e]; exact h3 _ (by omega)
  · rcases e j hj with ⟨_, e⟩ | ⟨_, e⟩
    · rw [e]; exact ⟨h4, Ne.symm (h7 0 (by decide)).2.1, h6⟩
    · rw [e]; exact ⟨(h7 _ (by omega)).1, h8 _ _ (by omega) (by omega) (by omega), (h7 _ (by omega)).2.2⟩
  · rcases e i hi with ⟨i0, ei⟩ | ⟨i0, ei⟩ <;> rcases e j hj with ⟨j0, ej⟩ | ⟨j0, ej⟩
    · omega
    · rw [ei, ej]; exact Ne.symm (h7 _ (by omega)).2.1
    · rw [ei, ej]; exact (h7 _ (by omega)).2.1
    · rw [ei, ej]; exact h8 _ _ (by omega) (by omega) (by omega)
section Und
variable {st kept n : Nat} {t : Nat → Nat} {Q : mQ} {g : mG} {w snap : Rw} {hist : Nat → Rw}
theorem c_undo (h : MA g w hist st kept snap t n) (q1 : st = 0 → Q (some (.int (-5))) g)
    (q2 : ∀ g', st ≠ 0 → MA g' (hist 0) (fun j => hist (j + 1)) (st - 1) kept snap t n → MF g g' → Q (some (.int (nI (st - 1)))) g') : w_X6_undo [.ref 20] g Q := by
  refine wm_at rfl ⟨trivial, trivial⟩ (show WP m_X6_undo Q 0 [.ref 20, .retAddr 0, .retAddr 0] [] g from ?_)
  obtain ⟨W, N, S, H, hM, x1, x2, x3⟩ := id h
  obtain ⟨⟨a1, a2, a3, a4, a5, a6⟩, ⟨b1, b2, b3, b4⟩, ⟨c1, c2, c3⟩, d, p, x, y, z, u⟩ := id hM
  obtain ⟨p1, p2, p3, p4, p5, p6⟩ := id p
  have z0 : (21 : Nat) ≠ 0 := by decide
  have zH : ∀ j, j < 4 → H j ≠ 0 := fun j hj => by have := (p3 j hj).big; omega
  have kH : ∀ j, j < 4 → gK g (H j) = 6 := fun j hj => isT.k6 (d _ (p3 j hj))
  have kN : gK g N = 6 := isT.k6 (d N p1)
  have zN := p1.z
  have s1 : nI 4 - nI 1 = nI 3 := by decide
  have s2 : nI 3 - nI 1 = nI 2 := by decide
  have s3 : nI 2 - nI 1 = nI 1 := by decide
  have s4 : nI 1 - nI 1 = nI 0 := by decide
  have m1 : nI 1 + nI 1 = nI 2 := by decide
  have m2 : nI 2 + nI 1 = nI 3 := by decide
  have m3 : nI 3 + nI 1 = nI 4 := by decide
  have l0 : (0 < 4) = True := propext ⟨fun _ => trivial, fun _ => by decide⟩
  have l1 : (1 < 4) = True := propext ⟨fun _ => trivial, fun _ => by decide⟩
  have l2 : (2 < 4) = True := propext ⟨fun _ => trivial, fun _ => by decide⟩
  have l3 : (3 < 4) = True := propext ⟨fun _ => trivial, fun _ => by decide⟩
  have q0 := c3 0 (by decide)
  have qq1 := c3 1 (by decide)
  have qq2 := c3 2 (by decide)
  have q3 := c3 3 (by decide)
  have zH0 := zH 0 (by decide)
  have zH1 := zH 1 (by decide)
  have zH2 := zH 2 (by decide)
  have zH3 := zH 3 (by decide)
  have kH0 := kH 0 (by decide)
  have kH1 := kH 1 (by decide)
  have kH2 := kH 2 (by decide)
  have kH3 := kH 3 (by decide)
  have k612 : (6 : Nat) ≠ 12 := by decide
  simp (disch := omega) only [e_X6_undo_0, e_X6_undo_1, e_X6_undo_4, tand, true_and, and_true, nl1_int, nl1_ref, nl1_null, nl1_ra, cat1_int, cat1_ref, cat1_null, stbs_nil, stbs_cons, stb_int, stb_long, stb_ref, stb_null, stb_ra, alv_nil, alv_cons, alv1_int, alv1_ref, alv1_null, alv1_ra, List.length_nil, List.length_cons, Nat.reduceAdd, Nat.reduceLeDiff, Nat.zero_le, Option.toList_some, Option.toList_none, List.cons_append, List.nil_append, or_true, true_or, or_false, false_or, Nat.reduceEqDiff, not_true_eq_false, not_false_eq_true, false_and, and_false, false_implies, true_implies, implies_true, ne_eq, and_self, ok1, a1, b2, nI_eq0]
  refine ⟨fun h1 => ?_, fun h1 => ?_⟩
  · simp (disch := omega) only [e_X6_undo_10, e_X6_undo_11, e_X6_undo_14, e_X6_undo_15, e_X6_undo_16, e_X6_undo_16n, e_X6_undo_17, e_X6_undo_18, tand, true_and, and_true, nl1_int, nl1_ref, nl1_null, nl1_ra, cat1_int, cat1_ref, cat1_null, stbs_nil, stbs_cons, stb_int, stb_long, stb_ref, stb_null, stb_ra, alv_nil, alv_cons, alv1_int, alv1_ref, alv1_null, alv1_ra, List.length_nil, List.length_cons, Nat.reduceAdd, Nat.reduceLeDiff, Nat.zero_le, Option.toList_some, Option.toList_none, List.cons_append, List.nil_append, or_true, true_or, or_false, false_or, Nat.reduceEqDiff, not_true_eq_false, not_false_eq_true, false_and, and_false, false_implies, true_implies, implies_true, ne_eq, and_self, ok1, a1, a5, z0, c1, c2, nI_vp, l0, nI_clamp, q0, zH0]
    simp (disch := omega) only [e_X6_undo_19, e_X6_undo_20, e_X6_undo_21, e_X6_undo_24, e_X6_undo_25, e_X6_undo_28, e_X6_undo_29, e_X6_undo_32, e_X6_undo_33, e_X6_undo_34, e_X6_undo_35, e_X6_undo_36, e_X6_undo_39, e_X6_undo_40, e_X6_undo_41, e_X6_undo_42, tand, true_and, and_true, nl1_int, nl1_ref, nl1_null, nl1_ra, cat1_int, cat1_ref, cat1_null, stbs_nil, stbs_cons, stb_int, stb_long, stb_ref, stb_null, stb_ra, alv_nil, alv_cons, alv1_int, alv1_ref, alv1_null, alv1_ra, List.length_nil, List.length_cons, Nat.reduceAdd, Nat.reduceLeDiff, Nat.zero_le, Option.toList_some, Option.toList_none, List.cons_append, List.nil_append, or_true, true_or, or_false, false_or, Nat.reduceEqDiff, not_true_eq_false, not_false_eq_true, false_and, and_false, false_implies, true_implies, implies_true, ne_eq, and_self, ok1, a1, a5, z0, c1, c2, s4, nI_vp, l0, l1, nI_clamp, qq1, zH1, kH1, nI_leE, m1]
    simp only [e_X6_undo_45, tand, true_and, and_true, nl1_int, nl1_ref, nl1_null, nl1_ra, cat1_int, cat1_ref, cat1_null, stbs_nil, stbs_cons, stb_int, stb_long, stb_ref, stb_null, stb_ra, alv_nil, alv_cons, alv1_int, alv1_ref, alv1_null, alv1_ra, List.length_nil, List.length_cons, Nat.reduceAdd, Nat.reduceLeDiff, Nat.zero_le, Option.toList_some, Option.toList_none, List.cons_append, List.nil_append, or_true, true_or, or_false, false_or, Nat.reduceEqDiff, not_true_eq_false, not_false_eq_true, false_and, and_false, false_implies, true_implies, implies_true, ne_eq, and_self, ok1]
    simp (disch := omega) only [e_X6_undo_19, e_X6_undo_20, e_X6_undo_21, e_X6_undo_24, e_X6_undo_25, e_X6_undo_28, e_X6_undo_29, e_X6_undo_32, e_X6_undo_33, e_X6_undo_34, e_X6_undo_35, e_X6_undo_36, e_X6_undo_39, e_X6_undo_40, e_X6_undo_41, e_X6_undo_42, tand, true_and, and_true, nl1_int, nl1_ref, nl1_null, nl1_ra, cat1_int, cat1_ref, cat1_null, stbs_nil, stbs_cons, stb_int, stb_long, stb_ref, stb_null, stb_ra, alv_nil, alv_cons, alv1_int, alv1_ref, alv1_null, alv1_ra, List.length_nil, List.length_cons, Nat.reduceAdd, Nat.reduceLeDiff, Nat.zero_le, Option.toList_some, Option.toList_none, List.cons_append, List.nil_append, or_true, true_or, or_false, false_or, Nat.reduceEqDiff, not_true_eq_false, not_false_eq_true, false_and, and_false, false_implies, true_implies, implies_true, ne_eq, and_self, ok1, gK_pR, gN_pR, gR_pR, if_false, if_true, a1, a5, z0, c1, c2, s3, nI_vp, l1, l2, nI_clamp, qq2, zH2, kH2, nI_leE, m2]
    simp only [e_X6_undo_45, tand, true_and, and_true, nl1_int, nl1_ref, nl1_null, nl1_ra, cat1_int, cat1_ref, cat1_null, stbs_nil, stbs_cons, stb_int, stb_long, stb_ref, stb_null, stb_ra, alv_nil, alv_cons, alv1_int, alv1_ref, alv1_null, alv1_ra, List.length_nil, List.length_cons, Nat.reduceAdd, Nat.reduceLeDiff, Nat.zero_le, Option.toList_some, Option.toList_none, List.cons_append, List.nil_append, or_true, true_or, or_false, false_or, Nat.reduceEqDiff, not_true_eq_false, not_false_eq_true, false_and, and_false, false_implies, true_implies, implies_true, ne_eq, and_self, ok1]
    simp (disch := omega) only [e_X6_undo_19, e_X6_undo_20, e_X6_undo_21, e_X6_undo_24, e_X6_undo_25, e_X6_undo_28, e_X6_undo_29, e_X6_undo_32, e_X6_undo_33, e_X6_undo_34, e_X6_undo_35, e_X6_undo_36, e_X6_undo_39, e_X6_undo_40, e_X6_undo_41, e_X6_undo_42, tand, true_and, and_true, nl1_int, nl1_ref, nl1_null, nl1_ra, cat1_int, cat1_ref, cat1_null, stbs_nil, stbs_cons, stb_int, stb_long, stb_ref, stb_null, stb_ra, alv_nil, alv_cons, alv1_int, alv1_ref, alv1_null, alv1_ra, List.length_nil, List.length_cons, Nat.reduceAdd, Nat.reduceLeDiff, Nat.zero_le, Option.toList_some, Option.toList_none, List.cons_append, List.nil_append, or_true, true_or, or_false, false_or, Nat.reduceEqDiff, not_true_eq_false, not_false_eq_true, false_and, and_false, false_implies, true_implies, implies_true, ne_eq, and_self, ok1, gK_pR, gN_pR, gR_pR, if_false, if_true, a1, a5, z0, c1, c2, s2, nI_vp, l2, l3, nI_clamp, q3, zH3, kH3, nI_leE, m3]
    simp only [e_X6_undo_45, tand, true_and, and_true, nl1_int, nl1_ref, nl1_null, nl1_ra, cat1_int, cat1_ref, cat1_null, stbs_nil, stbs_cons, stb_int, stb_long, stb_ref, stb_null, stb_ra, alv_nil, alv_cons, alv1_int, alv1_ref, alv1_null, alv1_ra, List.length_nil, List.length_cons, Nat.reduceAdd, Nat.reduceLeDiff, Nat.zero_le, Option.toList_some, Option.toList_none, List.cons_append, List.nil_append, or_true, true_or, or_false, false_or, Nat.reduceEqDiff, not_true_eq_false, not_false_eq_true, false_and, and_false, false_implies, true_implies, implies_true, ne_eq, and_self, ok1]
    have hst : 1 ≤ st := by omega
    simp (disch := omega) only [e_X6_undo_19, e_X6_undo_20, e_X6_undo_21, e_X6_undo_24, e_X6_undo_25, e_X6_undo_48, e_X6_undo_49, e_X6_undo_52, e_X6_undo_53, e_X6_undo_56, e_X6_undo_57, e_X6_undo_58, e_X6_undo_59, e_X6_undo_60, e_X6_undo_63, e_X6_undo_64, e_X6_undo_65, e_X6_undo_65n, e_X6_undo_66, e_X6_undo_69, e_X6_undo_70, e_X6_undo_71, e_X6_undo_74, e_X6_undo_75, e_X6_undo_76, e_X6_undo_79, e_X6_undo_80, e_X6_undo_83, tand, true_and, and_true, nl1_int, nl1_ref, nl1_null, nl1_ra, cat1_int, cat1_ref, cat1_null, stbs_nil, stbs_cons, stb_int, stb_long, stb_ref, stb_null, stb_ra, alv_nil, alv_cons, alv1_int, alv1_ref, alv1_null, alv1_ra, List.length_nil, List.length_cons, Nat.reduceAdd, Nat.reduceLeDiff, Nat.zero_le, Option.toList_some, Option.toList_none, List.cons_append, List.nil_append, or_true, true_or, or_false, false_or, Nat.reduceEqDiff, not_true_eq_false, not_false_eq_true, false_and, and_false, false_implies, true_implies, implies_true, ne_eq, and_self, ok1, gK_pR, gN_pR, gR_pR, gI_pR, gK_pI, gI_pI_eq, if_false, if_true, a1, a2, a5, z0, c1, c2, s1, nI_vp, l3, nI_clamp, zN, kN, kH0, zH0, b2, nI_leE, pk_sub hst]
    have F := (((((F20.rf (g := g)).pR 21 0 (H 1) (Or.inr rfl)).pR 21 1 (H 2) (Or.inr rfl)).pR 21 2 (H 3) (Or.inr rfl)).pR 21 3 N (Or.inr rfl)).pR 20 0 (H 0) (Or.inl rfl)
    have F := F.pI 5 (nI (st - 1))
    refine q2 _ h1 ⟨W, H 0, S, hsu N H, ⟨⟨a1, rfl, a3, a4, a5, a6⟩, ⟨b1, rfl, b3, by omega⟩, ⟨c1, c2, fun j hj => ?_⟩, fun T hT => (d T hT).far hT.big F, p.undo, x.far F, y, z.same (fun _ _ _ _ => rfl) rfl rfl, u.far F.1 (fun b _ _ => F.2.1 b) (fun b _ _ => F.2.2.1 b (by omega))⟩, x2 0 (by omega), fun j hj => ?_, x3⟩ F.mf
    · have : j = 0 ∨ j = 1 ∨ j = 2 ∨ j = 3 := by omega
      rcases this with e | e | e | e <;> subst e <;> rfl
    · unfold hsu
      rw [if_neg (by omega)]
      exact x2 (j + 1) (by omega)
  · simp only [e_X6_undo_7, e_X6_undo_9, tand, true_and, and_true, nl1_int, nl1_ref, nl1_null, nl1_ra, cat1_int, cat1_ref, cat1_null, stbs_nil, stbs_cons, stb_int, stb_long, stb_ref, stb_null, stb_ra, alv_nil, alv_cons, alv1_int, alv1_ref, alv1_null, alv1_ra, List.length_nil, List.length_cons, Nat.reduceAdd, Nat.reduceLeDiff, Nat.zero_le, Option.toList_some, Option.toList_none, List.cons_append, List.nil_append, or_true, true_or, or_false, false_or, Nat.reduceEqDiff, not_true_eq_false, not_false_eq_true, false_and, and_false, false_implies, true_implies, implies_true, ne_eq, and_self, ok1]
    exact q1 (by omega)
end Und
