/-! ===== the main object ===== -/
def seL : Nat → Nat := fun s => if s = 0 then 1 else if s = 1 then 100 else if s = 4 then 1 else 0
def seM : Nat → Nat := fun s => if s = 0 then 99 else if s = 1 then 500 else if s = 4 then 5 else 100
def STt (g : mG) : Prop := (gK g 3 = 10 ∧ gN g 3 = 5 ∧ ∀ s, s < 5 → gI g 3 s = nI (seL s)) ∧ (gK g 4 = 10 ∧ gN g 4 = 5 ∧ ∀ s, s < 5 → gI g 4 s = nI (seM s)) ∧ gK g 5 = 10 ∧ gN g 5 = 5
def PD (N S : Nat) (H : Nat → Nat) : Prop := isT N ∧ isT S ∧ (∀ j, j < 4 → isT (H j)) ∧ (N ≠ 300 ∧ S ≠ 300 ∧ N ≠ S) ∧ (∀ j, j < 4 → H j ≠ 300 ∧ H j ≠ N ∧ H j ≠ S) ∧ ∀ i j, i < 4 → j < 4 → i ≠ j → H i ≠ H j
def MH (g : mG) (W : Nat → Rw) (N S : Nat) (H : Nat → Nat) (st kept : Nat) (t : Nat → Nat) (n : Nat) : Prop :=
  (gK g 20 = 7 ∧ gR g 20 0 = N ∧ gR g 20 1 = S ∧ gR g 20 2 = 300 ∧ gR g 20 4 = 21 ∧ gR g 20 6 = 22) ∧ (gI g 20 3 = nI kept ∧ gI g 20 5 = nI st ∧ kept ≤ 1 ∧ st ≤ 4) ∧ (gK g 21 = 17 ∧ gN g 21 = 4 ∧ ∀ j, j < 4 → gR g 21 j = H j) ∧
  (∀ T, isT T → TRw g T (W T)) ∧ PD N S H ∧ TxR g t n ∧ Scr g ∧ JR g ∧ STt g
/-- changes at the main object alone -/
def F20 (g g' : mG) : Prop := (∀ b, gK g' b = gK g b) ∧ (∀ b, gN g' b = gN g b) ∧ (∀ b, b ≠ 20 → gI g' b = gI g b) ∧ (∀ b k, b ≠ 20 → b ≠ 21 → gR g' b k = gR g b k) ∧ gC g' = gC g ∧ gS g' = gS g
theorem F20.rf {g : mG} : F20 g g := ⟨fun _ => rfl, fun _ => rfl, fun _ _ => rfl, fun _ _ _ _ => rfl, rfl, rfl⟩
theorem F20.pI {g g' : mG} (h : F20 g g') (k : Nat) (v : Int32) : F20 g (pI g' 20 k v) := ⟨h.1, h.2.1, fun b hb => by rw [gI_pI_ne hb]; exact h.2.2.1 b hb, h.2.2.2⟩
theorem F20.pR {g g' : mG} (h : F20 g g') (a k v : Nat) (ha : a = 20 ∨ a = 21) : F20 g (pR g' a k v) := ⟨h.1, h.2.1, h.2.2.1, fun b j h1 h2 => by rw [gR_pR, if_neg (by omega)]; exact h.2.2.2.1 b j h1 h2, h.2.2.2.2⟩
theorem PermOK.far {g g' : mG} {p : Nat} {r : Nat → Nat} (h : PermOK g p r) (hk : ∀ b, gK g' b = gK g b) (hn : ∀ b, gN g' b = gN g b) (h1 : gI g' p = gI g p) (h2 : gI g' (p + 1) = gI g (p + 1)) : PermOK g' p r := by
  obtain ⟨yn, a1, a2, a3, a4, a5, a6, a7, a8⟩ := h
  exact ⟨yn, by rw [hk]; exact a1, by rw [hk]; exact a2, by rw [h1]; exact a3, by rw [hn]; exact a4, by rw [hn]; exact a5, by rw [h2]; exact a6, a7, by rw [h1]; exact a8⟩
theorem TRw.far {g g' : mG} {T : Nat} {w : Rw} (h : TRw g T w) (hT : 100 ≤ T) (f : F20 g g') : TRw g' T w := by
  obtain ⟨f1, f2, f3, f4, f5, f6⟩ := f
  obtain ⟨⟨⟨a1, a2, a3, a4⟩, ⟨b1, b2⟩, ⟨c1, c2⟩, ⟨d1, d2⟩, e, e2⟩, h1, h2, h3, h4⟩ := h
  refine ⟨⟨⟨by rw [f1]; exact a1, by rw [f4 _ _ (by omega) (by omega)]; exact a2, by rw [f4 _ _ (by omega) (by omega)]; exact a3, by rw [f4 _ _ (by omega) (by omega)]; exact a4⟩, ⟨by rw [f1]; exact b1, by rw [f2]; exact b2⟩, ⟨by rw [f1]; exact c1, by rw [f2]; exact c2⟩, ⟨by rw [f1]; exact d1, by rw [f2]; exact d2⟩, fun k hk => ?_, fun i hi => ?_⟩, by rw [f3 _ (by omega)]; exact h1, by rw [f3 _ (by omega)]; exact h2, fun k hk => ⟨by rw [f3 _ (by omega)]; exact (h3 k hk).1, (h3 k hk).2.far f1 f2 (f3 _ (by omega)) (f3 _ (by omega))⟩, fun i hi => ⟨by rw [f3 _ (by omega)]; exact (h4 i hi).1, (h4 i hi).2.1, (h4 i hi).2.2.far f1 f2 (f3 _ (by omega)) (f3 _ (by omega))⟩⟩
  · obtain ⟨q1, q2, q3, q4⟩ := e k hk
    exact ⟨by rw [f4 _ _ (by omega) (by omega)]; exact q1, by rw [f1]; exact q2, by rw [f4 _ _ (by omega) (by omega)]; exact q3, by rw [f1]; exact q4.1, by rw [f1]; exact q4.2⟩
  · obtain ⟨q1, q2, q3, q4⟩ := e2 i hi
    exact ⟨by rw [f4 _ _ (by omega) (by omega)]; exact q1, by rw [f1]; exact q2, by rw [f4 _ _ (by omega) (by omega)]; exact q3, by rw [f1]; exact q4.1, by rw [f1]; exact q4.2⟩
theorem TxR.far {g g' : mG} {t : Nat → Nat} {n : Nat} (h : TxR g t n) (f : F20 g g') : TxR g' t n := by
  obtain ⟨f1, f2, f3, f4, f5, f6⟩ := f
  obtain ⟨⟨a1, a2, a3⟩, ⟨b1, b2⟩, ⟨c1, c2⟩, d, e, z, y⟩ := h
  exact ⟨⟨by rw [f1]; exact a1, by rw [f4 _ _ (by decide) (by decide)]; exact a2, by rw [f4 _ _ (by decide) (by decide)]; exact a3⟩, ⟨by rw [f1]; exact b1, by rw [f2]; exact b2⟩, ⟨by rw [f1]; exact c1, by rw [f2]; exact c2⟩, fun i hi => ⟨by rw [f4 _ _ (by decide) (by decide)]; exact (d i hi).1, by rw [f1]; exact (d i hi).2⟩, by rw [f3 _ (by decide)]; exact e, z, by rw [f3 _ (by decide)]; exact y⟩
theorem STt.far {g g' : mG} (h : STt g) (hk : ∀ b, gK g' b = gK g b) (hn : ∀ b, b < 6 → 2 < b → gN g' b = gN g b) (hi : ∀ b, b < 6 → 2 < b → gI g' b = gI g b) : STt g' := by
  obtain ⟨⟨a1, a2, a3⟩, ⟨b1, b2, b3⟩, c1, c2⟩ := h
  exact ⟨⟨by rw [hk]; exact a1, by rw [hn 3 (by decide) (by decide)]; exact a2, by rw [hi 3 (by decide) (by decide)]; exact a3⟩, ⟨by rw [hk]; exact b1, by rw [hn 4 (by decide) (by decide)]; exact b2, by rw [hi 4 (by decide) (by decide)]; exact b3⟩, by rw [hk]; exact c1, by rw [hn 5 (by decide) (by decide)]; exact c2⟩
/-- the history moves on -/
def hsh (S : Nat) (H : Nat → Nat) : Nat → Nat := fun j => if j = 0 then S else H (j - 1)
theorem PD.push {N S : Nat} {H : Nat → Nat} (h : PD N S H) : PD N (H 3) (hsh S H) := by
  obtain ⟨h1, h2, h3, ⟨h4, h5, h6⟩, h7, h8⟩ := h
  have e : ∀ j, j < 4 → (j = 0 ∧ hsh S H j = S) ∨ (0 < j ∧ hsh S H j = H (j - 1)) := fun j hj => by
    unfold hsh
    by_cases h0 : j = 0
    · left; exact ⟨h0, if_pos h0⟩
    · right; exact ⟨by omega, if_neg h0⟩
  refine ⟨h1, h3 3 (by decide), fun j hj => ?_, ⟨h4, (h7 3 (by decide)).1, Ne.symm (h7 3 (by decide)).2.1⟩, fun j hj => ?_, fun i j hi hj hij => ?_⟩
  · rcases e j hj with ⟨_, e⟩ | ⟨_, e⟩
    · rw [e]; exact h2
    · rw [e]; exact h3 _ (by omega)
  · rcases e j hj with ⟨_, e⟩ | ⟨_, e⟩
    · rw [e]; exact ⟨h5, Ne.symm h6, Ne.symm (h7 3 (by decide)).2.2⟩
    · rw [e]; exact ⟨(h7 _ (by omega)).1, (h7 _ (by omega)).2.1, h8 _ _ (by omega) (by omega) (by omega)⟩
  · rcases e i hi with ⟨i0, ei⟩ | ⟨i0, ei⟩ <;> rcases e j hj with ⟨j0, ej⟩ | ⟨j0, ej⟩
    · omega
    · rw [ei, ej]; exact Ne.symm (h7 _ (by omega)).2.2
    · rw [ei, ej]; exact (h7 _ (by omega)).2.2
    · rw [ei, ej]; exact h8 _ _ (by omega) (by omega) (by omega)
section Mai
variable {W : Nat → Rw} {N S st kept n : Nat} {H t : Nat → Nat} {Q : mQ} {g : mG}
theorem isT.k6 {g : mG} {T : Nat} {w : Rw} (h : TRw g T w) : gK g T = 6 := h.1.1.1
theorem c_pushSpare (h : MH g W N S H st kept t n) (q : ∀ g', F20 g g' → MH g' W N (H 3) (hsh S H) (min (st + 1) 4) kept t n → Q none g') : w_X6_pushSpare [.ref 20] g Q := by
  refine wm_at rfl ⟨trivial, trivial⟩ (show WP m_X6_pushSpare Q 0 [.ref 20, .retAddr 0, .retAddr 0] [] g from ?_)
  obtain ⟨⟨a1, a2, a3, a4, a5, a6⟩, ⟨b1, b2, b3, b4⟩, ⟨c1, c2, c3⟩, d, p, x, y, z, u⟩ := id h
  obtain ⟨p1, p2, p3, p4, p5, p6⟩ := id p
  have z0 : (21 : Nat) ≠ 0 := by decide
  have zS : S ≠ 0 := by have := p2.big; omega
  have zH : ∀ j, j < 4 → H j ≠ 0 := fun j hj => by have := (p3 j hj).big; omega
  have kS : gK g S = 6 := isT.k6 (d S p2)
  have kH : ∀ j, j < 4 → gK g (H j) = 6 := fun j hj => isT.k6 (d _ (p3 j hj))
  have s1 : nI 4 - nI 1 = nI 3 := by decide
  have s2 : nI 3 - nI 1 = nI 2 := by decide
  have s3 : nI 2 - nI 1 = nI 1 := by decide
  have s4 : nI 1 - nI 1 = nI 0 := by decide
  have m1 : nI 3 + -1 = nI 2 := by decide
  have m2 : nI 2 + -1 = nI 1 := by decide
  have m3 : nI 1 + -1 = nI 0 := by decide
  have l0 : (0 < 4) = True := propext ⟨fun _ => trivial, fun _ => by decide⟩
  have l1 : (1 < 4) = True := propext ⟨fun _ => trivial, fun _ => by decide⟩
  have l2 : (2 < 4) = True := propext ⟨fun _ => trivial, fun _ => by decide⟩
  have l3 : (3 < 4) = True := propext ⟨fun _ => trivial, fun _ => by decide⟩
  have q0 := c3 0 (by decide)
  have q1 := c3 1 (by decide)
  have q2 := c3 2 (by decide)
  have q3 := c3 3 (by decide)
  have zH0 := zH 0 (by decide)
  have zH1 := zH 1 (by decide)
  have zH2 := zH 2 (by decide)
  have zH3 := zH 3 (by decide)
  have kH0 := kH 0 (by decide)
  have kH1 := kH 1 (by decide)
  have kH2 := kH 2 (by decide)
  have kH3 := kH 3 (by decide)
  have k612 : (6 : Nat) ≠ 12 := by decide
  have n20 : (20 : Nat) ≠ 21 := by decide
  simp (disch := omega) only [e_X6_pushSpare_0, e_X6_pushSpare_1, e_X6_pushSpare_4, e_X6_pushSpare_5, e_X6_pushSpare_8, e_X6_pushSpare_9, e_X6_pushSpare_10, e_X6_pushSpare_11, e_X6_pushSpare_12, e_X6_pushSpare_12n, e_X6_pushSpare_13, e_X6_pushSpare_14, e_X6_pushSpare_17, e_X6_pushSpare_18, e_X6_pushSpare_19, e_X6_pushSpare_20, tand, true_and, and_true, nl1_int, nl1_ref, nl1_null, nl1_ra, cat1_int, cat1_ref, cat1_null, stbs_nil, stbs_cons, stb_int, stb_long, stb_ref, stb_null, stb_ra, alv_nil, alv_cons, alv1_int, alv1_ref, alv1_null, alv1_ra, List.length_nil, List.length_cons, Nat.reduceAdd, Nat.reduceLeDiff, Nat.zero_le, Option.toList_some, Option.toList_none, List.cons_append, List.nil_append, or_true, true_or, or_false, false_or, Nat.reduceEqDiff, not_true_eq_false, not_false_eq_true, false_and, and_false, false_implies, true_implies, implies_true, ne_eq, and_self, ok1, a1, a5, z0, c1, c2, s1, nI_vp, l3, nI_clamp, q3, zH3]
  simp (disch := omega) only [e_X6_pushSpare_21, e_X6_pushSpare_22, e_X6_pushSpare_25, e_X6_pushSpare_26, e_X6_pushSpare_29, e_X6_pushSpare_30, e_X6_pushSpare_31, e_X6_pushSpare_34, e_X6_pushSpare_35, e_X6_pushSpare_36, e_X6_pushSpare_37, e_X6_pushSpare_38, e_X6_pushSpare_39, tand, true_and, and_true, nl1_int, nl1_ref, nl1_null, nl1_ra, cat1_int, cat1_ref, cat1_null, stbs_nil, stbs_cons, stb_int, stb_long, stb_ref, stb_null, stb_ra, alv_nil, alv_cons, alv1_int, alv1_ref, alv1_null, alv1_ra, List.length_nil, List.length_cons, Nat.reduceAdd, Nat.reduceLeDiff, Nat.zero_le, Option.toList_some, Option.toList_none, List.cons_append, List.nil_append, or_true, true_or, or_false, false_or, Nat.reduceEqDiff, not_true_eq_false, not_false_eq_true, false_and, and_false, false_implies, true_implies, implies_true, ne_eq, and_self, ok1, a1, a5, z0, c1, c2, s2, nI_vp, l3, l2, nI_clamp, q2, zH2, kH2, nI_le0, m1]
  simp only [e_X6_pushSpare_42, tand, true_and, and_true, nl1_int, nl1_ref, nl1_null, nl1_ra, cat1_int, cat1_ref, cat1_null, stbs_nil, stbs_cons, stb_int, stb_long, stb_ref, stb_null, stb_ra, alv_nil, alv_cons, alv1_int, alv1_ref, alv1_null, alv1_ra, List.length_nil, List.length_cons, Nat.reduceAdd, Nat.reduceLeDiff, Nat.zero_le, Option.toList_some, Option.toList_none, List.cons_append, List.nil_append, or_true, true_or, or_false, false_or, Nat.reduceEqDiff, not_true_eq_false, not_false_eq_true, false_and, and_false, false_implies, true_implies, implies_true, ne_eq, and_self, ok1]
  simp (disch := omega) only [e_X6_pushSpare_21, e_X6_pushSpare_22, e_X6_pushSpare_25, e_X6_pushSpare_26, e_X6_pushSpare_29, e_X6_pushSpare_30, e_X6_pushSpare_31, e_X6_pushSpare_34, e_X6_pushSpare_35, e_X6_pushSpare_36, e_X6_pushSpare_37, e_X6_pushSpare_38, e_X6_pushSpare_39, tand, true_and, and_true, nl1_int, nl1_ref, nl1_null, nl1_ra, cat1_int, cat1_ref, cat1_null, stbs_nil, stbs_cons, stb_int, stb_long, stb_ref, stb_null, stb_ra, alv_nil, alv_cons, alv1_int, alv1_ref, alv1_null, alv1_ra, List.length_nil, List.length_cons, Nat.reduceAdd, Nat.reduceLeDiff, Nat.zero_le, Option.toList_some, Option.toList_none, List.cons_append, List.nil_append, or_true, true_or, or_false, false_or, Nat.reduceEqDiff, not_true_eq_false, not_false_eq_true, false_and, and_false, false_implies, true_implies, implies_true, ne_eq, and_self, ok1, gK_pR, gN_pR, gR_pR, if_false, if_true, a1, a5, z0, c1, c2, s3, nI_vp, l1, l2, nI_clamp, q1, zH1, kH1, nI_le0, m2]
  simp only [e_X6_pushSpare_42, tand, true_and, and_true, nl1_int, nl1_ref, nl1_null, nl1_ra, cat1_int, cat1_ref, cat1_null, stbs_nil, stbs_cons, stb_int, stb_long, stb_ref, stb_null, stb_ra, alv_nil, alv_cons, alv1_int, alv1_ref, alv1_null, alv1_ra, List.length_nil, List.length_cons, Nat.reduceAdd, Nat.reduceLeDiff, Nat.zero_le, Option.toList_some, Option.toList_none, List.cons_append, List.nil_append, or_true, true_or, or_false, false_or, Nat.reduceEqDiff, not_true_eq_false, not_false_eq_true, false_and, and_false, false_implies, true_implies, implies_true, ne_eq, and_self, ok1]
  simp (disch := omega) only [e_X6_pushSpare_21, e_X6_pushSpare_22, e_X6_pushSpare_25, e_X6_pushSpare_26, e_X6_pushSpare_29, e_X6_pushSpare_30, e_X6_pushSpare_31, e_X6_pushSpare_34, e_X6_pushSpare_35, e_X6_pushSpare_36, e_X6_pushSpare_37, e_X6_pushSpare_38, e_X6_pushSpare_39, tand, true_and, and_true, nl1_int, nl1_ref, nl1_null, nl1_ra, cat1_int, cat1_ref, cat1_null, stbs_nil, stbs_cons, stb_int, stb_long, stb_ref, stb_null, stb_ra, alv_nil, alv_cons, alv1_int, alv1_ref, alv1_null, alv1_ra, List.length_nil, List.length_cons, Nat.reduceAdd, Nat.reduceLeDiff, Nat.zero_le, Option.toList_some, Option.toList_none, List.cons_append, List.nil_append, or_true, true_or, or_false, false_or, Nat.reduceEqDiff, not_true_eq_false, not_false_eq_true, false_and, and_false, false_implies, true_implies, implies_true, ne_eq, and_self, ok1, gK_pR, gN_pR, gR_pR, if_false, if_true, a1, a5, z0, c1, c2, s4, nI_vp, l0, l1, nI_clamp, q0, zH0, kH0, nI_le0, m3]
  simp only [e_X6_pushSpare_42, tand, true_and, and_true, nl1_int, nl1_ref, nl1_null, nl1_ra, cat1_int, cat1_ref, cat1_null, stbs_nil, stbs_cons, stb_int, stb_long, stb_ref, stb_null, stb_ra, alv_nil, alv_cons, alv1_int, alv1_ref, alv1_null, alv1_ra, List.length_nil, List.length_cons, Nat.reduceAdd, Nat.reduceLeDiff, Nat.zero_le, Option.toList_some, Option.toList_none, List.cons_append, List.nil_append, or_true, true_or, or_false, false_or, Nat.reduceEqDiff, not_true_eq_false, not_false_eq_true, false_and, and_false, false_implies, true_implies, implies_true, ne_eq, and_self, ok1]
  simp (disch := omega) only [e_X6_pushSpare_21, e_X6_pushSpare_22, e_X6_pushSpare_45, e_X6_pushSpare_46, e_X6_pushSpare_49, e_X6_pushSpare_50, e_X6_pushSpare_51, e_X6_pushSpare_54, e_X6_pushSpare_55, e_X6_pushSpare_56, e_X6_pushSpare_56n, e_X6_pushSpare_57, e_X6_pushSpare_60, e_X6_pushSpare_61, e_X6_pushSpare_62, e_X6_pushSpare_65, e_X6_pushSpare_66, e_X6_pushSpare_67, e_X6_pushSpare_68, e_X6_pushSpare_71, e_X6_pushSpare_72, e_X6_pushSpare_75, e_X6_pushSpare_78, tand, true_and, and_true, nl1_int, nl1_ref, nl1_null, nl1_ra, cat1_int, cat1_ref, cat1_null, stbs_nil, stbs_cons, stb_int, stb_long, stb_ref, stb_null, stb_ra, alv_nil, alv_cons, alv1_int, alv1_ref, alv1_null, alv1_ra, List.length_nil, List.length_cons, Nat.reduceAdd, Nat.reduceLeDiff, Nat.zero_le, Option.toList_some, Option.toList_none, List.cons_append, List.nil_append, or_true, true_or, or_false, false_or, Nat.reduceEqDiff, not_true_eq_false, not_false_eq_true, false_and, and_false, false_implies, true_implies, implies_true, ne_eq, and_self, ok1, gK_pR, gN_pR, gR_pR, gI_pR, if_false, if_true, a1, a3, a5, z0, c1, c2, nI_vp, l0, nI_clamp, zS, kS, kH3, zH3, b2, nI_add, nI_min, nI_le0]
  have F := (((((F20.rf (g := g)).pR 21 3 (H 2) (Or.inr rfl)).pR 21 2 (H 1) (Or.inr rfl)).pR 21 1 (H 0) (Or.inr rfl)).pR 21 0 S (Or.inr rfl)).pR 20 1 (H 3) (Or.inl rfl)
  have F := F.pI 5 (nI (min (st + 1) 4))
  refine q _ F ⟨⟨a1, a2, rfl, a4, a5, a6⟩, ⟨b1, rfl, b3, by omega⟩, ⟨c1, c2, fun j hj => ?_⟩, fun T hT => (d T hT).far hT.big F, p.push, x.far F, y, z.same (fun _ _ _ _ => rfl) rfl rfl, u.far F.1 (fun b _ _ => F.2.1 b) (fun b _ _ => F.2.2.1 b (by omega))⟩
  have : j = 0 ∨ j = 1 ∨ j = 2 ∨ j = 3 := by omega
  rcases this with e | e | e | e <;> subst e <;> rfl
end Mai
