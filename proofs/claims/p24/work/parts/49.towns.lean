/-! ===== a town made ===== -/
def w0R : Rw := (fun j => if j = 4 then 500 else if j = 11 then 10 else if j = 12 then 100 else if j = 13 then 20 else if j = 14 then 10 else if j = 15 then 3 else 0, fun _ f => if f = 0 then 1000 else 0, fun _ _ => 0, fun _ _ => 0, fun _ _ => 0)
def KD (g : mG) (T k : Nat) : Prop := (gK g (T + 4 + 3 * k) = 1 ∧ gR g (T + 4 + 3 * k) 7 = T + 5 + 3 * k) ∧ (∀ f, gI g (T + 4 + 3 * k) f = nI (if f = 0 then 1000 else 0)) ∧ gN g (T + 6 + 3 * k) = 8 ∧ PermR g (T + 5 + 3 * k) (fun _ => 0) 0
def OD (g : mG) (T i : Nat) : Prop := (gK g (T + 22 + 3 * i) = 3 ∧ gR g (T + 22 + 3 * i) 5 = T + 23 + 3 * i) ∧ (∀ f, gI g (T + 22 + 3 * i) f = nI 0) ∧ gN g (T + 24 + 3 * i) = 8 ∧ PermR g (T + 23 + 3 * i) (fun _ => 0) 0
def BSx (g : mG) (T : Nat) : Prop := (gK g T = 6 ∧ gR g T 11 = T + 1 ∧ gR g T 12 = T + 2 ∧ gR g T 13 = T + 3) ∧ (gK g (T + 1) = 11 ∧ gN g (T + 1) = 5) ∧ (gK g (T + 2) = 14 ∧ gN g (T + 2) = 6) ∧ (gK g (T + 3) = 15 ∧ gN g (T + 3) = 17) ∧ (∀ j, j < 11 → gI g T j = nI (w0R.1 j)) ∧ ∀ s, s < 5 → gI g (T + 1) s = nI (w0R.1 (11 + s))
theorem KD.nf {X : Nat → Prop} {g g' : mG} {T k c s : Nat} (h : KD g T k) (f : NF X g g' c s) (hT : 100 ≤ T) (h1 : ¬ X (T + 4 + 3 * k)) (h2 : ¬ X (T + 5 + 3 * k)) (h3 : ¬ X (T + 6 + 3 * k)) : KD g' T k := by
  obtain ⟨⟨a1, a2⟩, b, c', d⟩ := h
  have f1 := f.1 _ h1
  have f3 := f.1 _ h3
  have f12 := f1.2 (by omega)
  have f32 := f3.2 (by omega)
  exact ⟨⟨by rw [f1.1]; exact a1, by rw [f12.2.2]; exact a2⟩, fun x => by rw [f12.2.1]; exact b x, by rw [f32.1]; exact c', d.nf f h2 (by rw [show T + 5 + 3 * k + 1 = T + 6 + 3 * k by omega]; exact h3) (by omega) (by omega)⟩
theorem OD.nf {X : Nat → Prop} {g g' : mG} {T k c s : Nat} (h : OD g T k) (f : NF X g g' c s) (hT : 100 ≤ T) (h1 : ¬ X (T + 22 + 3 * k)) (h2 : ¬ X (T + 23 + 3 * k)) (h3 : ¬ X (T + 24 + 3 * k)) : OD g' T k := by
  obtain ⟨⟨a1, a2⟩, b, c', d⟩ := h
  have f1 := f.1 _ h1
  have f3 := f.1 _ h3
  have f12 := f1.2 (by omega)
  have f32 := f3.2 (by omega)
  exact ⟨⟨by rw [f1.1]; exact a1, by rw [f12.2.2]; exact a2⟩, fun x => by rw [f12.2.1]; exact b x, by rw [f32.1]; exact c', d.nf f h2 (by rw [show T + 23 + 3 * k + 1 = T + 24 + 3 * k by omega]; exact h3) (by omega) (by omega)⟩
theorem BSx.nf {X : Nat → Prop} {g g' : mG} {T c s : Nat} (h : BSx g T) (f : NF X g g' c s) (hT : 100 ≤ T) (hX : ∀ b, T ≤ b → b < T + 4 → ¬ X b) : BSx g' T := by
  obtain ⟨⟨a1, a2, a3, a4⟩, ⟨b1, b2⟩, ⟨c1, c2⟩, ⟨d1, d2⟩, e1, e2⟩ := h
  have f0 := f.1 T (hX _ (by omega) (by omega))
  have f1 := f.1 (T + 1) (hX _ (by omega) (by omega))
  have f2 := f.1 (T + 2) (hX _ (by omega) (by omega))
  have f3 := f.1 (T + 3) (hX _ (by omega) (by omega))
  have r0 := f0.2 (by omega)
  have r1 := f1.2 (by omega)
  have r2 := f2.2 (by omega)
  have r3 := f3.2 (by omega)
  exact ⟨⟨by rw [f0.1]; exact a1, by rw [r0.2.2]; exact a2, by rw [r0.2.2]; exact a3, by rw [r0.2.2]; exact a4⟩, ⟨by rw [f1.1]; exact b1, by rw [r1.1]; exact b2⟩, ⟨by rw [f2.1]; exact c1, by rw [r2.1]; exact c2⟩, ⟨by rw [f3.1]; exact d1, by rw [r3.1]; exact d2⟩, by rw [r0.2.1]; exact e1, by rw [r1.2.1]; exact e2⟩
theorem BSx.pR {g : mG} {T a k v : Nat} (h : BSx g T) (ha : a ≠ T) : BSx (pR g a k v) T := by
  obtain ⟨⟨a1, a2, a3, a4⟩, r⟩ := h
  exact ⟨⟨a1, by rw [gR_pR, if_neg (Ne.symm ha)]; exact a2, by rw [gR_pR, if_neg (Ne.symm ha)]; exact a3, by rw [gR_pR, if_neg (Ne.symm ha)]; exact a4⟩, r⟩
theorem KD.pR {g : mG} {T a k j v : Nat} (h : KD g T k) (ha : a < T + 4) : KD (pR g a j v) T k := by
  obtain ⟨⟨a1, a2⟩, b, c, d⟩ := h
  exact ⟨⟨a1, by rw [gR_pR, if_neg (by omega)]; exact a2⟩, b, c, d⟩
theorem OD.pR {g : mG} {T a k j v : Nat} (h : OD g T k) (ha : a < T + 4) : OD (pR g a j v) T k := by
  obtain ⟨⟨a1, a2⟩, b, c, d⟩ := h
  exact ⟨⟨a1, by rw [gR_pR, if_neg (by omega)]; exact a2⟩, b, c, d⟩
def XN (T : Nat) : Nat → Prop := fun b => T ≤ b ∧ b < T + 100
/-- a kilns and b places made -/
def MK (g0 g : mG) (T a b : Nat) : Prop := NF (XN T) g0 g (3 + 3 * a + 3 * b) (28 + 19 * a + 17 * b) ∧ BSx g T ∧ (∀ k, k < a → KD g T k ∧ gR g (T + 2) k = T + 4 + 3 * k) ∧ (∀ i, i < b → OD g T i ∧ gR g (T + 3) i = T + 22 + 3 * i) ∧ (∀ z, T + 4 + 3 * a ≤ z → z < T + 22 → gK g z = 0) ∧ ∀ z, T + 22 + 3 * b ≤ z → z < T + 100 → gK g z = 0
section Mtn
variable {g0 : mG} {Q : mQ} {T : Nat}
theorem town_kilns (hT : 100 ≤ T) (q : ∀ g', Scr g' → MK g0 g' T 6 0 → WP m_X5_init Q 72 [.ref T, .int (nI 6)] [] g') : ∀ (k i : Nat) {g : mG}, i + k = 6 → Scr g → MK g0 g T i 0 → WP m_X5_init Q 44 [.ref T, .int (nI i)] [] g := by
  intro k
  induction k with
  | zero =>
    intro i g hi hS hM
    obtain ⟨⟨a1, a2, a3, a4⟩, ⟨b1, b2⟩, ⟨c1, c2⟩, ⟨d1, d2⟩, e1, e2⟩ := id hM.2.1
    have hi2 : i = 6 := by omega
    subst hi2
    have z : T + 2 ≠ 0 := by omega
    simp (disch := omega) only [e_X5_init_44, e_X5_init_45, e_X5_init_46, e_X5_init_49, e_X5_init_50, tand, true_and, and_true, nl1_int, nl1_ref, nl1_null, nl1_ra, cat1_int, cat1_ref, cat1_null, stbs_nil, stbs_cons, stb_int, stb_long, stb_ref, stb_null, stb_ra, alv_nil, alv_cons, alv1_int, alv1_ref, alv1_null, alv1_ra, List.length_nil, List.length_cons, Nat.reduceAdd, Nat.reduceLeDiff, Nat.zero_le, Option.toList_some, Option.toList_none, List.cons_append, List.nil_append, or_true, true_or, or_false, false_or, Nat.reduceEqDiff, not_true_eq_false, not_false_eq_true, false_and, and_false, false_implies, true_implies, implies_true, ne_eq, and_self, ok1, a1, a3, z, c1, c2, nI_leE]
    exact q g hS hM
  | succ k ih =>
    intro i g hi hS hM
    obtain ⟨hN, hB, hK, hO, hf1, hf2⟩ := id hM
    obtain ⟨⟨a1, a2, a3, a4⟩, ⟨b1, b2⟩, ⟨c1, c2⟩, ⟨d1, d2⟩, e1, e2⟩ := id hB
    have hlt : i < 6 := by omega
    have hlt2 : ¬ 6 ≤ i := by omega
    have z : T + 2 ≠ 0 := by omega
    simp (disch := omega) only [e_X5_init_44, e_X5_init_45, e_X5_init_46, e_X5_init_49, e_X5_init_50, e_X5_init_53, e_X5_init_54, e_X5_init_57, e_X5_init_58, tand, true_and, and_true, nl1_int, nl1_ref, nl1_null, nl1_ra, cat1_int, cat1_ref, cat1_null, stbs_nil, stbs_cons, stb_int, stb_long, stb_ref, stb_null, stb_ra, alv_nil, alv_cons, alv1_int, alv1_ref, alv1_null, alv1_ra, List.length_nil, List.length_cons, Nat.reduceAdd, Nat.reduceLeDiff, Nat.zero_le, Option.toList_some, Option.toList_none, List.cons_append, List.nil_append, or_true, true_or, or_false, false_or, Nat.reduceEqDiff, not_true_eq_false, not_false_eq_true, false_and, and_false, false_implies, true_implies, implies_true, ne_eq, and_self, ok1, a1, a3, z, c1, c2, nI_leE, hlt2, frsh]
    have k0 := hf1 (T + 4 + 3 * i) (by omega) (by omega)
    have k1 := hf1 (T + 4 + 3 * i + 1) (by omega) (by omega)
    have k2 := hf1 (T + 4 + 3 * i + 2) (by omega) (by omega)
    have kp : gK g (T + 4 + 3 * i - 1) ≠ 5 := by
      by_cases h0 : i = 0
      · rw [h0, show T + 4 + 3 * 0 - 1 = T + 3 by omega, d1]; decide
      · have := (hK (i - 1) (by omega)).1.2.2.2.2.1
        rw [show T + 5 + 3 * (i - 1) + 1 = T + 4 + 3 * i - 1 by omega] at this
        rw [this]; decide
    have zl : T + 4 + 3 * i ≠ 0 := by omega
    refine ⟨T + 4 + 3 * i, ⟨k0, kp, zl⟩, ?_⟩
    generalize hA : T + 4 + 3 * i = A at *
    have e1' : gK (nw g A 1 0 (xn 1) fun _ => 0) A = 1 := by rw [gK_nw, if_pos rfl]
    have F : NF (fun b => b = A ∨ b = A + 1 ∨ b = A + 2) g (nw g A 1 0 (xn 1) fun _ => 0) 1 8 := NF.nw (Or.inl rfl)
    have eT : gK (nw g A 1 0 (xn 1) fun _ => 0) T = 6 := by rw [gK_nw, if_neg (by omega)]; exact a1
    have eT2 : gK (nw g A 1 0 (xn 1) fun _ => 0) (T + 2) = 14 := by rw [gK_nw, if_neg (by omega)]; exact c1
    simp (disch := omega) only [e_X5_init_61, e_X5_init_62, tand, true_and, and_true, nl1_int, nl1_ref, nl1_null, nl1_ra, cat1_int, cat1_ref, cat1_null, stbs_nil, stbs_cons, stb_int, stb_long, stb_ref, stb_null, stb_ra, alv_nil, alv_cons, alv1_int, alv1_ref, alv1_null, alv1_ra, List.length_nil, List.length_cons, Nat.reduceAdd, Nat.reduceLeDiff, Nat.zero_le, Option.toList_some, Option.toList_none, List.cons_append, List.nil_append, or_true, true_or, or_false, false_or, Nat.reduceEqDiff, not_true_eq_false, not_false_eq_true, false_and, and_false, false_implies, true_implies, implies_true, ne_eq, and_self, ok1, e1', eT, eT2]
    refine c_X0_init e1' (by rw [gK_nw, if_neg (by omega)]; exact k1) (by rw [gK_nw, if_neg (by omega)]; exact k2) (by rw [gI_nw, if_pos rfl]) (by omega) (F.scr hS (by omega) (by omega)) fun g2 F2 y1 y2 y3 y4 y5 => ?_
    have F3 := F.tr F2
    have nX : ∀ b, (b < A ∨ A + 3 ≤ b) → ¬ (b = A ∨ b = A + 1 ∨ b = A + 2) := fun b hb => by omega
    have hB3 := hB.nf F3 hT fun b h1 h2 => nX b (by omega)
    obtain ⟨_, _, ⟨c1', c2'⟩, _⟩ := id hB3
    have zA : A ≠ 0 := by omega
    simp (disch := omega) only [e_X5_init_65, e_X5_init_66, tand, true_and, and_true, nl1_int, nl1_ref, nl1_null, nl1_ra, cat1_int, cat1_ref, cat1_null, stbs_nil, stbs_cons, stb_int, stb_long, stb_ref, stb_null, stb_ra, alv_nil, alv_cons, alv1_int, alv1_ref, alv1_null, alv1_ra, List.length_nil, List.length_cons, Nat.reduceAdd, Nat.reduceLeDiff, Nat.zero_le, Option.toList_some, Option.toList_none, List.cons_append, List.nil_append, or_true, true_or, or_false, false_or, Nat.reduceEqDiff, not_true_eq_false, not_false_eq_true, false_and, and_false, false_implies, true_implies, implies_true, ne_eq, and_self, ok1, c1', c2', nI_vp, hlt, nI_clamp, y1, zA, nI_add]
    simp only [e_X5_init_69, tand, true_and, and_true, nl1_int, nl1_ref, nl1_null, nl1_ra, cat1_int, cat1_ref, cat1_null, stbs_nil, stbs_cons, stb_int, stb_long, stb_ref, stb_null, stb_ra, alv_nil, alv_cons, alv1_int, alv1_ref, alv1_null, alv1_ra, List.length_nil, List.length_cons, Nat.reduceAdd, Nat.reduceLeDiff, Nat.zero_le, Option.toList_some, Option.toList_none, List.cons_append, List.nil_append, or_true, true_or, or_false, false_or, Nat.reduceEqDiff, not_true_eq_false, not_false_eq_true, false_and, and_false, false_implies, true_implies, implies_true, ne_eq, and_self, ok1]
    have hS3 : Scr g2 := F3.scr hS (by omega) (by omega)
    refine ih (i + 1) (by omega) hS3 ⟨?_, hB3.pR (by omega), fun k' hk' => ?_, fun i' hi' => absurd hi' (Nat.not_lt_zero _), fun z h1 h2 => ?_, fun z h1 h2 => ?_⟩
    · refine (hN.tr (((F3.up (Y := XN T) (fun b hb => by unfold XN; omega) (Nat.le_refl _) (Nat.le_refl _))).tr (NF.pR (a := T + 2) (by unfold XN; omega)))).up (fun _ h => h) (by omega) (by omega)
    · by_cases hki : k' = i
      · refine ⟨KD.pR ?_ (by omega), by rw [gR_pR, if_pos rfl, if_pos hki, hki]; omega⟩
        subst hki
        unfold KD
        rw [show T + 5 + 3 * k' = A + 1 by omega, show T + 6 + 3 * k' = A + 2 by omega, hA]
        exact ⟨⟨y1, y3⟩, y2, y4, y5⟩
      · obtain ⟨q1, q2⟩ := hK k' (by omega)
        refine ⟨(q1.nf F3 hT (nX _ (by omega)) (nX _ (by omega)) (nX _ (by omega))).pR (by omega), ?_⟩
        rw [gR_pR, if_pos rfl, if_neg hki, ((F3.1 (T + 2) (nX _ (by omega))).2 (by omega)).2.2]
        exact q2
    · show gK g2 z = 0
      rw [(F3.1 z (nX _ (by omega))).1]
      exact hf1 z (by omega) h2
    · show gK g2 z = 0
      rw [(F3.1 z (nX _ (by omega))).1]
      exact hf2 z h1 h2
theorem town_places (hT : 100 ≤ T) (q : ∀ g', Scr g' → MK g0 g' T 6 17 → Q none g') : ∀ (k i : Nat) {g : mG}, i + k = 17 → Scr g → MK g0 g T 6 i → WP m_X5_init Q 74 [.ref T, .int (nI i)] [] g := by
  intro k
  induction k with
  | zero =>
    intro i g hi hS hM
    obtain ⟨⟨a1, a2, a3, a4⟩, ⟨b1, b2⟩, ⟨c1, c2⟩, ⟨d1, d2⟩, e1, e2⟩ := id hM.2.1
    have hi2 : i = 17 := by omega
    subst hi2
    have z : T + 3 ≠ 0 := by omega
    simp (disch := omega) only [e_X5_init_74, e_X5_init_75, e_X5_init_76, e_X5_init_79, e_X5_init_80, e_X5_init_102, tand, true_and, and_true, nl1_int, nl1_ref, nl1_null, nl1_ra, cat1_int, cat1_ref, cat1_null, stbs_nil, stbs_cons, stb_int, stb_long, stb_ref, stb_null, stb_ra, alv_nil, alv_cons, alv1_int, alv1_ref, alv1_null, alv1_ra, List.length_nil, List.length_cons, Nat.reduceAdd, Nat.reduceLeDiff, Nat.zero_le, Option.toList_some, Option.toList_none, List.cons_append, List.nil_append, or_true, true_or, or_false, false_or, Nat.reduceEqDiff, not_true_eq_false, not_false_eq_true, false_and, and_false, false_implies, true_implies, implies_true, ne_eq, and_self, ok1, a1, a4, z, d1, d2, nI_leE]
    exact q g hS hM
  | succ k ih =>
    intro i g hi hS hM
    obtain ⟨hN, hB, hK, hO, hf1, hf2⟩ := id hM
    obtain ⟨⟨a1, a2, a3, a4⟩, ⟨b1, b2⟩, ⟨c1, c2⟩, ⟨d1, d2⟩, e1, e2⟩ := id hB
    have hlt : i < 17 := by omega
    have hlt2 : ¬ 17 ≤ i := by omega
    have z : T + 3 ≠ 0 := by omega
    simp (disch := omega) only [e_X5_init_74, e_X5_init_75, e_X5_init_76, e_X5_init_79, e_X5_init_80, e_X5_init_83, e_X5_init_84, e_X5_init_87, e_X5_init_88, tand, true_and, and_true, nl1_int, nl1_ref, nl1_null, nl1_ra, cat1_int, cat1_ref, cat1_null, stbs_nil, stbs_cons, stb_int, stb_long, stb_ref, stb_null, stb_ra, alv_nil, alv_cons, alv1_int, alv1_ref, alv1_null, alv1_ra, List.length_nil, List.length_cons, Nat.reduceAdd, Nat.reduceLeDiff, Nat.zero_le, Option.toList_some, Option.toList_none, List.cons_append, List.nil_append, or_true, true_or, or_false, false_or, Nat.reduceEqDiff, not_true_eq_false, not_false_eq_true, false_and, and_false, false_implies, true_implies, implies_true, ne_eq, and_self, ok1, a1, a4, z, d1, d2, nI_leE, hlt2, frsh]
    have k0 := hf2 (T + 22 + 3 * i) (by omega) (by omega)
    have k1 := hf2 (T + 22 + 3 * i + 1) (by omega) (by omega)
    have k2 := hf2 (T + 22 + 3 * i + 2) (by omega) (by omega)
    have kp : gK g (T + 22 + 3 * i - 1) ≠ 5 := by
      by_cases h0 : i = 0
      · have := (hK 5 (by omega)).1.2.2.2.2.1
        rw [show T + 5 + 3 * 5 + 1 = T + 22 + 3 * i - 1 by omega] at this
        rw [this]; decide
      · have := (hO (i - 1) (by omega)).1.2.2.2.2.1
        rw [show T + 23 + 3 * (i - 1) + 1 = T + 22 + 3 * i - 1 by omega] at this
        rw [this]; decide
    have zl : T + 22 + 3 * i ≠ 0 := by omega
    refine ⟨T + 22 + 3 * i, ⟨k0, kp, zl⟩, ?_⟩
    generalize hA : T + 22 + 3 * i = A at *
    have e1' : gK (nw g A 3 0 (xn 3) fun _ => 0) A = 3 := by rw [gK_nw, if_pos rfl]
    have F : NF (fun b => b = A ∨ b = A + 1 ∨ b = A + 2) g (nw g A 3 0 (xn 3) fun _ => 0) 1 6 := NF.nw (Or.inl rfl)
    have eT : gK (nw g A 3 0 (xn 3) fun _ => 0) T = 6 := by rw [gK_nw, if_neg (by omega)]; exact a1
    have eT2 : gK (nw g A 3 0 (xn 3) fun _ => 0) (T + 3) = 15 := by rw [gK_nw, if_neg (by omega)]; exact d1
    simp (disch := omega) only [e_X5_init_91, e_X5_init_92, tand, true_and, and_true, nl1_int, nl1_ref, nl1_null, nl1_ra, cat1_int, cat1_ref, cat1_null, stbs_nil, stbs_cons, stb_int, stb_long, stb_ref, stb_null, stb_ra, alv_nil, alv_cons, alv1_int, alv1_ref, alv1_null, alv1_ra, List.length_nil, List.length_cons, Nat.reduceAdd, Nat.reduceLeDiff, Nat.zero_le, Option.toList_some, Option.toList_none, List.cons_append, List.nil_append, or_true, true_or, or_false, false_or, Nat.reduceEqDiff, not_true_eq_false, not_false_eq_true, false_and, and_false, false_implies, true_implies, implies_true, ne_eq, and_self, ok1, e1', eT, eT2]
    refine c_X2_init e1' (by rw [gK_nw, if_neg (by omega)]; exact k1) (by rw [gK_nw, if_neg (by omega)]; exact k2) (by rw [gI_nw, if_pos rfl]) (by omega) (F.scr hS (by omega) (by omega)) fun g2 F2 y1 y2 y3 y4 y5 => ?_
    have F3 := F.tr F2
    have nX : ∀ b, (b < A ∨ A + 3 ≤ b) → ¬ (b = A ∨ b = A + 1 ∨ b = A + 2) := fun b hb => by omega
    have hB3 := hB.nf F3 hT fun b h1 h2 => nX b (by omega)
    obtain ⟨_, _, _, ⟨c1', c2'⟩, _⟩ := id hB3
    have zA : A ≠ 0 := by omega
    simp (disch := omega) only [e_X5_init_95, e_X5_init_96, tand, true_and, and_true, nl1_int, nl1_ref, nl1_null, nl1_ra, cat1_int, cat1_ref, cat1_null, stbs_nil, stbs_cons, stb_int, stb_long, stb_ref, stb_null, stb_ra, alv_nil, alv_cons, alv1_int, alv1_ref, alv1_null, alv1_ra, List.length_nil, List.length_cons, Nat.reduceAdd, Nat.reduceLeDiff, Nat.zero_le, Option.toList_some, Option.toList_none, List.cons_append, List.nil_append, or_true, true_or, or_false, false_or, Nat.reduceEqDiff, not_true_eq_false, not_false_eq_true, false_and, and_false, false_implies, true_implies, implies_true, ne_eq, and_self, ok1, c1', c2', nI_vp, hlt, nI_clamp, y1, zA, nI_add]
    simp only [e_X5_init_99, tand, true_and, and_true, nl1_int, nl1_ref, nl1_null, nl1_ra, cat1_int, cat1_ref, cat1_null, stbs_nil, stbs_cons, stb_int, stb_long, stb_ref, stb_null, stb_ra, alv_nil, alv_cons, alv1_int, alv1_ref, alv1_null, alv1_ra, List.length_nil, List.length_cons, Nat.reduceAdd, Nat.reduceLeDiff, Nat.zero_le, Option.toList_some, Option.toList_none, List.cons_append, List.nil_append, or_true, true_or, or_false, false_or, Nat.reduceEqDiff, not_true_eq_false, not_false_eq_true, false_and, and_false, false_implies, true_implies, implies_true, ne_eq, and_self, ok1]
    have hS3 : Scr g2 := F3.scr hS (by omega) (by omega)
    refine ih (i + 1) (by omega) hS3 ⟨?_, hB3.pR (by omega), fun k' hk' => ?_, fun i' hi' => ?_, fun z h1 h2 => absurd h1 (by omega), fun z h1 h2 => ?_⟩
    · refine (hN.tr (((F3.up (Y := XN T) (fun b hb => by unfold XN; omega) (Nat.le_refl _) (Nat.le_refl _))).tr (NF.pR (a := T + 3) (by unfold XN; omega)))).up (fun _ h => h) (by omega) (by omega)
    · obtain ⟨q1, q2⟩ := hK k' (by omega)
      refine ⟨(q1.nf F3 hT (nX _ (by omega)) (nX _ (by omega)) (nX _ (by omega))).pR (by omega), ?_⟩
      rw [gR_pR, if_neg (by omega), ((F3.1 (T + 2) (nX _ (by omega))).2 (by omega)).2.2]
      exact q2
    · by_cases hki : i' = i
      · refine ⟨OD.pR ?_ (by omega), by rw [gR_pR, if_pos rfl, if_pos hki, hki]; omega⟩
        subst hki
        unfold OD
        rw [show T + 23 + 3 * i' = A + 1 by omega, show T + 24 + 3 * i' = A + 2 by omega, hA]
        exact ⟨⟨y1, y3⟩, y2, y4, y5⟩
      · obtain ⟨q1, q2⟩ := hO i' (by omega)
        refine ⟨(q1.nf F3 hT (nX _ (by omega)) (nX _ (by omega)) (nX _ (by omega))).pR (by omega), ?_⟩
        rw [gR_pR, if_pos rfl, if_neg hki, ((F3.1 (T + 3) (nX _ (by omega))).2 (by omega)).2.2]
        exact q2
    · show gK g2 z = 0
      rw [(F3.1 z (nX _ (by omega))).1]
      exact hf2 z (by omega) h2
end Mtn
