/-! ===== the model is made ===== -/
theorem TxR.nf {X : Nat → Prop} {g g' : mG} {t : Nat → Nat} {n c s : Nat} (h : TxR g t n) (F : NF X g g' c s) (hX : ∀ b, 22 ≤ b → b < 34 → ¬ X b) : TxR g' t n := by
  obtain ⟨⟨a1, a2, a3⟩, ⟨b1, b2⟩, ⟨c1, c2⟩, d, e, z, y⟩ := h
  have f : ∀ b, 22 ≤ b → b < 34 → gK g' b = gK g b ∧ gN g' b = gN g b ∧ gI g' b = gI g b ∧ ∀ k, gR g' b k = gR g b k := fun b b1 b2 => by
    have q := F.1 b (hX b b1 b2)
    exact ⟨q.1, q.2 (by omega)⟩
  obtain ⟨p1, p2, p3, p4⟩ := f 22 (by decide) (by decide)
  obtain ⟨q1, q2, q3, q4⟩ := f 23 (by decide) (by decide)
  obtain ⟨r1, r2, r3, r4⟩ := f 24 (by decide) (by decide)
  exact ⟨⟨p1.trans a1, (p4 0).trans a2, (p4 2).trans a3⟩, ⟨q1.trans b1, q2.trans b2⟩, ⟨r1.trans c1, r2.trans c2⟩, fun i hi => ⟨(r4 i).trans (d i hi).1, (f (25 + i) (by omega) (by omega)).1.trans (d i hi).2⟩, by rw [p3]; exact e, z, by rw [q3]; exact y⟩
theorem MA.nf {g g' : mG} {w snap : Rw} {hist : Nat → Rw} {st kept n c s : Nat} {t : Nat → Nat} (h : MA g w hist st kept snap t n) (F : NF XD g g' c s) (hJ : JR g') : MA g' w hist st kept snap t n := by
  obtain ⟨W, N, S, H, ⟨⟨a1, a2, a3, a4, a5, a6⟩, ⟨b1, b2, b3, b4⟩, ⟨c1, c2, c3⟩, d, p, x, y, z, v⟩, e⟩ := h
  have nX : ∀ b, b < 40 ∨ 47 ≤ b → ¬ XD b := fun b hb q => by unfold XD at q; omega
  have f : ∀ b, b < 40 ∨ 47 ≤ b → b ≠ 9 → gK g' b = gK g b ∧ gN g' b = gN g b ∧ gI g' b = gI g b ∧ ∀ k, gR g' b k = gR g b k := fun b hb h9 => by
    have q := F.1 b (nX b hb)
    exact ⟨q.1, q.2 h9⟩
  obtain ⟨p1, p2, p3, p4⟩ := f 20 (by decide) (by decide)
  obtain ⟨q1, q2, q3, q4⟩ := f 21 (by decide) (by decide)
  refine ⟨W, N, S, H, ⟨⟨p1.trans a1, (p4 0).trans a2, (p4 1).trans a3, (p4 2).trans a4, (p4 4).trans a5, (p4 6).trans a6⟩, ⟨by rw [p3]; exact b1, by rw [p3]; exact b2, b3, b4⟩, ⟨q1.trans c1, q2.trans c2, fun j hj => (q4 j).trans (c3 j hj)⟩, fun T hT => (d T hT).nf hT.big F fun b b1 b2 => nX b (by have := hT.big; omega), p, x.nf F fun b b1 b2 => nX b (by omega), F.scr y (nX 8 (by decide)) (nX 9 (by decide)), hJ, v.nf F fun b b1 b2 => nX b (by omega)⟩, e⟩
/-- m of the model's rows are made -/
def BM (g0 g : mG) (m s : Nat) : Prop := (gK g 40 = 8 ∧ gI g 40 = fun _ => 0) ∧ (∀ j, j < m → gR g 40 j = 41 + j ∧ gK g (41 + j) = 11 ∧ gN g (41 + j) = mL (41 + j) ∧ gI g (41 + j) = fun _ => 0) ∧ (∀ z, 41 + m ≤ z → z < 47 → gK g z = 0) ∧ NF XD g0 g m s
section Min
variable {g0 g : mG} {Q : mQ}
theorem BM.next {m s n : Nat} (h : BM g0 g m s) (hm : m < 6) (hn : mL (41 + m) = n) : (gK g (41 + m) = 0 ∧ gK g (41 + m - 1) ≠ 5 ∧ (41 + m) ≠ 0) ∧ gK (nw g (41 + m) 11 n n (fun _ => 0)) 40 = 8 ∧ gK (nw g (41 + m) 11 n n (fun _ => 0)) (41 + m) = 11 ∧ BM g0 (pR (nw g (41 + m) 11 n n (fun _ => 0)) 40 m (41 + m)) (m + 1) (s + n) := by
  obtain ⟨⟨h1, h2⟩, h3, h4, h5⟩ := h
  refine ⟨⟨h4 _ (by omega) (by omega), ?_, by omega⟩, by rw [gK_nw, if_neg (by omega)]; exact h1, by rw [gK_nw, if_pos rfl], ⟨?_, ?_⟩, fun j hj => ?_, fun z z1 z2 => ?_, ?_⟩
  · by_cases e : m = 0
    · rw [e, h1]; decide
    · have := (h3 (m - 1) (by omega)).2.1
      rw [show 41 + m - 1 = 41 + (m - 1) by omega, this]
      decide
  · rw [gK_pR, gK_nw, if_neg (by omega)]; exact h1
  · rw [gI_pR, gI_nw, if_neg (by omega)]; exact h2
  · by_cases e : j = m
    · subst e
      refine ⟨by rw [gR_pR, if_pos rfl, if_pos rfl], by rw [gK_pR, gK_nw, if_pos rfl], by rw [gN_pR, gN_nw, if_pos rfl]; exact hn.symm, by rw [gI_pR, gI_nw, if_pos rfl]⟩
    · obtain ⟨k1, k2, k3, k4⟩ := h3 j (by omega)
      exact ⟨by rw [gR_pR, if_pos rfl, if_neg e, gR_nw, if_neg (by omega)]; exact k1, by rw [gK_pR, gK_nw, if_neg (by omega)]; exact k2, by rw [gN_pR, gN_nw, if_neg (by omega)]; exact k3, by rw [gI_pR, gI_nw, if_neg (by omega)]; exact k4⟩
  · rw [gK_pR, gK_nw, if_neg (by omega)]
    exact h4 z (by omega) z2
  · exact (h5.tr (NF.nw (XD.of (by omega) (by omega)))).tr (NF.pR (XD.of (by decide) (by decide)))
theorem minit_loop {A0 : Nat → Nat → Nat} {a : Nat → Nat} (q : ∀ g' a', MT g0 g' A0 a' → (∀ i, a' i = if 20 ≤ i ∧ i < 26 then 1000 else a i) → Q none g') : ∀ (d k : Nat) {g : mG} {a' : Nat → Nat}, k + d = 6 → MT g0 g A0 a' → (∀ i, a' i = if 20 ≤ i ∧ i < 20 + k then 1000 else a i) → WP m_X7_init Q 110 [.ref 40, .int (nI k)] [] g := by
  intro d
  induction d with
  | zero =>
    intro k g a' hk M hM
    have e : k = 6 := by omega
    subst e
    simp (disch := omega) only [e_X7_init_110, e_X7_init_111, e_X7_init_113, e_X7_init_134, tand, true_and, and_true, nl1_int, nl1_ref, nl1_null, nl1_ra, cat1_int, cat1_ref, cat1_null, stbs_nil, stbs_cons, stb_int, stb_long, stb_ref, stb_null, stb_ra, alv_nil, alv_cons, alv1_int, alv1_ref, alv1_null, alv1_ra, List.length_nil, List.length_cons, Nat.reduceAdd, Nat.reduceLeDiff, Nat.zero_le, Option.toList_some, Option.toList_none, List.cons_append, List.nil_append, or_true, true_or, or_false, false_or, Nat.reduceEqDiff, not_true_eq_false, not_false_eq_true, false_and, and_false, false_implies, true_implies, implies_true, ne_eq, and_self, ok1, nI_leE, Nat.le_refl]
    exact q g a' M hM
  | succ d ih =>
    intro k g a' hk M hM
    have hle : ¬ 6 ≤ k := by omega
    simp (disch := omega) only [e_X7_init_110, e_X7_init_111, e_X7_init_113, e_X7_init_116, e_X7_init_117, e_X7_init_120, e_X7_init_122, e_X7_init_123, e_X7_init_124, e_X7_init_127, e_X7_init_128, tand, true_and, and_true, nl1_int, nl1_ref, nl1_null, nl1_ra, cat1_int, cat1_ref, cat1_null, stbs_nil, stbs_cons, stb_int, stb_long, stb_ref, stb_null, stb_ra, alv_nil, alv_cons, alv1_int, alv1_ref, alv1_null, alv1_ra, List.length_nil, List.length_cons, Nat.reduceAdd, Nat.reduceLeDiff, Nat.zero_le, Option.toList_some, Option.toList_none, List.cons_append, List.nil_append, or_true, true_or, or_false, false_or, Nat.reduceEqDiff, not_true_eq_false, not_false_eq_true, false_and, and_false, false_implies, true_implies, implies_true, ne_eq, and_self, ok1, M.k40, M.r40, z41, M.k41, M.n41, isIA, vpT, nI_clamp, nI_add, M.rd, gK_pI, gN_pI, gR_pI, gI_same, gI_diff, u1_eq, u1_ne, nI_leE, hle]
    simp only [e_X7_init_131, tand, true_and, and_true, nl1_int, nl1_ref, nl1_null, nl1_ra, cat1_int, cat1_ref, cat1_null, stbs_nil, stbs_cons, stb_int, stb_long, stb_ref, stb_null, stb_ra, alv_nil, alv_cons, alv1_int, alv1_ref, alv1_null, alv1_ra, List.length_nil, List.length_cons, Nat.reduceAdd, Nat.reduceLeDiff, Nat.zero_le, Option.toList_some, Option.toList_none, List.cons_append, List.nil_append, or_true, true_or, or_false, false_or, Nat.reduceEqDiff, not_true_eq_false, not_false_eq_true, false_and, and_false, false_implies, true_implies, implies_true, ne_eq, and_self, ok1]
    refine ih (k + 1) (by omega) (M.set (20 + k) 1000) fun i => ?_
    unfold u1
    by_cases h1 : i = 20 + k
    · rw [if_pos h1, if_pos (by omega)]
    · rw [if_neg h1, hM]
      by_cases h2 : 20 ≤ i ∧ i < 20 + k
      · rw [if_pos h2, if_pos (by omega)]
      · rw [if_neg h2, if_neg (by omega)]
theorem c_X7_init (h8 : gK g 40 = 8) (hz : gI g 40 = fun _ => 0) (hf : ∀ z, 41 ≤ z → z < 47 → gK g z = 0) (q : ∀ g', NF XD g g' 6 162148 → MB g' w0R (fun _ => w0R) 0 0 w0R (fun _ => 0) 0 → Q none g') : w_X7_init [.ref 40] g Q := by
  refine wm_at rfl ⟨trivial, trivial⟩ (show WP m_X7_init Q 0 [.ref 40, .retAddr 0] [] g from ?_)
  have B0 : BM g g 0 0 := ⟨⟨h8, hz⟩, fun j hj => absurd hj (Nat.not_lt_zero j), fun z z1 z2 => hf z (by omega) z2, NF.rf⟩
  have lt : ∀ n, n < 2 ^ 30 → ¬ nI n < 0 := fun n hn => by
    rw [nI_lt0 (by omega)]
    exact fun z => z
  simp (disch := omega) only [e_X7_init_0, e_X7_init_1, e_X7_init_4, e_X7_init_5, tand, true_and, and_true, nl1_int, nl1_ref, nl1_null, nl1_ra, cat1_int, cat1_ref, cat1_null, stbs_nil, stbs_cons, stb_int, stb_long, stb_ref, stb_null, stb_ra, alv_nil, alv_cons, alv1_int, alv1_ref, alv1_null, alv1_ra, List.length_nil, List.length_cons, Nat.reduceAdd, Nat.reduceLeDiff, Nat.zero_le, Option.toList_some, Option.toList_none, List.cons_append, List.nil_append, or_true, true_or, or_false, false_or, Nat.reduceEqDiff, not_true_eq_false, not_false_eq_true, false_and, and_false, false_implies, true_implies, implies_true, ne_eq, and_self, ok1]
  obtain ⟨x1, x2, x3, B1⟩ := B0.next (n := 23144) (by decide) rfl
  simp (disch := omega) only [e_X7_init_8, tand, true_and, and_true, nl1_int, nl1_ref, nl1_null, nl1_ra, cat1_int, cat1_ref, cat1_null, stbs_nil, stbs_cons, stb_int, stb_long, stb_ref, stb_null, stb_ra, alv_nil, alv_cons, alv1_int, alv1_ref, alv1_null, alv1_ra, List.length_nil, List.length_cons, Nat.reduceAdd, Nat.reduceLeDiff, Nat.zero_le, Option.toList_some, Option.toList_none, List.cons_append, List.nil_append, or_true, true_or, or_false, false_or, Nat.reduceEqDiff, not_true_eq_false, not_false_eq_true, false_and, and_false, false_implies, true_implies, implies_true, ne_eq, and_self, ok1, nI_clamp]
  refine ⟨41, ⟨x1, lt _ (by decide), by rw [h8]; decide⟩, ?_⟩
  simp only [Nat.add_zero] at x2 x3 B1
  have z41' : (41 : Nat) ≠ 0 := by decide
  simp (disch := omega) only [e_X7_init_10, e_X7_init_13, e_X7_init_14, tand, true_and, and_true, nl1_int, nl1_ref, nl1_null, nl1_ra, cat1_int, cat1_ref, cat1_null, stbs_nil, stbs_cons, stb_int, stb_long, stb_ref, stb_null, stb_ra, alv_nil, alv_cons, alv1_int, alv1_ref, alv1_null, alv1_ra, List.length_nil, List.length_cons, Nat.reduceAdd, Nat.reduceLeDiff, Nat.zero_le, Option.toList_some, Option.toList_none, List.cons_append, List.nil_append, or_true, true_or, or_false, false_or, Nat.reduceEqDiff, not_true_eq_false, not_false_eq_true, false_and, and_false, false_implies, true_implies, implies_true, ne_eq, and_self, ok1, x2, x3, z41']
  generalize pR (nw g 41 11 23144 23144 fun _ => 0) 40 0 41 = g1 at *
  clear x1 x2 x3 B0
  obtain ⟨x1, x2, x3, B2⟩ := B1.next (n := 23144) (by decide) rfl
  simp only [Nat.reduceAdd] at x1 x2 x3 B2
  simp (disch := omega) only [e_X7_init_17, tand, true_and, and_true, nl1_int, nl1_ref, nl1_null, nl1_ra, cat1_int, cat1_ref, cat1_null, stbs_nil, stbs_cons, stb_int, stb_long, stb_ref, stb_null, stb_ra, alv_nil, alv_cons, alv1_int, alv1_ref, alv1_null, alv1_ra, List.length_nil, List.length_cons, Nat.reduceAdd, Nat.reduceLeDiff, Nat.zero_le, Option.toList_some, Option.toList_none, List.cons_append, List.nil_append, or_true, true_or, or_false, false_or, Nat.reduceEqDiff, not_true_eq_false, not_false_eq_true, false_and, and_false, false_implies, true_implies, implies_true, ne_eq, and_self, ok1, nI_clamp]
  refine ⟨42, ⟨x1, lt _ (by decide), by rw [B1.1.1]; decide⟩, ?_⟩
  have z42 : (42 : Nat) ≠ 0 := by decide
  simp (disch := omega) only [e_X7_init_19, e_X7_init_22, e_X7_init_23, tand, true_and, and_true, nl1_int, nl1_ref, nl1_null, nl1_ra, cat1_int, cat1_ref, cat1_null, stbs_nil, stbs_cons, stb_int, stb_long, stb_ref, stb_null, stb_ra, alv_nil, alv_cons, alv1_int, alv1_ref, alv1_null, alv1_ra, List.length_nil, List.length_cons, Nat.reduceAdd, Nat.reduceLeDiff, Nat.zero_le, Option.toList_some, Option.toList_none, List.cons_append, List.nil_append, or_true, true_or, or_false, false_or, Nat.reduceEqDiff, not_true_eq_false, not_false_eq_true, false_and, and_false, false_implies, true_implies, implies_true, ne_eq, and_self, ok1, x2, x3, z42]
  generalize pR (nw g1 42 11 23144 23144 fun _ => 0) 40 1 42 = g2 at *
  clear x1 x2 x3
  obtain ⟨x1, x2, x3, B3⟩ := B2.next (n := 23144) (by decide) rfl
  simp only [Nat.reduceAdd] at x1 x2 x3 B3
  simp (disch := omega) only [e_X7_init_26, tand, true_and, and_true, nl1_int, nl1_ref, nl1_null, nl1_ra, cat1_int, cat1_ref, cat1_null, stbs_nil, stbs_cons, stb_int, stb_long, stb_ref, stb_null, stb_ra, alv_nil, alv_cons, alv1_int, alv1_ref, alv1_null, alv1_ra, List.length_nil, List.length_cons, Nat.reduceAdd, Nat.reduceLeDiff, Nat.zero_le, Option.toList_some, Option.toList_none, List.cons_append, List.nil_append, or_true, true_or, or_false, false_or, Nat.reduceEqDiff, not_true_eq_false, not_false_eq_true, false_and, and_false, false_implies, true_implies, implies_true, ne_eq, and_self, ok1, nI_clamp]
  refine ⟨43, ⟨x1, lt _ (by decide), by rw [B2.1.1]; decide⟩, ?_⟩
  have z43 : (43 : Nat) ≠ 0 := by decide
  simp (disch := omega) only [e_X7_init_28, e_X7_init_31, e_X7_init_32, tand, true_and, and_true, nl1_int, nl1_ref, nl1_null, nl1_ra, cat1_int, cat1_ref, cat1_null, stbs_nil, stbs_cons, stb_int, stb_long, stb_ref, stb_null, stb_ra, alv_nil, alv_cons, alv1_int, alv1_ref, alv1_null, alv1_ra, List.length_nil, List.length_cons, Nat.reduceAdd, Nat.reduceLeDiff, Nat.zero_le, Option.toList_some, Option.toList_none, List.cons_append, List.nil_append, or_true, true_or, or_false, false_or, Nat.reduceEqDiff, not_true_eq_false, not_false_eq_true, false_and, and_false, false_implies, true_implies, implies_true, ne_eq, and_self, ok1, x2, x3, z43]
  generalize pR (nw g2 43 11 23144 23144 fun _ => 0) 40 2 43 = g3 at *
  clear x1 x2 x3
  obtain ⟨x1, x2, x3, B4⟩ := B3.next (n := 92576) (by decide) rfl
  simp only [Nat.reduceAdd] at x1 x2 x3 B4
  simp (disch := omega) only [e_X7_init_34, tand, true_and, and_true, nl1_int, nl1_ref, nl1_null, nl1_ra, cat1_int, cat1_ref, cat1_null, stbs_nil, stbs_cons, stb_int, stb_long, stb_ref, stb_null, stb_ra, alv_nil, alv_cons, alv1_int, alv1_ref, alv1_null, alv1_ra, List.length_nil, List.length_cons, Nat.reduceAdd, Nat.reduceLeDiff, Nat.zero_le, Option.toList_some, Option.toList_none, List.cons_append, List.nil_append, or_true, true_or, or_false, false_or, Nat.reduceEqDiff, not_true_eq_false, not_false_eq_true, false_and, and_false, false_implies, true_implies, implies_true, ne_eq, and_self, ok1, nI_clamp]
  refine ⟨44, ⟨x1, lt _ (by decide), by rw [B3.1.1]; decide⟩, ?_⟩
  simp (disch := omega) only [e_X7_init_36, e_X7_init_39, e_X7_init_40, tand, true_and, and_true, nl1_int, nl1_ref, nl1_null, nl1_ra, cat1_int, cat1_ref, cat1_null, stbs_nil, stbs_cons, stb_int, stb_long, stb_ref, stb_null, stb_ra, alv_nil, alv_cons, alv1_int, alv1_ref, alv1_null, alv1_ra, List.length_nil, List.length_cons, Nat.reduceAdd, Nat.reduceLeDiff, Nat.zero_le, Option.toList_some, Option.toList_none, List.cons_append, List.nil_append, or_true, true_or, or_false, false_or, Nat.reduceEqDiff, not_true_eq_false, not_false_eq_true, false_and, and_false, false_implies, true_implies, implies_true, ne_eq, and_self, ok1, x2, x3, z44]
  generalize pR (nw g3 44 11 92576 92576 fun _ => 0) 40 3 44 = g4 at *
  clear x1 x2 x3
  obtain ⟨x1, x2, x3, B5⟩ := B4.next (n := 60) (by decide) rfl
  simp only [Nat.reduceAdd] at x1 x2 x3 B5
  simp (disch := omega) only [e_X7_init_42, tand, true_and, and_true, nl1_int, nl1_ref, nl1_null, nl1_ra, cat1_int, cat1_ref, cat1_null, stbs_nil, stbs_cons, stb_int, stb_long, stb_ref, stb_null, stb_ra, alv_nil, alv_cons, alv1_int, alv1_ref, alv1_null, alv1_ra, List.length_nil, List.length_cons, Nat.reduceAdd, Nat.reduceLeDiff, Nat.zero_le, Option.toList_some, Option.toList_none, List.cons_append, List.nil_append, or_true, true_or, or_false, false_or, Nat.reduceEqDiff, not_true_eq_false, not_false_eq_true, false_and, and_false, false_implies, true_implies, implies_true, ne_eq, and_self, ok1, nI_clamp]
  refine ⟨45, ⟨x1, lt _ (by decide), by rw [B4.1.1]; decide⟩, ?_⟩
  simp (disch := omega) only [e_X7_init_44, e_X7_init_47, e_X7_init_48, tand, true_and, and_true, nl1_int, nl1_ref, nl1_null, nl1_ra, cat1_int, cat1_ref, cat1_null, stbs_nil, stbs_cons, stb_int, stb_long, stb_ref, stb_null, stb_ra, alv_nil, alv_cons, alv1_int, alv1_ref, alv1_null, alv1_ra, List.length_nil, List.length_cons, Nat.reduceAdd, Nat.reduceLeDiff, Nat.zero_le, Option.toList_some, Option.toList_none, List.cons_append, List.nil_append, or_true, true_or, or_false, false_or, Nat.reduceEqDiff, not_true_eq_false, not_false_eq_true, false_and, and_false, false_implies, true_implies, implies_true, ne_eq, and_self, ok1, x2, x3, z45]
  generalize pR (nw g4 45 11 60 60 fun _ => 0) 40 4 45 = g5 at *
  clear x1 x2 x3
  obtain ⟨x1, x2, x3, B6⟩ := B5.next (n := 80) (by decide) rfl
  simp only [Nat.reduceAdd] at x1 x2 x3 B6
  simp (disch := omega) only [e_X7_init_50, tand, true_and, and_true, nl1_int, nl1_ref, nl1_null, nl1_ra, cat1_int, cat1_ref, cat1_null, stbs_nil, stbs_cons, stb_int, stb_long, stb_ref, stb_null, stb_ra, alv_nil, alv_cons, alv1_int, alv1_ref, alv1_null, alv1_ra, List.length_nil, List.length_cons, Nat.reduceAdd, Nat.reduceLeDiff, Nat.zero_le, Option.toList_some, Option.toList_none, List.cons_append, List.nil_append, or_true, true_or, or_false, false_or, Nat.reduceEqDiff, not_true_eq_false, not_false_eq_true, false_and, and_false, false_implies, true_implies, implies_true, ne_eq, and_self, ok1, nI_clamp]
  refine ⟨46, ⟨x1, lt _ (by decide), by rw [B5.1.1]; decide⟩, ?_⟩
  simp (disch := omega) only [e_X7_init_52, tand, true_and, and_true, nl1_int, nl1_ref, nl1_null, nl1_ra, cat1_int, cat1_ref, cat1_null, stbs_nil, stbs_cons, stb_int, stb_long, stb_ref, stb_null, stb_ra, alv_nil, alv_cons, alv1_int, alv1_ref, alv1_null, alv1_ra, List.length_nil, List.length_cons, Nat.reduceAdd, Nat.reduceLeDiff, Nat.zero_le, Option.toList_some, Option.toList_none, List.cons_append, List.nil_append, or_true, true_or, or_false, false_or, Nat.reduceEqDiff, not_true_eq_false, not_false_eq_true, false_and, and_false, false_implies, true_implies, implies_true, ne_eq, and_self, ok1, x2, x3, z46]
  generalize pR (nw g5 46 11 80 80 fun _ => 0) 40 5 46 = g6 at *
  clear x1 x2 x3
  have D : MD g6 (fun _ _ => 0) := ⟨⟨B6.1.1, fun j hj => (B6.2.1 j hj).1⟩, fun b b1 b2 => by
    obtain ⟨_, k2, k3, k4⟩ := B6.2.1 (b - 41) (by omega)
    rw [show 41 + (b - 41) = b by omega] at k2 k3 k4
    exact ⟨k2, k3, fun i _ => by rw [k4]; rfl⟩⟩
  have M : MT g6 g6 (fun _ _ => 0) (fun _ => 0) := MT.of D
  simp (disch := omega) only [e_X7_init_55, e_X7_init_56, e_X7_init_59, e_X7_init_60, e_X7_init_63, e_X7_init_64, e_X7_init_65, e_X7_init_68, e_X7_init_70, e_X7_init_72, e_X7_init_73, e_X7_init_74, e_X7_init_77, e_X7_init_79, e_X7_init_81, e_X7_init_82, e_X7_init_83, e_X7_init_86, e_X7_init_88, e_X7_init_90, e_X7_init_91, e_X7_init_92, e_X7_init_95, e_X7_init_97, e_X7_init_99, e_X7_init_100, e_X7_init_101, e_X7_init_104, e_X7_init_106, e_X7_init_107, e_X7_init_108, e_X7_init_109, tand, true_and, and_true, nl1_int, nl1_ref, nl1_null, nl1_ra, cat1_int, cat1_ref, cat1_null, stbs_nil, stbs_cons, stb_int, stb_long, stb_ref, stb_null, stb_ra, alv_nil, alv_cons, alv1_int, alv1_ref, alv1_null, alv1_ra, List.length_nil, List.length_cons, Nat.reduceAdd, Nat.reduceLeDiff, Nat.zero_le, Option.toList_some, Option.toList_none, List.cons_append, List.nil_append, or_true, true_or, or_false, false_or, Nat.reduceEqDiff, not_true_eq_false, not_false_eq_true, false_and, and_false, false_implies, true_implies, implies_true, ne_eq, and_self, ok1, M.k40, M.r40, z41, M.k41, M.n41, isIA, vpT, nI_clamp, nI_add, M.rd, gK_pI, gN_pI, gR_pI, gI_same, gI_diff, u1_eq, u1_ne]
  refine minit_loop (a := u1 (u1 (u1 (u1 (u1 (u1 (fun _ => 0) 1 500) 12 10) 13 100) 14 20) 15 10) 16 3) (fun g7 a7 M7 hM7 => ?_) 6 0 (Nat.zero_add _) ((((((M.set 1 500).set 12 10).set 13 100).set 14 20).set 15 10).set 16 3) fun i => by rw [if_neg (by omega)]
  have i40 : gI g7 40 = fun _ => 0 := M7.2.2.trans B6.1.2
  have fF : NF XD g6 g7 0 0 := ⟨fun b hb => ⟨M7.1.1 b, fun _ => ⟨M7.1.2.1 b, M7.1.2.2.2.2 b hb, M7.1.2.2.1 b⟩⟩, by rw [M7.1.2.2.2.1.1]; exact Nat.le_refl _, by rw [M7.1.2.2.2.1.2]; exact Nat.le_refl _⟩
  have av : ∀ i, (i < 20 → a7 i = u1 (u1 (u1 (u1 (u1 (u1 (fun _ => 0) 1 500) 12 10) 13 100) 14 20) 15 10) 16 3 i) ∧ (20 ≤ i → i < 26 → a7 i = 1000) ∧ (26 ≤ i → a7 i = 0) := fun i => by
    refine ⟨fun h => by rw [hM7, if_neg (by omega)], fun h h2 => by rw [hM7, if_pos (by omega)], fun h => ?_⟩
    rw [hM7, if_neg (by omega), u1_ne (by omega), u1_ne (by omega), u1_ne (by omega), u1_ne (by omega), u1_ne (by omega), u1_ne (by omega)]
  have a11 : a7 11 = 0 := ((av 11).1 (by decide)).trans rfl
  refine q g7 (B6.2.2.2.tr fF) ⟨_, M7.2.1, ⟨by rw [i40]; rfl, by decide, fun j hj => absurd hj (Nat.not_lt_zero j)⟩, ⟨by rw [i40]; rfl, by rw [i40]; rfl, by decide, by decide⟩, ?_, fun hk => absurd hk (by decide), fun i hi => absurd hi (Nat.not_lt_zero i)⟩
  rw [ur_eq]
  refine ⟨fun x => x, ⟨⟨fun j hj j6 => ?_, ?_⟩, fun k hk => ⟨fun f hf => ?_, fun y hy => (av _).2.2 (by omega)⟩, ⟨by rw [a11]; decide, fun x hx => by rw [a11] at hx; exact absurd hx (Nat.not_lt_zero x), fun x z hx => by rw [a11] at hx; exact absurd hx (Nat.not_lt_zero x), fun i hi _ h => absurd h (Nat.lt_irrefl 0)⟩, ⟨fun x _ _ y hy => (av _).2.2 (by omega), fun y hy => ?_⟩⟩, fun x hx => by rw [a11] at hx; exact absurd hx (Nat.not_lt_zero x)⟩
  · rw [(av _).1 (by have := (scI_lt j hj).1; omega)]
    have : j = 0 ∨ j = 1 ∨ j = 2 ∨ j = 3 ∨ j = 4 ∨ j = 5 ∨ j = 7 ∨ j = 8 ∨ j = 9 ∨ j = 10 ∨ j = 11 ∨ j = 12 ∨ j = 13 ∨ j = 14 ∨ j = 15 := by omega
    rcases this with e | e | e | e | e | e | e | e | e | e | e | e | e | e | e <;> subst e <;> rfl
  · rw [(av 2).1 (by decide)]; rfl
  · by_cases e : f = 0
    · rw [(av _).2.1 (by omega) (by omega), e]; rfl
    · rw [(av _).2.2 (by omega)]
      show 0 = if f = 0 then 1000 else 0
      rw [if_neg e]
  · rw [(av _).2.2 (by omega)]; rfl
end Min
