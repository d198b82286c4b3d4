/-! ===== the main object made, 3 ===== -/
theorem STt.nf {X : Nat → Prop} {g g' : mG} {c s : Nat} (h : STt g) (F : NF X g g' c s) (hX : ∀ b, b < 6 → 2 < b → ¬ X b) : STt g' := by
  obtain ⟨⟨a1, a2, a3⟩, ⟨b1, b2, b3⟩, c1, c2⟩ := h
  have f3 := F.1 3 (hX 3 (by decide) (by decide))
  have f4 := F.1 4 (hX 4 (by decide) (by decide))
  have f5 := F.1 5 (hX 5 (by decide) (by decide))
  have r3 := f3.2 (by decide)
  have r4 := f4.2 (by decide)
  have r5 := f5.2 (by decide)
  exact ⟨⟨by rw [f3.1]; exact a1, by rw [r3.1]; exact a2, by rw [r3.2.1]; exact a3⟩, ⟨by rw [f4.1]; exact b1, by rw [r4.1]; exact b2, by rw [r4.2.1]; exact b3⟩, by rw [f5.1]; exact c1, by rw [r5.1]; exact c2⟩
section Be3
variable {Q : mQ}
theorem MM.rows {g0 g : mG} {c s : Nat} (h : MM g0 g 7 c s) : ∀ c j, c < 23 → j < 7 → gN g (rowL c j) = 8 := fun c j hc hj => by
  obtain ⟨_, hk, hi, _⟩ := h.2.2.1 j hj
  unfold rowL
  by_cases h6 : c < 6
  · rw [if_pos h6, show 100 * (j + 1) + (6 + 3 * c) = 100 * (j + 1) + 6 + 3 * c by omega]; exact hk c h6
  · rw [if_neg h6, show 100 * (j + 1) + (24 + 3 * (c - 6)) = 100 * (j + 1) + 24 + 3 * (c - 6) by omega]; exact hi (c - 6) (by omega)
theorem JR.begin {g : mG} (h : ∀ c j, c < 23 → j < 7 → gN g (rowL c j) = 8) (hs : gS g ≤ 200000) (hc : 8 * gC g ≤ 8000 + gS g) : JR g := by
  have e : sm (fun c => psi (fun j => gN g (rowL c j))) 23 = 0 := sm_0 23 fun c hc => by
    show psi _ = 0
    unfold psi
    refine sm_0 7 fun q hq => ?_
    show rowD _ _ = 0
    unfold rowD
    refine sm_0 2000 fun v _ => ?_
    refine if_neg fun z => ?_
    obtain ⟨z1, j, z2, z3⟩ := z
    dsimp only at z1 z3
    rw [h c q hc hq] at z1
    rw [h c j hc z2] at z3
    omega
  refine ⟨fun c j hc hj => by rw [h c j hc hj]; exact ⟨by decide, by decide⟩, ?_, hc⟩
  rw [e]
  omega
theorem c_X6_init {g : mG} (h7 : gK g 20 = 7) (hz : gI g 20 = fun _ => 0) (hf : ∀ z, 21 ≤ z → z < 34 → gK g z = 0) (hf2 : ∀ z, 99 ≤ z → z < 800 → gK g z = 0) (hS : Scr g) (hF : FS g) (hSt : STt g) (hs : gS g ≤ 190000) (hc : gC g ≤ 475)
    (q : ∀ g', MA g' w0R (fun _ => w0R) 0 0 w0R (fun _ => 0) 0 → NF XM g g' 524 3229 → (∀ c j, c < 23 → j < 7 → gN g' (rowL c j) = 8) → Q none g') : w_X6_init [.ref 20] g Q := by
  refine wm_at rfl ⟨trivial, trivial⟩ (show WP m_X6_init Q 0 [.ref 20, .retAddr 0] [] g from ?_)
  have M0 : MM g g 0 0 0 := ⟨NF.rf, ⟨hS, hF⟩, fun j hj => absurd hj (Nat.not_lt_zero j), fun z h1 h2 => hf2 z (by omega) h2, hf2 99 (by decide) (by decide)⟩
  have nX : ∀ {T : Nat}, 100 ≤ T → ∀ b, 20 ≤ b → b < 34 → ¬ XN T b := fun hT b h1 h2 z => by unfold XN at z; omega
  simp (disch := omega) only [e_X6_init_0, e_X6_init_1, e_X6_init_4, e_X6_init_5, tand, true_and, and_true, nl1_int, nl1_ref, nl1_null, nl1_ra, cat1_int, cat1_ref, cat1_null, stbs_nil, stbs_cons, stb_int, stb_long, stb_ref, stb_null, stb_ra, alv_nil, alv_cons, alv1_int, alv1_ref, alv1_null, alv1_ra, List.length_nil, List.length_cons, Nat.reduceAdd, Nat.reduceLeDiff, Nat.zero_le, Option.toList_some, Option.toList_none, List.cons_append, List.nil_append, or_true, true_or, or_false, false_or, Nat.reduceEqDiff, not_true_eq_false, not_false_eq_true, false_and, and_false, false_implies, true_implies, implies_true, ne_eq, and_self, ok1, h7, frsh]
  refine ⟨100, M0.fresh (by decide) rfl, ?_⟩
  have e1 : gK (nw g 100 6 0 (xn 6) fun _ => 0) 100 = 6 := by rw [gK_nw, if_pos rfl]
  have e2 : gK (nw g 100 6 0 (xn 6) fun _ => 0) 20 = 7 := by rw [gK_nw, if_neg (by omega)]; exact h7
  simp (disch := omega) only [e_X6_init_8, e_X6_init_9, tand, true_and, and_true, nl1_int, nl1_ref, nl1_null, nl1_ra, cat1_int, cat1_ref, cat1_null, stbs_nil, stbs_cons, stb_int, stb_long, stb_ref, stb_null, stb_ra, alv_nil, alv_cons, alv1_int, alv1_ref, alv1_null, alv1_ra, List.length_nil, List.length_cons, Nat.reduceAdd, Nat.reduceLeDiff, Nat.zero_le, Option.toList_some, Option.toList_none, List.cons_append, List.nil_append, or_true, true_or, or_false, false_or, Nat.reduceEqDiff, not_true_eq_false, not_false_eq_true, false_and, and_false, false_implies, true_implies, implies_true, ne_eq, and_self, ok1, e1, e2]
  refine new_town M0 (by decide) rfl fun g1 F1 k1 M1 => ?_
  have p1 : gK g1 20 = 7 := (F1.1 20 (nX (by decide) _ (by decide) (by decide))).1.trans h7
  have i1 : gI g1 20 = fun _ => 0 := ((F1.1 20 (nX (by decide) _ (by decide) (by decide))).2 (by decide)).2.1.trans hz
  have z1 : ∀ z, 21 ≤ z → z < 34 → gK g1 z = 0 := fun z h1 h2 => (F1.1 z (nX (by decide) _ (by omega) h2)).1.trans (hf z h1 h2)
  have n1 : (100 : Nat) ≠ 0 := by decide
  have n2 : (200 : Nat) ≠ 0 := by decide
  have n3 : (300 : Nat) ≠ 0 := by decide
  have M1' := M1.low (X := fun b => b = 20) (g' := pR g1 20 0 100) (NF.pR rfl) (fun b hb => by omega)
  simp (disch := omega) only [e_X6_init_12, e_X6_init_15, e_X6_init_16, tand, true_and, and_true, nl1_int, nl1_ref, nl1_null, nl1_ra, cat1_int, cat1_ref, cat1_null, stbs_nil, stbs_cons, stb_int, stb_long, stb_ref, stb_null, stb_ra, alv_nil, alv_cons, alv1_int, alv1_ref, alv1_null, alv1_ra, List.length_nil, List.length_cons, Nat.reduceAdd, Nat.reduceLeDiff, Nat.zero_le, Option.toList_some, Option.toList_none, List.cons_append, List.nil_append, or_true, true_or, or_false, false_or, Nat.reduceEqDiff, not_true_eq_false, not_false_eq_true, false_and, and_false, false_implies, true_implies, implies_true, ne_eq, and_self, ok1, p1, k1, n1, gK_pR, frsh]
  refine ⟨200, M1'.fresh (by decide) rfl, ?_⟩
  have e1 : gK (nw (pR g1 20 0 100) 200 6 0 (xn 6) fun _ => 0) 200 = 6 := by rw [gK_nw, if_pos rfl]
  have e2 : gK (nw (pR g1 20 0 100) 200 6 0 (xn 6) fun _ => 0) 20 = 7 := by rw [gK_nw, if_neg (by omega)]; exact p1
  simp (disch := omega) only [e_X6_init_19, e_X6_init_20, tand, true_and, and_true, nl1_int, nl1_ref, nl1_null, nl1_ra, cat1_int, cat1_ref, cat1_null, stbs_nil, stbs_cons, stb_int, stb_long, stb_ref, stb_null, stb_ra, alv_nil, alv_cons, alv1_int, alv1_ref, alv1_null, alv1_ra, List.length_nil, List.length_cons, Nat.reduceAdd, Nat.reduceLeDiff, Nat.zero_le, Option.toList_some, Option.toList_none, List.cons_append, List.nil_append, or_true, true_or, or_false, false_or, Nat.reduceEqDiff, not_true_eq_false, not_false_eq_true, false_and, and_false, false_implies, true_implies, implies_true, ne_eq, and_self, ok1, e1, e2]
  refine new_town M1' (by decide) rfl fun g2 F2 k2 M2 => ?_
  have f20 := F2.1 20 (nX (by decide) _ (by decide) (by decide))
  have p2 : gK g2 20 = 7 := f20.1.trans p1
  have i2 : gI g2 20 = fun _ => 0 := (f20.2 (by decide)).2.1.trans i1
  have r20 : gR g2 20 0 = 100 := ((f20.2 (by decide)).2.2 0).trans (by rw [gR_pR, if_pos rfl, if_pos rfl])
  have z2 : ∀ z, 21 ≤ z → z < 34 → gK g2 z = 0 := fun z h1 h2 => (F2.1 z (nX (by decide) _ (by omega) h2)).1.trans (z1 z h1 h2)
  have M2' := M2.low (X := fun b => b = 20) (g' := pR g2 20 1 200) (NF.pR rfl) (fun b hb => by omega)
  simp (disch := omega) only [e_X6_init_23, e_X6_init_26, e_X6_init_27, tand, true_and, and_true, nl1_int, nl1_ref, nl1_null, nl1_ra, cat1_int, cat1_ref, cat1_null, stbs_nil, stbs_cons, stb_int, stb_long, stb_ref, stb_null, stb_ra, alv_nil, alv_cons, alv1_int, alv1_ref, alv1_null, alv1_ra, List.length_nil, List.length_cons, Nat.reduceAdd, Nat.reduceLeDiff, Nat.zero_le, Option.toList_some, Option.toList_none, List.cons_append, List.nil_append, or_true, true_or, or_false, false_or, Nat.reduceEqDiff, not_true_eq_false, not_false_eq_true, false_and, and_false, false_implies, true_implies, implies_true, ne_eq, and_self, ok1, p2, k2, n2, gK_pR, frsh]
  refine ⟨300, M2'.fresh (by decide) rfl, ?_⟩
  have e1 : gK (nw (pR g2 20 1 200) 300 6 0 (xn 6) fun _ => 0) 300 = 6 := by rw [gK_nw, if_pos rfl]
  have e2 : gK (nw (pR g2 20 1 200) 300 6 0 (xn 6) fun _ => 0) 20 = 7 := by rw [gK_nw, if_neg (by omega)]; exact p2
  simp (disch := omega) only [e_X6_init_30, e_X6_init_31, tand, true_and, and_true, nl1_int, nl1_ref, nl1_null, nl1_ra, cat1_int, cat1_ref, cat1_null, stbs_nil, stbs_cons, stb_int, stb_long, stb_ref, stb_null, stb_ra, alv_nil, alv_cons, alv1_int, alv1_ref, alv1_null, alv1_ra, List.length_nil, List.length_cons, Nat.reduceAdd, Nat.reduceLeDiff, Nat.zero_le, Option.toList_some, Option.toList_none, List.cons_append, List.nil_append, or_true, true_or, or_false, false_or, Nat.reduceEqDiff, not_true_eq_false, not_false_eq_true, false_and, and_false, false_implies, true_implies, implies_true, ne_eq, and_self, ok1, e1, e2]
  refine new_town M2' (by decide) rfl fun g3 F3 k3 M3 => ?_
  have f20' := F3.1 20 (nX (by decide) _ (by decide) (by decide))
  have p3 : gK g3 20 = 7 := f20'.1.trans p2
  have i3 : gI g3 20 = fun _ => 0 := (f20'.2 (by decide)).2.1.trans i2
  have r30 : gR g3 20 0 = 100 := ((f20'.2 (by decide)).2.2 0).trans (by rw [gR_pR, if_pos rfl, if_neg (by decide)]; exact r20)
  have r31 : gR g3 20 1 = 200 := ((f20'.2 (by decide)).2.2 1).trans (by rw [gR_pR, if_pos rfl, if_pos rfl])
  have z3 : ∀ z, 21 ≤ z → z < 34 → gK g3 z = 0 := fun z h1 h2 => (F3.1 z (nX (by decide) _ (by omega) h2)).1.trans (z2 z h1 h2)
  have M3' := M3.low (X := fun b => b = 20) (g' := pR g3 20 2 300) (NF.pR rfl) (fun b hb => by omega)
  simp (disch := omega) only [e_X6_init_34, e_X6_init_37, e_X6_init_38, e_X6_init_39, tand, true_and, and_true, nl1_int, nl1_ref, nl1_null, nl1_ra, cat1_int, cat1_ref, cat1_null, stbs_nil, stbs_cons, stb_int, stb_long, stb_ref, stb_null, stb_ra, alv_nil, alv_cons, alv1_int, alv1_ref, alv1_null, alv1_ra, List.length_nil, List.length_cons, Nat.reduceAdd, Nat.reduceLeDiff, Nat.zero_le, Option.toList_some, Option.toList_none, List.cons_append, List.nil_append, or_true, true_or, or_false, false_or, Nat.reduceEqDiff, not_true_eq_false, not_false_eq_true, false_and, and_false, false_implies, true_implies, implies_true, ne_eq, and_self, ok1, p3, k3, n3, gK_pR, frsh]
  refine ⟨21, ⟨⟨z3 21 (by decide) (by decide), by rw [show 21 - 1 = 20 by omega, p3]; decide, by decide⟩, ?_, ?_⟩, ?_⟩
  · rw [nI_lt0 (by omega)]; exact fun q => q
  · rw [nI_clamp (by omega)]; decide
  rw [nI_clamp (by omega)]
  have M4 := M3'.low (X := fun b => b = 21) (g' := nw (pR g3 20 2 300) 21 17 4 4 fun _ => 0) (NF.nw rfl) (fun b hb => by omega)
  generalize hg4 : nw (pR g3 20 2 300) 21 17 4 4 (fun _ => 0) = g4 at *
  have p4 : gK g4 20 = 7 := by rw [← hg4, gK_nw, if_neg (by omega)]; exact p3
  have q4 : gK g4 21 = 17 := by rw [← hg4, gK_nw, if_pos rfl]
  have z21 : (21 : Nat) ≠ 0 := by decide
  simp (disch := omega) only [e_X6_init_42, e_X6_init_45, e_X6_init_46, tand, true_and, and_true, nl1_int, nl1_ref, nl1_null, nl1_ra, cat1_int, cat1_ref, cat1_null, stbs_nil, stbs_cons, stb_int, stb_long, stb_ref, stb_null, stb_ra, alv_nil, alv_cons, alv1_int, alv1_ref, alv1_null, alv1_ra, List.length_nil, List.length_cons, Nat.reduceAdd, Nat.reduceLeDiff, Nat.zero_le, Option.toList_some, Option.toList_none, List.cons_append, List.nil_append, or_true, true_or, or_false, false_or, Nat.reduceEqDiff, not_true_eq_false, not_false_eq_true, false_and, and_false, false_implies, true_implies, implies_true, ne_eq, and_self, ok1, p4, q4, z21]
  have M5 := M4.low (X := fun b => b = 20) (g' := pR g4 20 4 21) (NF.pR rfl) (fun b hb => by omega)
  refine begin_loop (g0 := g) (fun g6 M6 B6 => ?_) 4 0 rfl M5 ⟨⟨p4, ?_, ?_, ?_, ?_⟩, ?_, ⟨q4, ?_⟩, fun j hj => absurd hj (Nat.not_lt_zero j), fun z h1 h2 => ?_⟩
  · obtain ⟨⟨a1, a2, a3, a4, a5⟩, b, ⟨c1, c2⟩, d, e⟩ := id B6
    simp (disch := omega) only [e_X6_init_75, e_X6_init_76, tand, true_and, and_true, nl1_int, nl1_ref, nl1_null, nl1_ra, cat1_int, cat1_ref, cat1_null, stbs_nil, stbs_cons, stb_int, stb_long, stb_ref, stb_null, stb_ra, alv_nil, alv_cons, alv1_int, alv1_ref, alv1_null, alv1_ra, List.length_nil, List.length_cons, Nat.reduceAdd, Nat.reduceLeDiff, Nat.zero_le, Option.toList_some, Option.toList_none, List.cons_append, List.nil_append, or_true, true_or, or_false, false_or, Nat.reduceEqDiff, not_true_eq_false, not_false_eq_true, false_and, and_false, false_implies, true_implies, implies_true, ne_eq, and_self, ok1, a1, frsh]
    refine ⟨22, ⟨e 22 (by decide) (by decide), by rw [show 22 - 1 = 21 by omega, c1]; decide, by decide⟩, ?_⟩
    have e1 : gK (nw g6 22 4 0 (xn 4) fun _ => 0) 22 = 4 := by rw [gK_nw, if_pos rfl]
    have e2 : gK (nw g6 22 4 0 (xn 4) fun _ => 0) 20 = 7 := by rw [gK_nw, if_neg (by omega)]; exact a1
    have z22 : (22 : Nat) ≠ 0 := by decide
    simp (disch := omega) only [e_X6_init_79, e_X6_init_80, tand, true_and, and_true, nl1_int, nl1_ref, nl1_null, nl1_ra, cat1_int, cat1_ref, cat1_null, stbs_nil, stbs_cons, stb_int, stb_long, stb_ref, stb_null, stb_ra, alv_nil, alv_cons, alv1_int, alv1_ref, alv1_null, alv1_ra, List.length_nil, List.length_cons, Nat.reduceAdd, Nat.reduceLeDiff, Nat.zero_le, Option.toList_some, Option.toList_none, List.cons_append, List.nil_append, or_true, true_or, or_false, false_or, Nat.reduceEqDiff, not_true_eq_false, not_false_eq_true, false_and, and_false, false_implies, true_implies, implies_true, ne_eq, and_self, ok1, e1, e2]
    have M7 := M6.low (X := XTx) (g' := nw g6 22 4 0 (xn 4) fun _ => 0) (NF.nw (by unfold XTx; omega)) (fun b hb => by unfold XTx at hb; omega)
    refine c_X3_init e1 (by rw [gI_nw, if_pos rfl]) (fun z h1 h2 => by rw [gK_nw, if_neg (by omega)]; exact e z (by omega) h2) fun g8 F8 T8 => ?_
    have M8 := M7.low F8 (fun b hb => by unfold XTx at hb; omega)
    have f8 : ∀ b, 20 ≤ b → b < 22 → gK g8 b = gK g6 b ∧ gN g8 b = gN g6 b ∧ gI g8 b = gI g6 b ∧ ∀ k, gR g8 b k = gR g6 b k := fun b h1 h2 => by
      have f := F8.1 b (by unfold XTx; omega)
      have f2 := f.2 (by omega)
      refine ⟨f.1.trans (by rw [gK_nw, if_neg (by omega)]), f2.1.trans (by rw [gN_nw, if_neg (by omega)]), f2.2.1.trans (by rw [gI_nw, if_neg (by omega)]), fun k => (f2.2.2 k).trans (by rw [gR_nw, if_neg (by omega)])⟩
    obtain ⟨y1, y2, y3, y4⟩ := f8 20 (by decide) (by decide)
    obtain ⟨x1, x2, x3, x4⟩ := f8 21 (by decide) (by decide)
    have e3 : gK g8 20 = 7 := y1.trans a1
    have e4 : gK g8 22 = 4 := T8.1.1
    simp (disch := omega) only [e_X6_init_83, e_X6_init_86, tand, true_and, and_true, nl1_int, nl1_ref, nl1_null, nl1_ra, cat1_int, cat1_ref, cat1_null, stbs_nil, stbs_cons, stb_int, stb_long, stb_ref, stb_null, stb_ra, alv_nil, alv_cons, alv1_int, alv1_ref, alv1_null, alv1_ra, List.length_nil, List.length_cons, Nat.reduceAdd, Nat.reduceLeDiff, Nat.zero_le, Option.toList_some, Option.toList_none, List.cons_append, List.nil_append, or_true, true_or, or_false, false_or, Nat.reduceEqDiff, not_true_eq_false, not_false_eq_true, false_and, and_false, false_implies, true_implies, implies_true, ne_eq, and_self, ok1, e3, e4, z22]
    have M9 := M8.low (X := fun b => b = 20) (g' := pR g8 20 6 22) (NF.pR rfl) (fun b hb => by omega)
    have FF := M9.1.up (fun _ h => h) (show 512 + 1 + 11 + 0 ≤ 524 by decide) (show 3119 + xn 4 + 105 + 0 ≤ 3229 by decide)
    have F20' : F20 g8 (pR g8 20 6 22) := F20.rf.pR 20 6 22 (Or.inl rfl)
    have mono : gC (pR g8 20 6 22) ≤ gC g + 524 ∧ gS (pR g8 20 6 22) ≤ gS g + 3229 := FF.2
    refine q _ ⟨fun _ => w0R, 100, 200, fun j => 400 + 100 * j, ⟨⟨e3, ?_, ?_, ?_, ?_, ?_⟩, ⟨?_, ?_, by decide, by decide⟩, ⟨x1.trans c1, x2.trans c2, fun j hj => ?_⟩, fun T hT => ?_, ?_, T8.far F20', M9.2.1.1, JR.begin M9.rows (by omega) (by omega), ?_⟩, rfl, fun j hj => absurd hj (Nat.not_lt_zero j), fun hk => rfl⟩ FF M9.rows
    · rw [gR_pR, if_pos rfl, if_neg (by decide), y4]; exact a2
    · rw [gR_pR, if_pos rfl, if_neg (by decide), y4]; exact a3
    · rw [gR_pR, if_pos rfl, if_neg (by decide), y4]; exact a4
    · rw [gR_pR, if_pos rfl, if_neg (by decide), y4]; exact a5
    · rw [gR_pR, if_pos rfl, if_pos rfl]
    · rw [gI_pR, y3, b]; rfl
    · rw [gI_pR, y3, b]; rfl
    · rw [gR_pR, if_neg (by decide), x4]; exact d j hj
    · obtain ⟨j, hj, e⟩ := hT
      rw [e]; exact (M9.2.2.1 j hj).1
    · refine ⟨⟨0, by decide, rfl⟩, ⟨1, by decide, rfl⟩, fun j hj => ⟨3 + j, by omega, by dsimp only; omega⟩, ⟨by decide, by decide, by decide⟩, fun j hj => ⟨by dsimp only; omega, by dsimp only; omega, by dsimp only; omega⟩, fun i j hi hj hij => by dsimp only; omega⟩
    · exact hSt.nf FF fun b h1 h2 z => by unfold XM at z; omega
  · rw [gR_pR, if_pos rfl, if_neg (by decide), ← hg4, gR_nw, if_neg (by omega), gR_pR, if_pos rfl, if_neg (by decide)]; exact r30
  · rw [gR_pR, if_pos rfl, if_neg (by decide), ← hg4, gR_nw, if_neg (by omega), gR_pR, if_pos rfl, if_neg (by decide)]; exact r31
  · rw [gR_pR, if_pos rfl, if_neg (by decide), ← hg4, gR_nw, if_neg (by omega), gR_pR, if_pos rfl, if_pos rfl]
  · rw [gR_pR, if_pos rfl, if_pos rfl]
  · rw [gI_pR, ← hg4, gI_nw, if_neg (by omega), gI_pR]; exact i3
  · show gN g4 21 = 4
    rw [← hg4, gN_nw, if_pos rfl]
  · show gK g4 z = 0
    rw [← hg4, gK_nw, if_neg (by omega)]; exact z3 z (by omega) h2
end Be3
