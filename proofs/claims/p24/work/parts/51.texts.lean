/-! ===== the text made ===== -/
theorem PermOK.loc {g g' : mG} {p : Nat} {r : Nat → Nat} (h : PermOK g p r) (h1 : gK g' p = gK g p ∧ gI g' p = gI g p) (h2 : gK g' (p + 1) = gK g (p + 1) ∧ gN g' (p + 1) = gN g (p + 1) ∧ gI g' (p + 1) = gI g (p + 1)) : PermOK g' p r := by
  obtain ⟨yn, a1, a2, a3, a4, a5, a6, a7, a8⟩ := h
  exact ⟨yn, by rw [h1.1]; exact a1, by rw [h2.1]; exact a2, by rw [h1.2]; exact a3, by rw [h2.2.1]; exact a4, by rw [h2.2.1]; exact a5, by rw [h2.2.2]; exact a6, a7, by rw [h1.2]; exact a8⟩
theorem TRw.nf {X : Nat → Prop} {g g' : mG} {T c s : Nat} {w : Rw} (h : TRw g T w) (hT : 100 ≤ T) (F : NF X g g' c s) (hX : ∀ b, T ≤ b → b < T + 100 → ¬ X b) : TRw g' T w := by
  have f : ∀ b, T ≤ b → b < T + 100 → gK g' b = gK g b ∧ gN g' b = gN g b ∧ gI g' b = gI g b ∧ ∀ k, gR g' b k = gR g b k := fun b h1 h2 => ⟨(F.1 b (hX b h1 h2)).1, (F.1 b (hX b h1 h2)).2 (by omega)⟩
  have pk : ∀ p r, T ≤ p → p + 1 < T + 100 → PermOK g p r → PermOK g' p r := fun p r h1 h2 h3 => h3.loc ⟨(f p h1 (by omega)).1, (f p h1 (by omega)).2.2.1⟩ ⟨(f (p + 1) (by omega) h2).1, (f (p + 1) (by omega) h2).2.1, (f (p + 1) (by omega) h2).2.2.1⟩
  obtain ⟨⟨⟨a1, a2, a3, a4⟩, ⟨b1, b2⟩, ⟨c1, c2⟩, ⟨d1, d2⟩, e, e2⟩, h1, h2, h3, h4⟩ := h
  obtain ⟨t1, t2, t3, t4⟩ := f T (by omega) (by omega)
  obtain ⟨u1, u2, u3, u4⟩ := f (T + 1) (by omega) (by omega)
  obtain ⟨v1, v2, v3, v4⟩ := f (T + 2) (by omega) (by omega)
  obtain ⟨x1, x2, x3, x4⟩ := f (T + 3) (by omega) (by omega)
  refine ⟨⟨⟨by rw [t1]; exact a1, by rw [t4]; exact a2, by rw [t4]; exact a3, by rw [t4]; exact a4⟩, ⟨by rw [u1]; exact b1, by rw [u2]; exact b2⟩, ⟨by rw [v1]; exact c1, by rw [v2]; exact c2⟩, ⟨by rw [x1]; exact d1, by rw [x2]; exact d2⟩, fun k hk => ?_, fun i hi => ?_⟩, by rw [t3]; exact h1, by rw [u3]; exact h2, fun k hk => ⟨by rw [(f (T + 4 + 3 * k) (by omega) (by omega)).2.2.1]; exact (h3 k hk).1, pk _ _ (by omega) (by omega) (h3 k hk).2⟩, fun i hi => ⟨by rw [(f (T + 22 + 3 * i) (by omega) (by omega)).2.2.1]; exact (h4 i hi).1, (h4 i hi).2.1, pk _ _ (by omega) (by omega) (h4 i hi).2.2⟩⟩
  · obtain ⟨q1, q2, q3, q4⟩ := e k hk
    exact ⟨by rw [v4]; exact q1, by rw [(f (T + 4 + 3 * k) (by omega) (by omega)).1]; exact q2, by rw [(f (T + 4 + 3 * k) (by omega) (by omega)).2.2.2]; exact q3, by rw [(f (T + 5 + 3 * k) (by omega) (by omega)).1]; exact q4.1, by rw [(f (T + 5 + 3 * k + 1) (by omega) (by omega)).1]; exact q4.2⟩
  · obtain ⟨q1, q2, q3, q4⟩ := e2 i hi
    exact ⟨by rw [x4]; exact q1, by rw [(f (T + 22 + 3 * i) (by omega) (by omega)).1]; exact q2, by rw [(f (T + 22 + 3 * i) (by omega) (by omega)).2.2.2]; exact q3, by rw [(f (T + 23 + 3 * i) (by omega) (by omega)).1]; exact q4.1, by rw [(f (T + 23 + 3 * i + 1) (by omega) (by omega)).1]; exact q4.2⟩
section Mtx
variable {g0 : mG} {Q : mQ} {g : mG}
theorem c_X1_init {a : Nat} (q : Q none g) : w_X1_init [.ref a] g Q := by
  refine wm_at rfl ⟨trivial, trivial⟩ (show WP m_X1_init Q 0 [.ref a] [] g from ?_)
  simp only [e_X1_init_0, e_X1_init_1, e_X1_init_4, tand, true_and, and_true, nl1_int, nl1_ref, nl1_null, nl1_ra, cat1_int, cat1_ref, cat1_null, stbs_nil, stbs_cons, stb_int, stb_long, stb_ref, stb_null, stb_ra, alv_nil, alv_cons, alv1_int, alv1_ref, alv1_null, alv1_ra, List.length_nil, List.length_cons, Nat.reduceAdd, Nat.reduceLeDiff, Nat.zero_le, Option.toList_some, Option.toList_none, List.cons_append, List.nil_append, or_true, true_or, or_false, false_or, Nat.reduceEqDiff, not_true_eq_false, not_false_eq_true, false_and, and_false, false_implies, true_implies, implies_true, ne_eq, and_self, ok1]
  exact q
def XTx : Nat → Prop := fun b => 22 ≤ b ∧ b < 34
def TxB (g : mG) : Prop := (gK g 22 = 4 ∧ gR g 22 0 = 23 ∧ gR g 22 2 = 24) ∧ (gK g 23 = 13 ∧ gN g 23 = 60) ∧ (gK g 24 = 16 ∧ gN g 24 = 9) ∧ gI g 22 1 = nI 0
theorem text_lines (q : ∀ g', NF XTx g0 g' 11 105 → TxR g' (fun _ => 0) 0 → Q none g') : ∀ (k i : Nat) {g : mG}, i + k = 9 → NF XTx g0 g (2 + i) (69 + 4 * i) → TxB g → (∀ j, j < i → gR g 24 j = 25 + j ∧ gK g (25 + j) = 2) → (∀ z, 25 + i ≤ z → z < 34 → gK g z = 0) → WP m_X3_init Q 23 [.ref 22, .int (nI i)] [] g := by
  intro k
  induction k with
  | zero =>
    intro i g hi hN hB hL hf
    obtain ⟨⟨a1, a2, a3⟩, ⟨b1, b2⟩, ⟨c1, c2⟩, d⟩ := id hB
    have hi2 : i = 9 := by omega
    subst hi2
    have z : (24 : Nat) ≠ 0 := by decide
    simp (disch := omega) only [e_X3_init_23, e_X3_init_24, e_X3_init_25, e_X3_init_28, e_X3_init_29, e_X3_init_51, tand, true_and, and_true, nl1_int, nl1_ref, nl1_null, nl1_ra, cat1_int, cat1_ref, cat1_null, stbs_nil, stbs_cons, stb_int, stb_long, stb_ref, stb_null, stb_ra, alv_nil, alv_cons, alv1_int, alv1_ref, alv1_null, alv1_ra, List.length_nil, List.length_cons, Nat.reduceAdd, Nat.reduceLeDiff, Nat.zero_le, Option.toList_some, Option.toList_none, List.cons_append, List.nil_append, or_true, true_or, or_false, false_or, Nat.reduceEqDiff, not_true_eq_false, not_false_eq_true, false_and, and_false, false_implies, true_implies, implies_true, ne_eq, and_self, ok1, a1, a3, z, c1, c2, nI_leE]
    exact q g hN ⟨⟨a1, a2, a3⟩, ⟨b1, b2⟩, ⟨c1, c2⟩, hL, d, by decide, fun j hj => absurd hj (Nat.not_lt_zero j)⟩
  | succ k ih =>
    intro i g hi hN hB hL hf
    obtain ⟨⟨a1, a2, a3⟩, ⟨b1, b2⟩, ⟨c1, c2⟩, d⟩ := id hB
    have hlt : i < 9 := by omega
    have hlt2 : ¬ 9 ≤ i := by omega
    have z : (24 : Nat) ≠ 0 := by decide
    have kp : gK g (25 + i - 1) ≠ 5 := by
      by_cases h0 : i = 0
      · rw [h0, show 25 + 0 - 1 = 24 by omega, c1]; decide
      · have := (hL (i - 1) (by omega)).2
        rw [show 25 + (i - 1) = 25 + i - 1 by omega] at this
        rw [this]; decide
    have zl : 25 + i ≠ 0 := by omega
    simp (disch := omega) only [e_X3_init_23, e_X3_init_24, e_X3_init_25, e_X3_init_28, e_X3_init_29, e_X3_init_32, e_X3_init_33, e_X3_init_36, e_X3_init_37, tand, true_and, and_true, nl1_int, nl1_ref, nl1_null, nl1_ra, cat1_int, cat1_ref, cat1_null, stbs_nil, stbs_cons, stb_int, stb_long, stb_ref, stb_null, stb_ra, alv_nil, alv_cons, alv1_int, alv1_ref, alv1_null, alv1_ra, List.length_nil, List.length_cons, Nat.reduceAdd, Nat.reduceLeDiff, Nat.zero_le, Option.toList_some, Option.toList_none, List.cons_append, List.nil_append, or_true, true_or, or_false, false_or, Nat.reduceEqDiff, not_true_eq_false, not_false_eq_true, false_and, and_false, false_implies, true_implies, implies_true, ne_eq, and_self, ok1, a1, a3, z, c1, c2, nI_leE, hlt2, frsh]
    refine ⟨25 + i, ⟨hf _ (by omega) (by omega), kp, zl⟩, ?_⟩
    have F : NF XTx g (nw g (25 + i) 2 0 (xn 2) fun _ => 0) 1 4 := NF.nw (by unfold XTx; omega)
    generalize hg1 : (nw g (25 + i) 2 0 (xn 2) fun _ => 0) = g1 at *
    have k1 : gK g1 (25 + i) = 2 := by rw [← hg1, gK_nw, if_pos rfl]
    have k2 : gK g1 24 = 16 := by rw [← hg1, gK_nw, if_neg (by omega)]; exact c1
    have k3 : gN g1 24 = 9 := by rw [← hg1, gN_nw, if_neg (by omega)]; exact c2
    have k4 : gK g1 22 = 4 := by rw [← hg1, gK_nw, if_neg (by omega)]; exact a1
    simp (disch := omega) only [e_X3_init_40, e_X3_init_41, tand, true_and, and_true, nl1_int, nl1_ref, nl1_null, nl1_ra, cat1_int, cat1_ref, cat1_null, stbs_nil, stbs_cons, stb_int, stb_long, stb_ref, stb_null, stb_ra, alv_nil, alv_cons, alv1_int, alv1_ref, alv1_null, alv1_ra, List.length_nil, List.length_cons, Nat.reduceAdd, Nat.reduceLeDiff, Nat.zero_le, Option.toList_some, Option.toList_none, List.cons_append, List.nil_append, or_true, true_or, or_false, false_or, Nat.reduceEqDiff, not_true_eq_false, not_false_eq_true, false_and, and_false, false_implies, true_implies, implies_true, ne_eq, and_self, ok1, k1, k2, k4]
    refine c_X1_init ?_
    simp (disch := omega) only [e_X3_init_44, e_X3_init_45, tand, true_and, and_true, nl1_int, nl1_ref, nl1_null, nl1_ra, cat1_int, cat1_ref, cat1_null, stbs_nil, stbs_cons, stb_int, stb_long, stb_ref, stb_null, stb_ra, alv_nil, alv_cons, alv1_int, alv1_ref, alv1_null, alv1_ra, List.length_nil, List.length_cons, Nat.reduceAdd, Nat.reduceLeDiff, Nat.zero_le, Option.toList_some, Option.toList_none, List.cons_append, List.nil_append, or_true, true_or, or_false, false_or, Nat.reduceEqDiff, not_true_eq_false, not_false_eq_true, false_and, and_false, false_implies, true_implies, implies_true, ne_eq, and_self, ok1, k1, k2, k3, nI_vp, hlt, nI_clamp, zl, nI_add]
    simp only [e_X3_init_48, tand, true_and, and_true, nl1_int, nl1_ref, nl1_null, nl1_ra, cat1_int, cat1_ref, cat1_null, stbs_nil, stbs_cons, stb_int, stb_long, stb_ref, stb_null, stb_ra, alv_nil, alv_cons, alv1_int, alv1_ref, alv1_null, alv1_ra, List.length_nil, List.length_cons, Nat.reduceAdd, Nat.reduceLeDiff, Nat.zero_le, Option.toList_some, Option.toList_none, List.cons_append, List.nil_append, or_true, true_or, or_false, false_or, Nat.reduceEqDiff, not_true_eq_false, not_false_eq_true, false_and, and_false, false_implies, true_implies, implies_true, ne_eq, and_self, ok1]
    refine ih (i + 1) (by omega) ((hN.tr (F.tr (NF.pR (a := 24) (by unfold XTx; omega)))).up (fun _ h => h) (by omega) (by omega)) ⟨⟨k4, ?_, ?_⟩, ⟨?_, ?_⟩, ⟨k2, k3⟩, ?_⟩ (fun j hj => ?_) (fun z' h1 h2 => ?_)
    · rw [gR_pR, if_neg (by decide), ← hg1, gR_nw, if_neg (by omega)]; exact a2
    · rw [gR_pR, if_neg (by decide), ← hg1, gR_nw, if_neg (by omega)]; exact a3
    · show gK g1 23 = 13
      rw [← hg1, gK_nw, if_neg (by omega)]; exact b1
    · show gN g1 23 = 60
      rw [← hg1, gN_nw, if_neg (by omega)]; exact b2
    · show gI g1 22 1 = nI 0
      rw [← hg1, gI_nw, if_neg (by omega)]; exact d
    · rw [gR_pR, if_pos rfl]
      by_cases hji : j = i
      · rw [if_pos hji, hji]; exact ⟨rfl, k1⟩
      · rw [if_neg hji]
        refine ⟨?_, ?_⟩
        · rw [← hg1, gR_nw, if_neg (by omega)]; exact (hL j (by omega)).1
        · show gK g1 (25 + j) = 2
          rw [← hg1, gK_nw, if_neg (by omega)]; exact (hL j (by omega)).2
    · show gK g1 z' = 0
      rw [← hg1, gK_nw, if_neg (by omega)]; exact hf z' (by omega) h2
theorem c_X3_init (h4 : gK g 22 = 4) (hz : gI g 22 = fun _ => 0) (hf : ∀ z, 23 ≤ z → z < 34 → gK g z = 0) (q : ∀ g', NF XTx g g' 11 105 → TxR g' (fun _ => 0) 0 → Q none g') : w_X3_init [.ref 22] g Q := by
  refine wm_at rfl ⟨trivial, trivial⟩ (show WP m_X3_init Q 0 [.ref 22, .retAddr 0] [] g from ?_)
  simp (disch := omega) only [e_X3_init_0, e_X3_init_1, e_X3_init_4, e_X3_init_5, e_X3_init_7, tand, true_and, and_true, nl1_int, nl1_ref, nl1_null, nl1_ra, cat1_int, cat1_ref, cat1_null, stbs_nil, stbs_cons, stb_int, stb_long, stb_ref, stb_null, stb_ra, alv_nil, alv_cons, alv1_int, alv1_ref, alv1_null, alv1_ra, List.length_nil, List.length_cons, Nat.reduceAdd, Nat.reduceLeDiff, Nat.zero_le, Option.toList_some, Option.toList_none, List.cons_append, List.nil_append, or_true, true_or, or_false, false_or, Nat.reduceEqDiff, not_true_eq_false, not_false_eq_true, false_and, and_false, false_implies, true_implies, implies_true, ne_eq, and_self, ok1, h4, frsh]
  refine ⟨23, ⟨⟨hf _ (by omega) (by omega), by rw [show 23 - 1 = 22 by omega, h4]; decide, by omega⟩, ?_, ?_⟩, ?_⟩
  · rw [nI_lt0 (by omega)]; exact fun q => q
  · rw [nI_clamp (by omega)]; decide
  rw [nI_clamp (by omega)]
  generalize hg1 : nw g 23 13 60 60 (fun _ => 0) = g1
  have k1 : gK g1 23 = 13 := by rw [← hg1, gK_nw, if_pos rfl]
  have k2 : gK g1 22 = 4 := by rw [← hg1, gK_nw, if_neg (by omega)]; exact h4
  have k3 : gN g1 23 = 60 := by rw [← hg1, gN_nw, if_pos rfl]
  have k4 : gI g1 22 = fun _ => 0 := by rw [← hg1, gI_nw, if_neg (by omega)]; exact hz
  have kz : ∀ z, 24 ≤ z → z < 34 → gK g1 z = 0 := fun z h1 h2 => by rw [← hg1, gK_nw, if_neg (by omega)]; exact hf z (by omega) h2
  have N1 : NF XTx g g1 1 60 := by rw [← hg1]; exact NF.nw (by unfold XTx; omega)
  have z23 : (23 : Nat) ≠ 0 := by decide
  simp (disch := omega) only [e_X3_init_9, e_X3_init_12, e_X3_init_13, e_X3_init_15, tand, true_and, and_true, nl1_int, nl1_ref, nl1_null, nl1_ra, cat1_int, cat1_ref, cat1_null, stbs_nil, stbs_cons, stb_int, stb_long, stb_ref, stb_null, stb_ra, alv_nil, alv_cons, alv1_int, alv1_ref, alv1_null, alv1_ra, List.length_nil, List.length_cons, Nat.reduceAdd, Nat.reduceLeDiff, Nat.zero_le, Option.toList_some, Option.toList_none, List.cons_append, List.nil_append, or_true, true_or, or_false, false_or, Nat.reduceEqDiff, not_true_eq_false, not_false_eq_true, false_and, and_false, false_implies, true_implies, implies_true, ne_eq, and_self, ok1, k1, k2, z23, gK_pR, frsh]
  refine ⟨24, ⟨⟨kz _ (by omega) (by omega), by rw [show 24 - 1 = 23 by omega, k1]; decide, by omega⟩, ?_, ?_⟩, ?_⟩
  · rw [nI_lt0 (by omega)]; exact fun q => q
  · rw [nI_clamp (by omega)]; decide
  rw [nI_clamp (by omega)]
  generalize hg2 : nw (pR g1 22 0 23) 24 16 9 9 (fun _ => 0) = g2
  have m1 : gK g2 24 = 16 := by rw [← hg2, gK_nw, if_pos rfl]
  have m2 : gK g2 22 = 4 := by rw [← hg2, gK_nw, if_neg (by omega)]; exact k2
  have m3 : gN g2 24 = 9 := by rw [← hg2, gN_nw, if_pos rfl]
  have N2 : NF XTx g g2 2 69 := by rw [← hg2]; exact (N1.tr (NF.pR (by unfold XTx; omega))).tr (NF.nw (by unfold XTx; omega))
  have z24 : (24 : Nat) ≠ 0 := by decide
  simp (disch := omega) only [e_X3_init_18, e_X3_init_21, e_X3_init_22, tand, true_and, and_true, nl1_int, nl1_ref, nl1_null, nl1_ra, cat1_int, cat1_ref, cat1_null, stbs_nil, stbs_cons, stb_int, stb_long, stb_ref, stb_null, stb_ra, alv_nil, alv_cons, alv1_int, alv1_ref, alv1_null, alv1_ra, List.length_nil, List.length_cons, Nat.reduceAdd, Nat.reduceLeDiff, Nat.zero_le, Option.toList_some, Option.toList_none, List.cons_append, List.nil_append, or_true, true_or, or_false, false_or, Nat.reduceEqDiff, not_true_eq_false, not_false_eq_true, false_and, and_false, false_implies, true_implies, implies_true, ne_eq, and_self, ok1, m1, m2, z24]
  refine text_lines q 9 0 rfl (N2.tr (NF.pR (a := 22) (by unfold XTx; omega))) ⟨⟨m2, ?_, ?_⟩, ⟨?_, ?_⟩, ⟨m1, m3⟩, ?_⟩ (fun j hj => absurd hj (Nat.not_lt_zero j)) fun z h1 h2 => ?_
  · rw [gR_pR, if_pos rfl, if_neg (by decide), ← hg2, gR_nw, if_neg (by omega), gR_pR, if_pos rfl, if_pos rfl]
  · rw [gR_pR, if_pos rfl, if_pos rfl]
  · show gK g2 23 = 13
    rw [← hg2, gK_nw, if_neg (by omega)]; exact k1
  · show gN g2 23 = 60
    rw [← hg2, gN_nw, if_neg (by omega)]; exact k3
  · show gI g2 22 1 = nI 0
    rw [← hg2, gI_nw, if_neg (by omega), gI_pR, k4]; rfl
  · show gK g2 z = 0
    rw [← hg2, gK_nw, if_neg (by omega)]; exact kz z (by omega) h2
end Mtx
