/-! ===== a town made, 2; lines, the text ===== -/
def FS (g : mG) : Prop := gK g 5 = 10 ∧ gN g 5 = 5 ∧ ∀ s, s < 5 → gI g 5 s = nI (w0R.1 (11 + s))
section Mt2
variable {Q : mQ} {T : Nat} {g : mG}
theorem c_X5_init (hT : 100 ≤ T) (h6 : gK g T = 6) (hz : gI g T = fun _ => 0) (hf : ∀ z, T + 1 ≤ z → z < T + 100 → gK g z = 0) (hS : Scr g) (hF : FS g) (q : ∀ g', Scr g' → MK g g' T 6 17 → Q none g') : w_X5_init [.ref T] g Q := by
  refine wm_at rfl ⟨trivial, trivial⟩ (show WP m_X5_init Q 0 [.ref T, .retAddr 0] [] g from ?_)
  obtain ⟨f1, f2, f3⟩ := hF
  simp (disch := omega) only [e_X5_init_0, e_X5_init_1, e_X5_init_4, e_X5_init_5, e_X5_init_8, e_X5_init_11, e_X5_init_12, e_X5_init_15, tand, true_and, and_true, nl1_int, nl1_ref, nl1_null, nl1_ra, cat1_int, cat1_ref, cat1_null, stbs_nil, stbs_cons, stb_int, stb_long, stb_ref, stb_null, stb_ra, alv_nil, alv_cons, alv1_int, alv1_ref, alv1_null, alv1_ra, List.length_nil, List.length_cons, Nat.reduceAdd, Nat.reduceLeDiff, Nat.zero_le, Option.toList_some, Option.toList_none, List.cons_append, List.nil_append, or_true, true_or, or_false, false_or, Nat.reduceEqDiff, not_true_eq_false, not_false_eq_true, false_and, and_false, false_implies, true_implies, implies_true, ne_eq, and_self, ok1, h6, gK_pI, f1, frsh]
  refine ⟨T + 1, ⟨hf _ (by omega) (by omega), by rw [show T + 1 - 1 = T by omega, h6]; decide, by omega⟩, ?_⟩
  have n5 : (5 : Nat) ≠ T := by omega
  have e1 : gN (pI g T 4 (nI 500)) 5 = 5 := f2
  have e2 : gI (pI g T 4 (nI 500)) 5 = gI g 5 := gI_pI_ne n5
  rw [e1, e2]
  generalize hg1 : nw (pI g T 4 (nI 500)) (T + 1) 11 5 5 (gI g 5) = g1
  have k1 : gK g1 (T + 1) = 11 := by rw [← hg1, gK_nw, if_pos rfl]
  have kT : gK g1 T = 6 := by rw [← hg1, gK_nw, if_neg (by omega)]; exact h6
  have kz : ∀ z, T + 2 ≤ z → z < T + 100 → gK g1 z = 0 := fun z h1 h2 => by rw [← hg1, gK_nw, if_neg (by omega)]; exact hf z (by omega) h2
  have N1 : NF (XN T) g g1 1 5 := by rw [← hg1]; exact (NF.pI (by unfold XN; omega)).tr (NF.nw (by unfold XN; omega))
  have i1 : gI g1 (T + 1) = gI g 5 := by rw [← hg1, gI_nw, if_pos rfl]
  have i0 : ∀ j, j < 11 → gI g1 T j = nI (w0R.1 j) := fun j hj => by
    rw [← hg1, gI_nw, if_neg (by omega), gI_pI_eq, hz]
    have : j = 0 ∨ j = 1 ∨ j = 2 ∨ j = 3 ∨ j = 4 ∨ j = 5 ∨ j = 6 ∨ j = 7 ∨ j = 8 ∨ j = 9 ∨ j = 10 := by omega
    rcases this with e | e | e | e | e | e | e | e | e | e | e <;> subst e <;> rfl
  have l1 : gN g1 (T + 1) = 5 := by rw [← hg1, gN_nw, if_pos rfl]
  have z1 : T + 1 ≠ 0 := by omega
  have z2 : T + 2 ≠ 0 := by omega
  have z3 : T + 3 ≠ 0 := by omega
  simp (disch := omega) only [e_X5_init_18, e_X5_init_21, e_X5_init_24, e_X5_init_25, e_X5_init_27, tand, true_and, and_true, nl1_int, nl1_ref, nl1_null, nl1_ra, cat1_int, cat1_ref, cat1_null, stbs_nil, stbs_cons, stb_int, stb_long, stb_ref, stb_null, stb_ra, alv_nil, alv_cons, alv1_int, alv1_ref, alv1_null, alv1_ra, List.length_nil, List.length_cons, Nat.reduceAdd, Nat.reduceLeDiff, Nat.zero_le, Option.toList_some, Option.toList_none, List.cons_append, List.nil_append, or_true, true_or, or_false, false_or, Nat.reduceEqDiff, not_true_eq_false, not_false_eq_true, false_and, and_false, false_implies, true_implies, implies_true, ne_eq, and_self, ok1, k1, kT, z1, gK_pR, frsh]
  refine ⟨T + 2, ⟨⟨kz _ (by omega) (by omega), by rw [show T + 2 - 1 = T + 1 by omega, k1]; decide, by omega⟩, ?_, ?_⟩, ?_⟩
  · rw [nI_lt0 (by omega)]; exact fun q => q
  · rw [nI_clamp (by omega)]; decide
  rw [nI_clamp (by omega)]
  generalize hg2 : nw (pR g1 T 11 (T + 1)) (T + 2) 14 6 6 (fun _ => 0) = g2
  have k2 : gK g2 (T + 2) = 14 := by rw [← hg2, gK_nw, if_pos rfl]
  have kT2 : gK g2 T = 6 := by rw [← hg2, gK_nw, if_neg (by omega)]; exact kT
  have k12 : gK g2 (T + 1) = 11 := by rw [← hg2, gK_nw, if_neg (by omega)]; exact k1
  have kz2 : ∀ z, T + 3 ≤ z → z < T + 100 → gK g2 z = 0 := fun z h1 h2 => by rw [← hg2, gK_nw, if_neg (by omega)]; exact kz z (by omega) h2
  have N2 : NF (XN T) g g2 2 11 := by rw [← hg2]; exact (N1.tr (NF.pR (by unfold XN; omega))).tr (NF.nw (by unfold XN; omega))
  simp (disch := omega) only [e_X5_init_30, e_X5_init_33, e_X5_init_34, e_X5_init_36, tand, true_and, and_true, nl1_int, nl1_ref, nl1_null, nl1_ra, cat1_int, cat1_ref, cat1_null, stbs_nil, stbs_cons, stb_int, stb_long, stb_ref, stb_null, stb_ra, alv_nil, alv_cons, alv1_int, alv1_ref, alv1_null, alv1_ra, List.length_nil, List.length_cons, Nat.reduceAdd, Nat.reduceLeDiff, Nat.zero_le, Option.toList_some, Option.toList_none, List.cons_append, List.nil_append, or_true, true_or, or_false, false_or, Nat.reduceEqDiff, not_true_eq_false, not_false_eq_true, false_and, and_false, false_implies, true_implies, implies_true, ne_eq, and_self, ok1, k2, kT2, z2, gK_pR, frsh]
  refine ⟨T + 3, ⟨⟨kz2 _ (by omega) (by omega), by rw [show T + 3 - 1 = T + 2 by omega, k2]; decide, by omega⟩, ?_, ?_⟩, ?_⟩
  · rw [nI_lt0 (by omega)]; exact fun q => q
  · rw [nI_clamp (by omega)]; decide
  rw [nI_clamp (by omega)]
  generalize hg3 : nw (pR g2 T 12 (T + 2)) (T + 3) 15 17 17 (fun _ => 0) = g3
  have k3 : gK g3 (T + 3) = 15 := by rw [← hg3, gK_nw, if_pos rfl]
  have kT3 : gK g3 T = 6 := by rw [← hg3, gK_nw, if_neg (by omega)]; exact kT2
  have N3 : NF (XN T) g g3 3 28 := by rw [← hg3]; exact (N2.tr (NF.pR (by unfold XN; omega))).tr (NF.nw (by unfold XN; omega))
  simp (disch := omega) only [e_X5_init_39, e_X5_init_42, e_X5_init_43, tand, true_and, and_true, nl1_int, nl1_ref, nl1_null, nl1_ra, cat1_int, cat1_ref, cat1_null, stbs_nil, stbs_cons, stb_int, stb_long, stb_ref, stb_null, stb_ra, alv_nil, alv_cons, alv1_int, alv1_ref, alv1_null, alv1_ra, List.length_nil, List.length_cons, Nat.reduceAdd, Nat.reduceLeDiff, Nat.zero_le, Option.toList_some, Option.toList_none, List.cons_append, List.nil_append, or_true, true_or, or_false, false_or, Nat.reduceEqDiff, not_true_eq_false, not_false_eq_true, false_and, and_false, false_implies, true_implies, implies_true, ne_eq, and_self, ok1, k3, kT3, z3]
  have kzz : ∀ z, T + 4 ≤ z → z < T + 100 → gK g3 z = 0 := fun z h1 h2 => by rw [← hg3, gK_nw, if_neg (by omega)]; exact kz2 z (by omega) h2
  have hS3 : Scr g3 := N3.scr hS (by unfold XN; omega) (by unfold XN; omega)
  refine town_kilns (g0 := g) hT (fun g4 hS4 hM4 => ?_) 6 0 rfl hS3 ⟨N3.tr (NF.pR (by unfold XN; omega)), ⟨⟨kT3, ?_, ?_, ?_⟩, ⟨?_, ?_⟩, ⟨?_, ?_⟩, ⟨k3, ?_⟩, ?_, ?_⟩, fun k hk => absurd hk (Nat.not_lt_zero k), fun k hk => absurd hk (Nat.not_lt_zero k), fun z h1 h2 => kzz z (by omega) (by omega), fun z h1 h2 => kzz z (by omega) (by omega)⟩
  · simp only [e_X5_init_72, e_X5_init_73, tand, true_and, and_true, nl1_int, nl1_ref, nl1_null, nl1_ra, cat1_int, cat1_ref, cat1_null, stbs_nil, stbs_cons, stb_int, stb_long, stb_ref, stb_null, stb_ra, alv_nil, alv_cons, alv1_int, alv1_ref, alv1_null, alv1_ra, List.length_nil, List.length_cons, Nat.reduceAdd, Nat.reduceLeDiff, Nat.zero_le, Option.toList_some, Option.toList_none, List.cons_append, List.nil_append, or_true, true_or, or_false, false_or, Nat.reduceEqDiff, not_true_eq_false, not_false_eq_true, false_and, and_false, false_implies, true_implies, implies_true, ne_eq, and_self, ok1]
    exact town_places hT q 17 0 rfl hS4 hM4
  · rw [gR_pR, if_pos rfl, if_neg (by decide), ← hg3, gR_nw, if_neg (by omega), gR_pR, if_pos rfl, if_neg (by decide), ← hg2, gR_nw, if_neg (by omega), gR_pR, if_pos rfl, if_pos rfl]
  · rw [gR_pR, if_pos rfl, if_neg (by decide), ← hg3, gR_nw, if_neg (by omega), gR_pR, if_pos rfl, if_pos rfl]
  · rw [gR_pR, if_pos rfl, if_pos rfl]
  · show gK g3 (T + 1) = 11
    rw [← hg3, gK_nw, if_neg (by omega)]; exact k12
  · show gN g3 (T + 1) = 5
    rw [← hg3, gN_nw, if_neg (by omega), gN_pR, ← hg2, gN_nw, if_neg (by omega)]; exact l1
  · show gK g3 (T + 2) = 14
    rw [← hg3, gK_nw, if_neg (by omega)]; exact k2
  · show gN g3 (T + 2) = 6
    rw [← hg3, gN_nw, if_neg (by omega), gN_pR, ← hg2, gN_nw, if_pos rfl]
  · show gN g3 (T + 3) = 17
    rw [← hg3, gN_nw, if_pos rfl]
  · intro j hj
    show gI g3 T j = _
    rw [← hg3, gI_nw, if_neg (by omega), gI_pR, ← hg2, gI_nw, if_neg (by omega), gI_pR]; exact i0 j hj
  · intro s hs
    show gI g3 (T + 1) s = _
    rw [← hg3, gI_nw, if_neg (by omega), gI_pR, ← hg2, gI_nw, if_neg (by omega), gI_pR, i1]; exact f3 s hs
/-- a town made is a town -/
theorem MK.town {g0 : mG} (h : MK g0 g T 6 17) : TRw g T w0R := by
  obtain ⟨_, hB, hK, hO, _, _⟩ := h
  obtain ⟨a, b, c, d, e1, e2⟩ := hB
  refine ⟨⟨a, b, c, d, fun k hk => ?_, fun i hi => ?_⟩, e1, e2, fun k hk => ?_, fun i hi => ?_⟩
  · obtain ⟨⟨⟨q1, q2⟩, q3, q4, q5⟩, q6⟩ := hK k hk
    exact ⟨q6, q1, q2, q5.1, q5.2.1⟩
  · obtain ⟨⟨⟨q1, q2⟩, q3, q4, q5⟩, q6⟩ := hO i hi
    exact ⟨q6, q1, q2, q5.1, q5.2.1⟩
  · obtain ⟨⟨⟨q1, q2⟩, q3, q4, q5⟩, q6⟩ := hK k hk
    exact ⟨fun f _ => q3 f, 0, q5⟩
  · obtain ⟨⟨⟨q1, q2⟩, q3, q4, q5⟩, q6⟩ := hO i hi
    exact ⟨fun f _ => q3 f, Nat.zero_le _, 0, q5⟩
end Mt2
