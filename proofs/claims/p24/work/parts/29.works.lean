/-! ===== what a town does: copying ===== -/
theorem TRw.ext {g : mG} {T : Nat} {w w' : Rw} (h : TRw g T w) (e1 : ∀ j, j < 16 → wS w' j = wS w j) (e2 : ∀ k, k < 6 → (∀ f, f < 7 → wK w' k f = wK w k f) ∧ wP w' k = wP w k) (e3 : ∀ i, i < 17 → (∀ f, f < 5 → wF w' i f = wF w i f) ∧ wO w' i = wO w i) : TRw g T w' := by
  obtain ⟨h0, h1, h2, h3, h4⟩ := h
  refine ⟨h0, fun j hj => by rw [e1 j (by omega)]; exact h1 j hj, fun s hs => by rw [e1 (11 + s) (by omega)]; exact h2 s hs, fun k hk => ⟨fun f hf => by rw [(e2 k hk).1 f hf]; exact (h3 k hk).1 f hf, by rw [(e2 k hk).2]; exact (h3 k hk).2⟩, fun i hi => ⟨fun f hf => by rw [(e3 i hi).1 f hf]; exact (h4 i hi).1 f hf, by rw [(e3 i hi).1 1 (by decide)]; exact (h4 i hi).2.1, by rw [(e3 i hi).2]; exact (h4 i hi).2.2⟩⟩
theorem cpK_S {w w' : Rw} {k : Nat} : wS (cpK w w' k) = wS w ∧ wF (cpK w w' k) = wF w ∧ wO (cpK w w' k) = wO w := ⟨rfl, rfl, rfl⟩
theorem cpO_S {w w' : Rw} {i : Nat} : wS (cpO w w' i) = wS w ∧ wK (cpO w w' i) = wK w ∧ wP (cpO w w' i) = wP w := ⟨rfl, rfl, rfl⟩
theorem cpK_P {w w' : Rw} {k a : Nat} : wP (cpK w w' k) a = if a = k then wP w' k else wP w a := rfl
theorem cpO_O {w w' : Rw} {i a : Nat} : wO (cpO w w' i) a = if a = i then wO w' i else wO w a := rfl
theorem cpK_K {w w' : Rw} {k a f : Nat} (hf : f < 7) : wK (cpK w w' k) a f = if a = k then wK w' k f else wK w a f := by
  show u2 (u2 (u2 (u2 (u2 (u2 (u2 w.2.1 k 0 _) k 1 _) k 2 _) k 3 _) k 4 _) k 5 _) k 6 _ a f = _
  by_cases ha : a = k
  · subst ha
    rw [if_pos rfl]
    simp only [u2_eq, u1]
    have : f = 0 ∨ f = 1 ∨ f = 2 ∨ f = 3 ∨ f = 4 ∨ f = 5 ∨ f = 6 := by omega
    rcases this with e | e | e | e | e | e | e <;> subst e <;> rfl
  · rw [if_neg ha]
    simp only [u2_ne ha]
    rfl
theorem cpO_F {w w' : Rw} {i a f : Nat} (hf : f < 5) : wF (cpO w w' i) a f = if a = i then wF w' i f else wF w a f := by
  show u2 (u2 (u2 (u2 (u2 w.2.2.2.1 i 0 _) i 1 _) i 2 _) i 3 _) i 4 _ a f = _
  by_cases ha : a = i
  · subst ha
    rw [if_pos rfl]
    simp only [u2_eq, u1]
    have : f = 0 ∨ f = 1 ∨ f = 2 ∨ f = 3 ∨ f = 4 := by omega
    rcases this with e | e | e | e | e <;> subst e <;> rfl
  · rw [if_neg ha]
    simp only [u2_ne ha]
    rfl
section Cpy
variable {T T' : Nat} {w' : Rw} {Q : mQ} {g0 : mG}
/-- how much is copied -/
def CpS (w w' : Rw) (a b c : Nat) : Prop := (∀ j, j < a → wS w' j = wS w j) ∧ (∀ k, k < b → (∀ f, f < 7 → wK w' k f = wK w k f) ∧ wP w' k = wP w k) ∧ ∀ i, i < c → (∀ f, f < 5 → wF w' i f = wF w i f) ∧ wO w' i = wO w i
theorem copyT3 (hT : isT T) (hT' : isT T') (hne : T ≠ T') (hQ : ∀ g', CG (XT T) g0 g' T w' → Q none g') : ∀ (k i : Nat) {g : mG} {w : Rw}, i + k = 17 → Scr g → CG (XT T) g0 g T w → TRw g T' w' → CpS w w' 16 6 i → WP m_X5_copyFrom Q 169 [.ref T, .ref T', .int (nI i)] [] g := by
  have z1 : T + 3 ≠ 0 := by omega
  have z2 : T' + 3 ≠ 0 := by omega
  intro k
  induction k with
  | zero =>
    intro i g w hi hS hC h' hc
    have hi2 : i = 17 := by omega
    subst hi2
    obtain ⟨⟨a1, a2, a3, a4⟩, ⟨b1, b2⟩, ⟨c1, c2⟩, ⟨d1, d2⟩⟩ := hC.2.2.pl
    simp (disch := omega) only [e_X5_copyFrom_169, e_X5_copyFrom_170, e_X5_copyFrom_171, e_X5_copyFrom_174, e_X5_copyFrom_175, e_X5_copyFrom_208, tand, true_and, and_true, nl1_int, nl1_ref, nl1_null, nl1_ra, cat1_int, cat1_ref, cat1_null, stbs_nil, stbs_cons, stb_int, stb_long, stb_ref, stb_null, stb_ra, alv_nil, alv_cons, alv1_int, alv1_ref, alv1_null, alv1_ra, List.length_nil, List.length_cons, Nat.reduceAdd, Nat.reduceLeDiff, Nat.zero_le, Option.toList_some, Option.toList_none, List.cons_append, List.nil_append, or_true, true_or, or_false, false_or, Nat.reduceEqDiff, not_true_eq_false, not_false_eq_true, false_and, and_false, false_implies, true_implies, implies_true, ne_eq, and_self, ok1, a1, a4, d1, d2, nI_leE, z1]
    exact hQ g ⟨hC.1, hC.2.1, hC.2.2.ext hc.1 hc.2.1 hc.2.2⟩
  | succ k ih =>
    intro i g w hi hS hC h' hc
    have hlt : i < 17 := by omega
    have hlt2 : ¬ 17 ≤ i := by omega
    obtain ⟨⟨a1, a2, a3, a4⟩, ⟨b1, b2⟩, ⟨c1, c2⟩, ⟨d1, d2⟩⟩ := hC.2.2.pl
    obtain ⟨⟨a1', a2', a3', a4'⟩, ⟨b1', b2'⟩, ⟨c1', c2'⟩, ⟨d1', d2'⟩⟩ := h'.pl
    have z3 : T + 22 + 3 * i ≠ 0 := by omega
    have z4 : T' + 22 + 3 * i ≠ 0 := by omega
    have o1 := (hC.2.2.o hlt).1.1
    simp (disch := omega) only [e_X5_copyFrom_169, e_X5_copyFrom_170, e_X5_copyFrom_171, e_X5_copyFrom_174, e_X5_copyFrom_175, e_X5_copyFrom_178, e_X5_copyFrom_179, e_X5_copyFrom_179n, e_X5_copyFrom_180, e_X5_copyFrom_183, e_X5_copyFrom_184, e_X5_copyFrom_187, e_X5_copyFrom_188, e_X5_copyFrom_191, e_X5_copyFrom_192, e_X5_copyFrom_193, e_X5_copyFrom_193n, e_X5_copyFrom_194, e_X5_copyFrom_197, e_X5_copyFrom_198, e_X5_copyFrom_199, tand, true_and, and_true, nl1_int, nl1_ref, nl1_null, nl1_ra, cat1_int, cat1_ref, cat1_null, stbs_nil, stbs_cons, stb_int, stb_long, stb_ref, stb_null, stb_ra, alv_nil, alv_cons, alv1_int, alv1_ref, alv1_null, alv1_ra, List.length_nil, List.length_cons, Nat.reduceAdd, Nat.reduceLeDiff, Nat.zero_le, Option.toList_some, Option.toList_none, List.cons_append, List.nil_append, or_true, true_or, or_false, false_or, Nat.reduceEqDiff, not_true_eq_false, not_false_eq_true, false_and, and_false, false_implies, true_implies, implies_true, ne_eq, and_self, ok1, a1, a4, d1, d2, a1', a4', d1', d2', nI_leE, hlt2, z1, z2, z3, z4, nI_vp, nI_clamp, hlt, hC.2.2.ro hlt, h'.ro hlt, o1]
    refine c_X2_copyFrom hT hT' hne hC.2.2 h' hlt hS hC.2.1 fun g1 C1 => ?_
    simp only [e_X5_copyFrom_202, e_X5_copyFrom_205, tand, true_and, and_true, nl1_int, nl1_ref, nl1_null, nl1_ra, cat1_int, cat1_ref, cat1_null, stbs_nil, stbs_cons, stb_int, stb_long, stb_ref, stb_null, stb_ra, alv_nil, alv_cons, alv1_int, alv1_ref, alv1_null, alv1_ra, List.length_nil, List.length_cons, Nat.reduceAdd, Nat.reduceLeDiff, Nat.zero_le, Option.toList_some, Option.toList_none, List.cons_append, List.nil_append, or_true, true_or, or_false, false_or, Nat.reduceEqDiff, not_true_eq_false, not_false_eq_true, false_and, and_false, false_implies, true_implies, implies_true, ne_eq, and_self, ok1, nI_add]
    refine ih (i + 1) (by omega) (hS.fr C1.1) (hC.tr C1 fun _ z => z) (h'.ot hT hT' hne C1.1) ⟨fun j hj => hc.1 j hj, fun k hk => hc.2.1 k hk, fun a ha => ⟨fun f hf => ?_, ?_⟩⟩
    · rw [cpO_F hf]
      by_cases hai : a = i
      · rw [if_pos hai, hai]
      · rw [if_neg hai]; exact (hc.2.2 a (by omega)).1 f hf
    · rw [cpO_O]
      by_cases hai : a = i
      · rw [if_pos hai, hai]
      · rw [if_neg hai]; exact (hc.2.2 a (by omega)).2
theorem copyT2 (hT : isT T) (hT' : isT T') (hne : T ≠ T') (hQ : ∀ g', CG (XT T) g0 g' T w' → Q none g') : ∀ (k i : Nat) {g : mG} {w : Rw}, i + k = 6 → Scr g → CG (XT T) g0 g T w → TRw g T' w' → CpS w w' 16 i 0 → WP m_X5_copyFrom Q 128 [.ref T, .ref T', .int (nI i)] [] g := by
  have z1 : T + 2 ≠ 0 := by omega
  have z2 : T' + 2 ≠ 0 := by omega
  intro k
  induction k with
  | zero =>
    intro i g w hi hS hC h' hc
    have hi2 : i = 6 := by omega
    subst hi2
    obtain ⟨⟨a1, a2, a3, a4⟩, ⟨b1, b2⟩, ⟨c1, c2⟩, ⟨d1, d2⟩⟩ := hC.2.2.pl
    simp (disch := omega) only [e_X5_copyFrom_128, e_X5_copyFrom_129, e_X5_copyFrom_130, e_X5_copyFrom_133, e_X5_copyFrom_134, e_X5_copyFrom_167, e_X5_copyFrom_168, tand, true_and, and_true, nl1_int, nl1_ref, nl1_null, nl1_ra, cat1_int, cat1_ref, cat1_null, stbs_nil, stbs_cons, stb_int, stb_long, stb_ref, stb_null, stb_ra, alv_nil, alv_cons, alv1_int, alv1_ref, alv1_null, alv1_ra, List.length_nil, List.length_cons, Nat.reduceAdd, Nat.reduceLeDiff, Nat.zero_le, Option.toList_some, Option.toList_none, List.cons_append, List.nil_append, or_true, true_or, or_false, false_or, Nat.reduceEqDiff, not_true_eq_false, not_false_eq_true, false_and, and_false, false_implies, true_implies, implies_true, ne_eq, and_self, ok1, a1, a3, c1, c2, nI_leE, z1]
    exact copyT3 hT hT' hne hQ 17 0 rfl hS hC h' hc
  | succ k ih =>
    intro i g w hi hS hC h' hc
    have hlt : i < 6 := by omega
    have hlt2 : ¬ 6 ≤ i := by omega
    obtain ⟨⟨a1, a2, a3, a4⟩, ⟨b1, b2⟩, ⟨c1, c2⟩, ⟨d1, d2⟩⟩ := hC.2.2.pl
    obtain ⟨⟨a1', a2', a3', a4'⟩, ⟨b1', b2'⟩, ⟨c1', c2'⟩, ⟨d1', d2'⟩⟩ := h'.pl
    have z3 : T + 4 + 3 * i ≠ 0 := by omega
    have z4 : T' + 4 + 3 * i ≠ 0 := by omega
    have o1 := (hC.2.2.k hlt).1.1
    simp (disch := omega) only [e_X5_copyFrom_128, e_X5_copyFrom_129, e_X5_copyFrom_130, e_X5_copyFrom_133, e_X5_copyFrom_134, e_X5_copyFrom_137, e_X5_copyFrom_138, e_X5_copyFrom_138n, e_X5_copyFrom_139, e_X5_copyFrom_142, e_X5_copyFrom_143, e_X5_copyFrom_146, e_X5_copyFrom_147, e_X5_copyFrom_150, e_X5_copyFrom_151, e_X5_copyFrom_152, e_X5_copyFrom_152n, e_X5_copyFrom_153, e_X5_copyFrom_156, e_X5_copyFrom_157, e_X5_copyFrom_158, tand, true_and, and_true, nl1_int, nl1_ref, nl1_null, nl1_ra, cat1_int, cat1_ref, cat1_null, stbs_nil, stbs_cons, stb_int, stb_long, stb_ref, stb_null, stb_ra, alv_nil, alv_cons, alv1_int, alv1_ref, alv1_null, alv1_ra, List.length_nil, List.length_cons, Nat.reduceAdd, Nat.reduceLeDiff, Nat.zero_le, Option.toList_some, Option.toList_none, List.cons_append, List.nil_append, or_true, true_or, or_false, false_or, Nat.reduceEqDiff, not_true_eq_false, not_false_eq_true, false_and, and_false, false_implies, true_implies, implies_true, ne_eq, and_self, ok1, a1, a3, c1, c2, a1', a3', c1', c2', nI_leE, hlt2, z1, z2, z3, z4, nI_vp, nI_clamp, hlt, hC.2.2.rk hlt, h'.rk hlt, o1]
    refine c_X0_copyFrom hT hT' hne hC.2.2 h' hlt hS hC.2.1 fun g1 C1 => ?_
    simp only [e_X5_copyFrom_161, e_X5_copyFrom_164, tand, true_and, and_true, nl1_int, nl1_ref, nl1_null, nl1_ra, cat1_int, cat1_ref, cat1_null, stbs_nil, stbs_cons, stb_int, stb_long, stb_ref, stb_null, stb_ra, alv_nil, alv_cons, alv1_int, alv1_ref, alv1_null, alv1_ra, List.length_nil, List.length_cons, Nat.reduceAdd, Nat.reduceLeDiff, Nat.zero_le, Option.toList_some, Option.toList_none, List.cons_append, List.nil_append, or_true, true_or, or_false, false_or, Nat.reduceEqDiff, not_true_eq_false, not_false_eq_true, false_and, and_false, false_implies, true_implies, implies_true, ne_eq, and_self, ok1, nI_add]
    refine ih (i + 1) (by omega) (hS.fr C1.1) (hC.tr C1 fun _ z => z) (h'.ot hT hT' hne C1.1) ⟨fun j hj => hc.1 j hj, fun a ha => ⟨fun f hf => ?_, ?_⟩, fun a ha => absurd ha (Nat.not_lt_zero a)⟩
    · rw [cpK_K hf]
      by_cases hai : a = i
      · rw [if_pos hai, hai]
      · rw [if_neg hai]; exact (hc.2.1 a (by omega)).1 f hf
    · rw [cpK_P]
      by_cases hai : a = i
      · rw [if_pos hai, hai]
      · rw [if_neg hai]; exact (hc.2.1 a (by omega)).2
theorem copyT1 (hT : isT T) (hT' : isT T') (hne : T ≠ T') (hQ : ∀ g', CG (XT T) g0 g' T w' → Q none g') : ∀ (k i : Nat) {g : mG} {w : Rw}, i + k = 5 → Scr g → CG (XT T) g0 g T w → TRw g T' w' → CpS w w' (11 + i) 0 0 → WP m_X5_copyFrom Q 90 [.ref T, .ref T', .int (nI i)] [] g := by
  have z1 : T + 1 ≠ 0 := by omega
  have z2 : T' + 1 ≠ 0 := by omega
  intro k
  induction k with
  | zero =>
    intro i g w hi hS hC h' hc
    have hi2 : i = 5 := by omega
    subst hi2
    obtain ⟨⟨a1, a2, a3, a4⟩, ⟨b1, b2⟩, ⟨c1, c2⟩, ⟨d1, d2⟩⟩ := hC.2.2.pl
    simp (disch := omega) only [e_X5_copyFrom_90, e_X5_copyFrom_91, e_X5_copyFrom_92, e_X5_copyFrom_95, e_X5_copyFrom_96, e_X5_copyFrom_126, e_X5_copyFrom_127, tand, true_and, and_true, nl1_int, nl1_ref, nl1_null, nl1_ra, cat1_int, cat1_ref, cat1_null, stbs_nil, stbs_cons, stb_int, stb_long, stb_ref, stb_null, stb_ra, alv_nil, alv_cons, alv1_int, alv1_ref, alv1_null, alv1_ra, List.length_nil, List.length_cons, Nat.reduceAdd, Nat.reduceLeDiff, Nat.zero_le, Option.toList_some, Option.toList_none, List.cons_append, List.nil_append, or_true, true_or, or_false, false_or, Nat.reduceEqDiff, not_true_eq_false, not_false_eq_true, false_and, and_false, false_implies, true_implies, implies_true, ne_eq, and_self, ok1, a1, a2, b1, b2, nI_leE, z1]
    exact copyT2 hT hT' hne hQ 6 0 rfl hS hC h' hc
  | succ k ih =>
    intro i g w hi hS hC h' hc
    have hlt : i < 5 := by omega
    have hlt2 : ¬ 5 ≤ i := by omega
    obtain ⟨⟨a1, a2, a3, a4⟩, ⟨b1, b2⟩, ⟨c1, c2⟩, ⟨d1, d2⟩⟩ := hC.2.2.pl
    obtain ⟨⟨a1', a2', a3', a4'⟩, ⟨b1', b2'⟩, ⟨c1', c2'⟩, ⟨d1', d2'⟩⟩ := h'.pl
    have s1 := h'.2.2.1 i hlt
    simp (disch := omega) only [e_X5_copyFrom_90, e_X5_copyFrom_91, e_X5_copyFrom_92, e_X5_copyFrom_95, e_X5_copyFrom_96, e_X5_copyFrom_99, e_X5_copyFrom_100, e_X5_copyFrom_100n, e_X5_copyFrom_101, e_X5_copyFrom_104, e_X5_copyFrom_105, e_X5_copyFrom_108, e_X5_copyFrom_109, e_X5_copyFrom_112, e_X5_copyFrom_113, e_X5_copyFrom_113n, e_X5_copyFrom_114, e_X5_copyFrom_117, e_X5_copyFrom_118, e_X5_copyFrom_119, e_X5_copyFrom_120, tand, true_and, and_true, nl1_int, nl1_ref, nl1_null, nl1_ra, cat1_int, cat1_ref, cat1_null, stbs_nil, stbs_cons, stb_int, stb_long, stb_ref, stb_null, stb_ra, alv_nil, alv_cons, alv1_int, alv1_ref, alv1_null, alv1_ra, List.length_nil, List.length_cons, Nat.reduceAdd, Nat.reduceLeDiff, Nat.zero_le, Option.toList_some, Option.toList_none, List.cons_append, List.nil_append, or_true, true_or, or_false, false_or, Nat.reduceEqDiff, not_true_eq_false, not_false_eq_true, false_and, and_false, false_implies, true_implies, implies_true, ne_eq, and_self, ok1, a1, a2, b1, b2, a1', a2', b1', b2', nI_leE, hlt2, z1, z2, nI_vp, nI_clamp, hlt, isIA, s1, nI_add]
    simp only [e_X5_copyFrom_123, tand, true_and, and_true, nl1_int, nl1_ref, nl1_null, nl1_ra, cat1_int, cat1_ref, cat1_null, stbs_nil, stbs_cons, stb_int, stb_long, stb_ref, stb_null, stb_ra, alv_nil, alv_cons, alv1_int, alv1_ref, alv1_null, alv1_ra, List.length_nil, List.length_cons, Nat.reduceAdd, Nat.reduceLeDiff, Nat.zero_le, Option.toList_some, Option.toList_none, List.cons_append, List.nil_append, or_true, true_or, or_false, false_or, Nat.reduceEqDiff, not_true_eq_false, not_false_eq_true, false_and, and_false, false_implies, true_implies, implies_true, ne_eq, and_self, ok1]
    have C1 := hC.setSt hT.big (XT_in (by omega) (by omega)) i (wS w' (11 + i)) hlt
    refine ih (i + 1) (by omega) (hS.fr (Fr.pI (X := XT T) (XT_in (by omega) (by omega)))) C1 (h'.ot hT hT' hne (Fr.pI (XT_in (by omega) (by omega)))) ⟨fun j hj => ?_, fun a ha => absurd ha (Nat.not_lt_zero a), fun a ha => absurd ha (Nat.not_lt_zero a)⟩
    show _ = u1 w.1 (11 + i) (wS w' (11 + i)) j
    unfold u1
    by_cases hj2 : j = 11 + i
    · rw [if_pos hj2, hj2]
    · rw [if_neg hj2]; exact hc.1 j (by omega)
theorem c_X5_copyFrom {w : Rw} {g : mG} (hT : isT T) (hT' : isT T') (hne : T ≠ T') (h : TRw g T w) (h' : TRw g T' w') (hS : Scr g) (hJ : JR g) (hQ : ∀ g', CG (XT T) g g' T w' → Q none g') : w_X5_copyFrom [.ref T, .ref T'] g Q := by
  refine wm_at rfl ⟨trivial, trivial, trivial⟩ (show WP m_X5_copyFrom Q 0 [.ref T, .ref T', .retAddr 0] [] g from ?_)
  obtain ⟨⟨a1, a2, a3, a4⟩, ⟨b1, b2⟩, ⟨c1, c2⟩, ⟨d1, d2⟩⟩ := h.pl
  obtain ⟨⟨a1', a2', a3', a4'⟩, ⟨b1', b2'⟩, ⟨c1', c2'⟩, ⟨d1', d2'⟩⟩ := h'.pl
  have hx : T' ≠ T := Ne.symm hne
  have s := h'.2.1
  simp (disch := omega) only [e_X5_copyFrom_0, e_X5_copyFrom_1, e_X5_copyFrom_1n, e_X5_copyFrom_2, e_X5_copyFrom_5, e_X5_copyFrom_8, e_X5_copyFrom_9, e_X5_copyFrom_9n, e_X5_copyFrom_10, e_X5_copyFrom_13, e_X5_copyFrom_16, e_X5_copyFrom_17, e_X5_copyFrom_17n, e_X5_copyFrom_18, e_X5_copyFrom_21, e_X5_copyFrom_24, e_X5_copyFrom_25, e_X5_copyFrom_25n, e_X5_copyFrom_26, e_X5_copyFrom_29, e_X5_copyFrom_32, e_X5_copyFrom_33, e_X5_copyFrom_33n, e_X5_copyFrom_34, e_X5_copyFrom_37, e_X5_copyFrom_40, e_X5_copyFrom_41, e_X5_copyFrom_41n, e_X5_copyFrom_42, e_X5_copyFrom_45, e_X5_copyFrom_48, e_X5_copyFrom_49, e_X5_copyFrom_49n, e_X5_copyFrom_50, e_X5_copyFrom_53, e_X5_copyFrom_56, e_X5_copyFrom_57, e_X5_copyFrom_57n, e_X5_copyFrom_58, e_X5_copyFrom_61, e_X5_copyFrom_64, e_X5_copyFrom_65, e_X5_copyFrom_65n, e_X5_copyFrom_66, e_X5_copyFrom_69, e_X5_copyFrom_72, e_X5_copyFrom_73, e_X5_copyFrom_73n, e_X5_copyFrom_74, e_X5_copyFrom_77, e_X5_copyFrom_80, e_X5_copyFrom_81, e_X5_copyFrom_81n, e_X5_copyFrom_82, e_X5_copyFrom_85, e_X5_copyFrom_88, e_X5_copyFrom_89, tand, true_and, and_true, nl1_int, nl1_ref, nl1_null, nl1_ra, cat1_int, cat1_ref, cat1_null, stbs_nil, stbs_cons, stb_int, stb_long, stb_ref, stb_null, stb_ra, alv_nil, alv_cons, alv1_int, alv1_ref, alv1_null, alv1_ra, List.length_nil, List.length_cons, Nat.reduceAdd, Nat.reduceLeDiff, Nat.zero_le, Option.toList_some, Option.toList_none, List.cons_append, List.nil_append, or_true, true_or, or_false, false_or, Nat.reduceEqDiff, not_true_eq_false, not_false_eq_true, false_and, and_false, false_implies, true_implies, implies_true, ne_eq, and_self, ok1, a1, a1', gK_pI, gI_pI_ne hx, s 0 (by decide), s 1 (by decide), s 2 (by decide), s 3 (by decide), s 4 (by decide), s 5 (by decide), s 6 (by decide), s 7 (by decide), s 8 (by decide), s 9 (by decide), s 10 (by decide)]
  have hX : XT T T := XT_in (by omega) (by omega)
  have hb := hT.big
  have C := (((((((((((CG.rf (X := XT T) hJ h).setS hb hX 0 (wS w' 0) (by decide)).setS hb hX 1 (wS w' 1) (by decide)).setS hb hX 2 (wS w' 2) (by decide)).setS hb hX 3 (wS w' 3) (by decide)).setS hb hX 4 (wS w' 4) (by decide)).setS hb hX 5 (wS w' 5) (by decide)).setS hb hX 6 (wS w' 6) (by decide)).setS hb hX 7 (wS w' 7) (by decide)).setS hb hX 8 (wS w' 8) (by decide)).setS hb hX 9 (wS w' 9) (by decide)).setS hb hX 10 (wS w' 10) (by decide)
  refine copyT1 hT hT' hne hQ 5 0 rfl (hS.fr C.1) C (h'.ot hT hT' hne C.1) ⟨fun j hj => ?_, fun a ha => absurd ha (Nat.not_lt_zero a), fun a ha => absurd ha (Nat.not_lt_zero a)⟩
  show _ = u1 (u1 (u1 (u1 (u1 (u1 (u1 (u1 (u1 (u1 (u1 w.1 0 _) 1 _) 2 _) 3 _) 4 _) 5 _) 6 _) 7 _) 8 _) 9 _) 10 _ j
  have : j = 0 ∨ j = 1 ∨ j = 2 ∨ j = 3 ∨ j = 4 ∨ j = 5 ∨ j = 6 ∨ j = 7 ∨ j = 8 ∨ j = 9 ∨ j = 10 := by omega
  rcases this with e | e | e | e | e | e | e | e | e | e | e <;> subst e <;> rfl
end Cpy
