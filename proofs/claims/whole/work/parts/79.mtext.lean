/-! ===== the model: the text is read ===== -/
/-- within the reading: the place p, j orders told, the row of what is told is c -/
def MX (g0 g : mG) (A0 : Nat → Nat → Nat) (c : Nat → Nat) (p j : Nat) : Prop := FX g0 g ∧ MD g (ur A0 46 c) ∧ gI g 40 8 = nI p ∧ gI g 40 9 = nI j ∧ ∀ f, f ≠ 8 → f ≠ 9 → gI g 40 f = gI g0 40 f
theorem nIm1 : (-1 : Int32) = nI 4294967295 := by decide
theorem z45 : (45 : Nat) ≠ 0 := by decide
theorem z46 : (46 : Nat) ≠ 0 := by decide
section MXs
variable {g0 g : mG} {A0 : Nat → Nat → Nat} {c : Nat → Nat} {p j : Nat}
theorem MX.k40 (h : MX g0 g A0 c p j) : gK g 40 = 8 := h.2.1.1.1
theorem MX.r4 (h : MX g0 g A0 c p j) : gR g 40 4 = 45 := h.2.1.1.2 4 (by decide)
theorem MX.r5 (h : MX g0 g A0 c p j) : gR g 40 5 = 46 := h.2.1.1.2 5 (by decide)
theorem MX.t (h : MX g0 g A0 c p j) : gK g 45 = 11 ∧ gN g 45 = 60 ∧ ∀ i, i < 60 → gI g 45 i = nI (A0 45 i) := by
  obtain ⟨k1, k2, k3⟩ := h.2.1.row 45 (by decide) (by decide)
  rw [ur_ne (by decide)] at k3
  exact ⟨k1, k2, k3⟩
theorem MX.cr (h : MX g0 g A0 c p j) : gK g 46 = 11 ∧ gN g 46 = 80 ∧ ∀ i, i < 80 → gI g 46 i = nI (c i) := by
  obtain ⟨k1, k2, k3⟩ := h.2.1.row 46 (by decide) (by decide)
  rw [ur_eq] at k3
  exact ⟨k1, k2, k3⟩
theorem MX.pl (h : MX g0 g A0 c p j) (q : Nat) : MX g0 (pI g 40 8 (nI q)) A0 c q j := ⟨h.1.pI (XD.of (by decide) (by decide)), h.2.1.fld 8 _, gI_same, by rw [gI_diff (by decide)]; exact h.2.2.2.1, fun f h8 h9 => by rw [gI_diff h8]; exact h.2.2.2.2 f h8 h9⟩
theorem MX.te (h : MX g0 g A0 c p j) (q : Nat) : MX g0 (pI g 40 9 (nI q)) A0 c p q := ⟨h.1.pI (XD.of (by decide) (by decide)), h.2.1.fld 9 _, by rw [gI_diff (by decide)]; exact h.2.2.1, gI_same, fun f h8 h9 => by rw [gI_diff h9]; exact h.2.2.2.2 f h8 h9⟩
theorem MX.set (h : MX g0 g A0 c p j) (i v : Nat) : MX g0 (pI g 46 i (nI v)) A0 (u1 c i v) p j := ⟨h.1.pI (XD.of (by decide) (by decide)), by rw [← u2_ur]; exact h.2.1.set 46 i v, by rw [gI_pI_ne (by decide)]; exact h.2.2.1, by rw [gI_pI_ne (by decide)]; exact h.2.2.2.1, fun f h8 h9 => by rw [gI_pI_ne (by decide)]; exact h.2.2.2.2 f h8 h9⟩
theorem MX.wp {m : List (Nat × mT)} {Q : mQ} {pc i v : Nat} {ls st : List Value} (M : MX g0 g A0 c p j) (h : ∀ g1, MX g0 g1 A0 (u1 c i v) p j → WP m Q pc ls st g1) : WP m Q pc ls st (pI g 46 i (nI v)) := h _ (M.set i v)
end MXs
section Mtx
variable {g0 g : mG} {Q : mQ} {A0 : Nat → Nat → Nat} {c : Nat → Nat} {p j n : Nat} {t : Nat → Nat}
/-- the text of the model -/
def TX (g0 : mG) (A0 : Nat → Nat → Nat) (t : Nat → Nat) (n : Nat) : Prop := gI g0 40 7 = nI n ∧ n ≤ 60 ∧ ∀ i, i < n → A0 45 i = t i ∧ t i < 65536
theorem c_X7_sign (M : MX g0 g A0 c p j) (T : TX g0 A0 t n) (hp : p < 2 ^ 28) (q1 : p < n → Q (some (.int (nI (t p)))) g) (q0 : ¬ p < n → Q (some (.int (-1))) g) : w_X7_sign [.ref 40] g Q := by
  refine wm_at rfl ⟨trivial, trivial⟩ (show WP m_X7_sign Q 0 [.ref 40] [] g from ?_)
  obtain ⟨T1, T2, T3⟩ := T
  have e7 : gI g 40 7 = nI n := (M.2.2.2.2 7 (by decide) (by decide)).trans T1
  obtain ⟨k1, k2, k3⟩ := M.t
  simp (disch := omega) only [e_X7_sign_0, e_X7_sign_1, e_X7_sign_4, e_X7_sign_5, e_X7_sign_8, tand, true_and, and_true, nl1_int, nl1_ref, nl1_null, nl1_ra, cat1_int, cat1_ref, cat1_null, stbs_nil, stbs_cons, stb_int, stb_long, stb_ref, stb_null, stb_ra, alv_nil, alv_cons, alv1_int, alv1_ref, alv1_null, alv1_ra, List.length_nil, List.length_cons, Nat.reduceAdd, Nat.reduceLeDiff, Nat.zero_le, Option.toList_some, Option.toList_none, List.cons_append, List.nil_append, or_true, true_or, or_false, false_or, Nat.reduceEqDiff, not_true_eq_false, not_false_eq_true, false_and, and_false, false_implies, true_implies, implies_true, ne_eq, and_self, ok1, M.k40, M.2.2.1, e7, nI_leE]
  refine ⟨fun h => ?_, fun h => ?_⟩
  · simp only [e_X7_sign_23, e_X7_sign_24, tand, true_and, and_true, nl1_int, nl1_ref, nl1_null, nl1_ra, cat1_int, cat1_ref, cat1_null, stbs_nil, stbs_cons, stb_int, stb_long, stb_ref, stb_null, stb_ra, alv_nil, alv_cons, alv1_int, alv1_ref, alv1_null, alv1_ra, List.length_nil, List.length_cons, Nat.reduceAdd, Nat.reduceLeDiff, Nat.zero_le, Option.toList_some, Option.toList_none, List.cons_append, List.nil_append, or_true, true_or, or_false, false_or, Nat.reduceEqDiff, not_true_eq_false, not_false_eq_true, false_and, and_false, false_implies, true_implies, implies_true, ne_eq, and_self, ok1]
    exact q0 (by omega)
  · have hlt : p < n := by omega
    simp (disch := omega) only [e_X7_sign_11, e_X7_sign_12, e_X7_sign_15, e_X7_sign_16, e_X7_sign_19, e_X7_sign_20, e_X7_sign_23, e_X7_sign_24, tand, true_and, and_true, nl1_int, nl1_ref, nl1_null, nl1_ra, cat1_int, cat1_ref, cat1_null, stbs_nil, stbs_cons, stb_int, stb_long, stb_ref, stb_null, stb_ra, alv_nil, alv_cons, alv1_int, alv1_ref, alv1_null, alv1_ra, List.length_nil, List.length_cons, Nat.reduceAdd, Nat.reduceLeDiff, Nat.zero_le, Option.toList_some, Option.toList_none, List.cons_append, List.nil_append, or_true, true_or, or_false, false_or, Nat.reduceEqDiff, not_true_eq_false, not_false_eq_true, false_and, and_false, false_implies, true_implies, implies_true, ne_eq, and_self, ok1, M.k40, M.2.2.1, M.r4, k1, k2, k3, isIA, vpT, nI_clamp, z45, (T3 p hlt).1]
    exact q1 hlt
theorem c_X7_takes {s : Nat} (M : MX g0 g A0 c p j) (T : TX g0 A0 t n) (hp : p < 2 ^ 28) (hs : s < 65536) (q1 : p < n → t p = s → ∀ g', MX g0 g' A0 c (p + 1) j → Q (some (.int (nI 1))) g') (q0 : ¬ (p < n ∧ t p = s) → Q (some (.int (nI 0))) g) : w_X7_takes [.ref 40, .int (nI s)] g Q := by
  refine wm_at rfl ⟨trivial, trivial, trivial⟩ (show WP m_X7_takes Q 0 [.ref 40, .int (nI s)] [] g from ?_)
  simp only [e_X7_takes_0, e_X7_takes_1, tand, true_and, and_true, nl1_int, nl1_ref, nl1_null, nl1_ra, cat1_int, cat1_ref, cat1_null, stbs_nil, stbs_cons, stb_int, stb_long, stb_ref, stb_null, stb_ra, alv_nil, alv_cons, alv1_int, alv1_ref, alv1_null, alv1_ra, List.length_nil, List.length_cons, Nat.reduceAdd, Nat.reduceLeDiff, Nat.zero_le, Option.toList_some, Option.toList_none, List.cons_append, List.nil_append, or_true, true_or, or_false, false_or, Nat.reduceEqDiff, not_true_eq_false, not_false_eq_true, false_and, and_false, false_implies, true_implies, implies_true, ne_eq, and_self, ok1, M.k40]
  refine c_X7_sign M T hp (fun h => ?_) fun h => ?_
  · have hb := (T.2.2 p h).2
    simp (disch := omega) only [e_X7_takes_4, e_X7_takes_5, tand, true_and, and_true, nl1_int, nl1_ref, nl1_null, nl1_ra, cat1_int, cat1_ref, cat1_null, stbs_nil, stbs_cons, stb_int, stb_long, stb_ref, stb_null, stb_ra, alv_nil, alv_cons, alv1_int, alv1_ref, alv1_null, alv1_ra, List.length_nil, List.length_cons, Nat.reduceAdd, Nat.reduceLeDiff, Nat.zero_le, Option.toList_some, Option.toList_none, List.cons_append, List.nil_append, or_true, true_or, or_false, false_or, Nat.reduceEqDiff, not_true_eq_false, not_false_eq_true, false_and, and_false, false_implies, true_implies, implies_true, ne_eq, and_self, ok1, nI_eqE]
    refine ⟨fun h2 => ?_, fun h2 => ?_⟩
    · simp only [e_X7_takes_20, e_X7_takes_21, tand, true_and, and_true, nl1_int, nl1_ref, nl1_null, nl1_ra, cat1_int, cat1_ref, cat1_null, stbs_nil, stbs_cons, stb_int, stb_long, stb_ref, stb_null, stb_ra, alv_nil, alv_cons, alv1_int, alv1_ref, alv1_null, alv1_ra, List.length_nil, List.length_cons, Nat.reduceAdd, Nat.reduceLeDiff, Nat.zero_le, Option.toList_some, Option.toList_none, List.cons_append, List.nil_append, or_true, true_or, or_false, false_or, Nat.reduceEqDiff, not_true_eq_false, not_false_eq_true, false_and, and_false, false_implies, true_implies, implies_true, ne_eq, and_self, ok1, bE0]
      exact q0 fun z => h2 z.2
    · simp only [e_X7_takes_8, e_X7_takes_9, e_X7_takes_10, e_X7_takes_13, e_X7_takes_14, e_X7_takes_15, e_X7_takes_18, e_X7_takes_19, tand, true_and, and_true, nl1_int, nl1_ref, nl1_null, nl1_ra, cat1_int, cat1_ref, cat1_null, stbs_nil, stbs_cons, stb_int, stb_long, stb_ref, stb_null, stb_ra, alv_nil, alv_cons, alv1_int, alv1_ref, alv1_null, alv1_ra, List.length_nil, List.length_cons, Nat.reduceAdd, Nat.reduceLeDiff, Nat.zero_le, Option.toList_some, Option.toList_none, List.cons_append, List.nil_append, or_true, true_or, or_false, false_or, Nat.reduceEqDiff, not_true_eq_false, not_false_eq_true, false_and, and_false, false_implies, true_implies, implies_true, ne_eq, and_self, ok1, M.k40, M.2.2.1, nI_add, bE1]
      exact q1 h (Decidable.not_not.mp h2) _ (M.pl (p + 1))
  · have hne : ((-1 : Int32) = nI s) = False := by
      refine propext ⟨fun z => ?_, fun z => z.elim⟩
      have := congrArg Int32.toInt z
      rw [nI_toInt (by omega)] at this
      have e3 : (-1 : Int32).toInt = -1 := by decide
      omega
    simp only [e_X7_takes_4, e_X7_takes_5, e_X7_takes_20, e_X7_takes_21, tand, true_and, and_true, nl1_int, nl1_ref, nl1_null, nl1_ra, cat1_int, cat1_ref, cat1_null, stbs_nil, stbs_cons, stb_int, stb_long, stb_ref, stb_null, stb_ra, alv_nil, alv_cons, alv1_int, alv1_ref, alv1_null, alv1_ra, List.length_nil, List.length_cons, Nat.reduceAdd, Nat.reduceLeDiff, Nat.zero_le, Option.toList_some, Option.toList_none, List.cons_append, List.nil_append, or_true, true_or, or_false, false_or, Nat.reduceEqDiff, not_true_eq_false, not_false_eq_true, false_and, and_false, false_implies, true_implies, implies_true, ne_eq, and_self, ok1, hne, bE0]
    exact q0 fun z => h z.1
theorem rdN_s {most f v : Nat} : rdN t n most (f + 1) p v = match rdD t n p with
    | none => (p, v)
    | some d => if (v = 0 ∧ d = 0) ∨ most < v * 10 + d then (p, v) else rdN t n most f (p + 1) (v * 10 + d) := rfl
theorem numM_loop {most : Nat} (T : TX g0 A0 t n) (hm : most ≤ 999) : ∀ (f : Nat) {g : mG} {p v : Nat}, n ≤ p + f → p < 2 ^ 27 + n → p ≤ n → 1 ≤ v → v ≤ most → MX g0 g A0 c p j → (∀ g', MX g0 g' A0 c (rdN t n most f p v).1 j → Q (some (.int (nI (rdN t n most f p v).2))) g') → WP m_X7_number Q 34 [.ref 40, .int (nI most), .int (nI v)] [] g := by
  intro f
  induction f with
  | zero =>
    intro g p v hf hp hpn hv hvm M q
    have hn := T.2.1
    simp only [e_X7_number_34, e_X7_number_35, tand, true_and, and_true, nl1_int, nl1_ref, nl1_null, nl1_ra, cat1_int, cat1_ref, cat1_null, stbs_nil, stbs_cons, stb_int, stb_long, stb_ref, stb_null, stb_ra, alv_nil, alv_cons, alv1_int, alv1_ref, alv1_null, alv1_ra, List.length_nil, List.length_cons, Nat.reduceAdd, Nat.reduceLeDiff, Nat.zero_le, Option.toList_some, Option.toList_none, List.cons_append, List.nil_append, or_true, true_or, or_false, false_or, Nat.reduceEqDiff, not_true_eq_false, not_false_eq_true, false_and, and_false, false_implies, true_implies, implies_true, ne_eq, and_self, ok1, M.k40]
    refine c_X7_sign M T (by omega) (fun h => absurd h (by omega)) fun h => ?_
    simp only [e_X7_number_38, e_X7_number_40, e_X7_number_42, tand, true_and, and_true, nl1_int, nl1_ref, nl1_null, nl1_ra, cat1_int, cat1_ref, cat1_null, stbs_nil, stbs_cons, stb_int, stb_long, stb_ref, stb_null, stb_ra, alv_nil, alv_cons, alv1_int, alv1_ref, alv1_null, alv1_ra, List.length_nil, List.length_cons, Nat.reduceAdd, Nat.reduceLeDiff, Nat.zero_le, Option.toList_some, Option.toList_none, List.cons_append, List.nil_append, or_true, true_or, or_false, false_or, Nat.reduceEqDiff, not_true_eq_false, not_false_eq_true, false_and, and_false, false_implies, true_implies, implies_true, ne_eq, and_self, ok1, M.k40]
    refine c_X7_inF (by omega) (by omega) (fun ⟨m, em, m1, m2⟩ => ?_) ?_
    · have := congrArg Int32.toInt em
      rw [nI_toInt (by omega)] at this
      have e3 : (-1 : Int32).toInt = -1 := by decide
      omega
    · simp only [e_X7_number_45, e_X7_number_90, e_X7_number_91, tand, true_and, and_true, nl1_int, nl1_ref, nl1_null, nl1_ra, cat1_int, cat1_ref, cat1_null, stbs_nil, stbs_cons, stb_int, stb_long, stb_ref, stb_null, stb_ra, alv_nil, alv_cons, alv1_int, alv1_ref, alv1_null, alv1_ra, List.length_nil, List.length_cons, Nat.reduceAdd, Nat.reduceLeDiff, Nat.zero_le, Option.toList_some, Option.toList_none, List.cons_append, List.nil_append, or_true, true_or, or_false, false_or, Nat.reduceEqDiff, not_true_eq_false, not_false_eq_true, false_and, and_false, false_implies, true_implies, implies_true, ne_eq, and_self, ok1, n0z]
      exact q g M
  | succ f ih =>
    intro g p v hf hp hpn hv hvm M q
    have hn := T.2.1
    rw [rdN_s] at q
    simp only [e_X7_number_34, e_X7_number_35, tand, true_and, and_true, nl1_int, nl1_ref, nl1_null, nl1_ra, cat1_int, cat1_ref, cat1_null, stbs_nil, stbs_cons, stb_int, stb_long, stb_ref, stb_null, stb_ra, alv_nil, alv_cons, alv1_int, alv1_ref, alv1_null, alv1_ra, List.length_nil, List.length_cons, Nat.reduceAdd, Nat.reduceLeDiff, Nat.zero_le, Option.toList_some, Option.toList_none, List.cons_append, List.nil_append, or_true, true_or, or_false, false_or, Nat.reduceEqDiff, not_true_eq_false, not_false_eq_true, false_and, and_false, false_implies, true_implies, implies_true, ne_eq, and_self, ok1, M.k40]
    refine c_X7_sign M T (by omega) (fun h => ?_) fun h => ?_
    · have hb := (T.2.2 p h).2
      simp only [e_X7_number_38, e_X7_number_40, e_X7_number_42, tand, true_and, and_true, nl1_int, nl1_ref, nl1_null, nl1_ra, cat1_int, cat1_ref, cat1_null, stbs_nil, stbs_cons, stb_int, stb_long, stb_ref, stb_null, stb_ra, alv_nil, alv_cons, alv1_int, alv1_ref, alv1_null, alv1_ra, List.length_nil, List.length_cons, Nat.reduceAdd, Nat.reduceLeDiff, Nat.zero_le, Option.toList_some, Option.toList_none, List.cons_append, List.nil_append, or_true, true_or, or_false, false_or, Nat.reduceEqDiff, not_true_eq_false, not_false_eq_true, false_and, and_false, false_implies, true_implies, implies_true, ne_eq, and_self, ok1, M.k40]
      by_cases hd : 48 ≤ t p ∧ t p ≤ 57
      · have hrd : rdD t n p = some (t p - 48) := if_pos ⟨h, hd⟩
        rw [hrd] at q
        refine c_X7_inT hd (by omega) ?_
        simp only [e_X7_number_45, e_X7_number_48, e_X7_number_50, e_X7_number_51, e_X7_number_52, e_X7_number_53, tand, true_and, and_true, nl1_int, nl1_ref, nl1_null, nl1_ra, cat1_int, cat1_ref, cat1_null, stbs_nil, stbs_cons, stb_int, stb_long, stb_ref, stb_null, stb_ra, alv_nil, alv_cons, alv1_int, alv1_ref, alv1_null, alv1_ra, List.length_nil, List.length_cons, Nat.reduceAdd, Nat.reduceLeDiff, Nat.zero_le, Option.toList_some, Option.toList_none, List.cons_append, List.nil_append, or_true, true_or, or_false, false_or, Nat.reduceEqDiff, not_true_eq_false, not_false_eq_true, false_and, and_false, false_implies, true_implies, implies_true, ne_eq, and_self, ok1, n1z, M.k40, pk_mul]
        refine c_X7_sign M T (by omega) (fun _ => ?_) fun z => absurd h z
        have s1 : 48 ≤ 10 * v + t p := by omega
        simp (disch := omega) only [e_X7_number_56, e_X7_number_57, e_X7_number_59, e_X7_number_60, e_X7_number_61, tand, true_and, and_true, nl1_int, nl1_ref, nl1_null, nl1_ra, cat1_int, cat1_ref, cat1_null, stbs_nil, stbs_cons, stb_int, stb_long, stb_ref, stb_null, stb_ra, alv_nil, alv_cons, alv1_int, alv1_ref, alv1_null, alv1_ra, List.length_nil, List.length_cons, Nat.reduceAdd, Nat.reduceLeDiff, Nat.zero_le, Option.toList_some, Option.toList_none, List.cons_append, List.nil_append, or_true, true_or, or_false, false_or, Nat.reduceEqDiff, not_true_eq_false, not_false_eq_true, false_and, and_false, false_implies, true_implies, implies_true, ne_eq, and_self, ok1, nI_add, pk_sub s1, nI_ltE]
        have q' : ∀ g', MX g0 g' A0 c (if (v = 0 ∧ t p - 48 = 0) ∨ most < v * 10 + (t p - 48) then (p, v) else rdN t n most f (p + 1) (v * 10 + (t p - 48))).1 j → Q (some (.int (nI (if (v = 0 ∧ t p - 48 = 0) ∨ most < v * 10 + (t p - 48) then (p, v) else rdN t n most f (p + 1) (v * 10 + (t p - 48))).2))) g' := q
        refine ⟨fun h1 => ?_, fun h1 => ?_⟩
        · simp only [e_X7_number_90, e_X7_number_91, tand, true_and, and_true, nl1_int, nl1_ref, nl1_null, nl1_ra, cat1_int, cat1_ref, cat1_null, stbs_nil, stbs_cons, stb_int, stb_long, stb_ref, stb_null, stb_ra, alv_nil, alv_cons, alv1_int, alv1_ref, alv1_null, alv1_ra, List.length_nil, List.length_cons, Nat.reduceAdd, Nat.reduceLeDiff, Nat.zero_le, Option.toList_some, Option.toList_none, List.cons_append, List.nil_append, or_true, true_or, or_false, false_or, Nat.reduceEqDiff, not_true_eq_false, not_false_eq_true, false_and, and_false, false_implies, true_implies, implies_true, ne_eq, and_self, ok1]
          rw [if_pos (by omega)] at q'
          exact q' g M
        · rw [if_neg (by omega)] at q'
          simp only [e_X7_number_64, e_X7_number_66, e_X7_number_67, e_X7_number_68, e_X7_number_69, tand, true_and, and_true, nl1_int, nl1_ref, nl1_null, nl1_ra, cat1_int, cat1_ref, cat1_null, stbs_nil, stbs_cons, stb_int, stb_long, stb_ref, stb_null, stb_ra, alv_nil, alv_cons, alv1_int, alv1_ref, alv1_null, alv1_ra, List.length_nil, List.length_cons, Nat.reduceAdd, Nat.reduceLeDiff, Nat.zero_le, Option.toList_some, Option.toList_none, List.cons_append, List.nil_append, or_true, true_or, or_false, false_or, Nat.reduceEqDiff, not_true_eq_false, not_false_eq_true, false_and, and_false, false_implies, true_implies, implies_true, ne_eq, and_self, ok1, M.k40, pk_mul]
          refine c_X7_sign M T (by omega) (fun _ => ?_) fun z => absurd h z
          have ev : 10 * v + t p - 48 = v * 10 + (t p - 48) := by omega
          simp only [e_X7_number_72, e_X7_number_73, e_X7_number_75, e_X7_number_76, e_X7_number_77, e_X7_number_78, e_X7_number_79, e_X7_number_82, e_X7_number_83, e_X7_number_84, tand, true_and, and_true, nl1_int, nl1_ref, nl1_null, nl1_ra, cat1_int, cat1_ref, cat1_null, stbs_nil, stbs_cons, stb_int, stb_long, stb_ref, stb_null, stb_ra, alv_nil, alv_cons, alv1_int, alv1_ref, alv1_null, alv1_ra, List.length_nil, List.length_cons, Nat.reduceAdd, Nat.reduceLeDiff, Nat.zero_le, Option.toList_some, Option.toList_none, List.cons_append, List.nil_append, or_true, true_or, or_false, false_or, Nat.reduceEqDiff, not_true_eq_false, not_false_eq_true, false_and, and_false, false_implies, true_implies, implies_true, ne_eq, and_self, ok1, M.k40, M.2.2.1, nI_add, pk_sub s1, ev]
          simp only [e_X7_number_87, tand, true_and, and_true, nl1_int, nl1_ref, nl1_null, nl1_ra, cat1_int, cat1_ref, cat1_null, stbs_nil, stbs_cons, stb_int, stb_long, stb_ref, stb_null, stb_ra, alv_nil, alv_cons, alv1_int, alv1_ref, alv1_null, alv1_ra, List.length_nil, List.length_cons, Nat.reduceAdd, Nat.reduceLeDiff, Nat.zero_le, Option.toList_some, Option.toList_none, List.cons_append, List.nil_append, or_true, true_or, or_false, false_or, Nat.reduceEqDiff, not_true_eq_false, not_false_eq_true, false_and, and_false, false_implies, true_implies, implies_true, ne_eq, and_self, ok1]
          exact ih (by omega) (by omega) (by omega) (by omega) (by omega) (M.pl (p + 1)) q'
      · have hrd : rdD t n p = none := if_neg fun z => hd z.2
        rw [hrd] at q
        refine c_X7_inF (by omega) (by omega) (fun ⟨m, em, m1, m2⟩ => ?_) ?_
        · rw [nI_eqE (by omega) (by omega)] at em
          omega
        · simp only [e_X7_number_45, e_X7_number_90, e_X7_number_91, tand, true_and, and_true, nl1_int, nl1_ref, nl1_null, nl1_ra, cat1_int, cat1_ref, cat1_null, stbs_nil, stbs_cons, stb_int, stb_long, stb_ref, stb_null, stb_ra, alv_nil, alv_cons, alv1_int, alv1_ref, alv1_null, alv1_ra, List.length_nil, List.length_cons, Nat.reduceAdd, Nat.reduceLeDiff, Nat.zero_le, Option.toList_some, Option.toList_none, List.cons_append, List.nil_append, or_true, true_or, or_false, false_or, Nat.reduceEqDiff, not_true_eq_false, not_false_eq_true, false_and, and_false, false_implies, true_implies, implies_true, ne_eq, and_self, ok1, n0z]
          exact q g M
    · have hrd : rdD t n p = none := if_neg fun z => h z.1
      rw [hrd] at q
      simp only [e_X7_number_38, e_X7_number_40, e_X7_number_42, tand, true_and, and_true, nl1_int, nl1_ref, nl1_null, nl1_ra, cat1_int, cat1_ref, cat1_null, stbs_nil, stbs_cons, stb_int, stb_long, stb_ref, stb_null, stb_ra, alv_nil, alv_cons, alv1_int, alv1_ref, alv1_null, alv1_ra, List.length_nil, List.length_cons, Nat.reduceAdd, Nat.reduceLeDiff, Nat.zero_le, Option.toList_some, Option.toList_none, List.cons_append, List.nil_append, or_true, true_or, or_false, false_or, Nat.reduceEqDiff, not_true_eq_false, not_false_eq_true, false_and, and_false, false_implies, true_implies, implies_true, ne_eq, and_self, ok1, M.k40]
      refine c_X7_inF (by omega) (by omega) (fun ⟨m, em, m1, m2⟩ => ?_) ?_
      · have := congrArg Int32.toInt em
        rw [nI_toInt (by omega)] at this
        have e3 : (-1 : Int32).toInt = -1 := by decide
        omega
      · simp only [e_X7_number_45, e_X7_number_90, e_X7_number_91, tand, true_and, and_true, nl1_int, nl1_ref, nl1_null, nl1_ra, cat1_int, cat1_ref, cat1_null, stbs_nil, stbs_cons, stb_int, stb_long, stb_ref, stb_null, stb_ra, alv_nil, alv_cons, alv1_int, alv1_ref, alv1_null, alv1_ra, List.length_nil, List.length_cons, Nat.reduceAdd, Nat.reduceLeDiff, Nat.zero_le, Option.toList_some, Option.toList_none, List.cons_append, List.nil_append, or_true, true_or, or_false, false_or, Nat.reduceEqDiff, not_true_eq_false, not_false_eq_true, false_and, and_false, false_implies, true_implies, implies_true, ne_eq, and_self, ok1, n0z]
        exact q g M
theorem c_X7_number {most : Nat} (M : MX g0 g A0 c p j) (T : TX g0 A0 t n) (hm : most ≤ 999) (hm9 : 9 ≤ most) (hp : p ≤ n) (q1 : (rdN t n most 60 p 0).2 ≠ 0 → ∀ g', MX g0 g' A0 c (rdN t n most 60 p 0).1 j → Q (some (.int (nI (rdN t n most 60 p 0).2))) g') (q0 : (rdN t n most 60 p 0).2 = 0 → (rdN t n most 60 p 0).1 = p → Q (some (.int (-1))) g) : w_X7_number [.ref 40, .int (nI most)] g Q := by
  refine wm_at rfl ⟨trivial, trivial, trivial⟩ (show WP m_X7_number Q 0 [.ref 40, .int (nI most), .retAddr 0] [] g from ?_)
  have hn := T.2.1
  have hs : rdN t n most 60 p 0 = match rdD t n p with
    | none => (p, 0)
    | some d => if (0 = 0 ∧ d = 0) ∨ most < 0 * 10 + d then (p, 0) else rdN t n most 59 (p + 1) (0 * 10 + d) := rfl
  rw [hs] at q1 q0
  simp only [e_X7_number_0, e_X7_number_1, tand, true_and, and_true, nl1_int, nl1_ref, nl1_null, nl1_ra, cat1_int, cat1_ref, cat1_null, stbs_nil, stbs_cons, stb_int, stb_long, stb_ref, stb_null, stb_ra, alv_nil, alv_cons, alv1_int, alv1_ref, alv1_null, alv1_ra, List.length_nil, List.length_cons, Nat.reduceAdd, Nat.reduceLeDiff, Nat.zero_le, Option.toList_some, Option.toList_none, List.cons_append, List.nil_append, or_true, true_or, or_false, false_or, Nat.reduceEqDiff, not_true_eq_false, not_false_eq_true, false_and, and_false, false_implies, true_implies, implies_true, ne_eq, and_self, ok1, M.k40]
  refine c_X7_sign M T (by omega) (fun h => ?_) fun h => ?_
  · have hb := (T.2.2 p h).2
    simp only [e_X7_number_4, e_X7_number_6, e_X7_number_8, tand, true_and, and_true, nl1_int, nl1_ref, nl1_null, nl1_ra, cat1_int, cat1_ref, cat1_null, stbs_nil, stbs_cons, stb_int, stb_long, stb_ref, stb_null, stb_ra, alv_nil, alv_cons, alv1_int, alv1_ref, alv1_null, alv1_ra, List.length_nil, List.length_cons, Nat.reduceAdd, Nat.reduceLeDiff, Nat.zero_le, Option.toList_some, Option.toList_none, List.cons_append, List.nil_append, or_true, true_or, or_false, false_or, Nat.reduceEqDiff, not_true_eq_false, not_false_eq_true, false_and, and_false, false_implies, true_implies, implies_true, ne_eq, and_self, ok1, M.k40]
    by_cases hd : 49 ≤ t p ∧ t p ≤ 57
    · have hrd : rdD t n p = some (t p - 48) := if_pos ⟨h, by omega⟩
      rw [hrd] at q1 q0
      have q1' : (if (0 = 0 ∧ t p - 48 = 0) ∨ most < 0 * 10 + (t p - 48) then (p, 0) else rdN t n most 59 (p + 1) (0 * 10 + (t p - 48))).2 ≠ 0 → ∀ g', MX g0 g' A0 c (if (0 = 0 ∧ t p - 48 = 0) ∨ most < 0 * 10 + (t p - 48) then (p, 0) else rdN t n most 59 (p + 1) (0 * 10 + (t p - 48))).1 j → Q (some (.int (nI (if (0 = 0 ∧ t p - 48 = 0) ∨ most < 0 * 10 + (t p - 48) then (p, 0) else rdN t n most 59 (p + 1) (0 * 10 + (t p - 48))).2))) g' := q1
      rw [if_neg (by omega)] at q1'
      refine c_X7_inT hd (by omega) ?_
      simp only [e_X7_number_11, e_X7_number_14, e_X7_number_15, e_X7_number_16, e_X7_number_17, tand, true_and, and_true, nl1_int, nl1_ref, nl1_null, nl1_ra, cat1_int, cat1_ref, cat1_null, stbs_nil, stbs_cons, stb_int, stb_long, stb_ref, stb_null, stb_ra, alv_nil, alv_cons, alv1_int, alv1_ref, alv1_null, alv1_ra, List.length_nil, List.length_cons, Nat.reduceAdd, Nat.reduceLeDiff, Nat.zero_le, Option.toList_some, Option.toList_none, List.cons_append, List.nil_append, or_true, true_or, or_false, false_or, Nat.reduceEqDiff, not_true_eq_false, not_false_eq_true, false_and, and_false, false_implies, true_implies, implies_true, ne_eq, and_self, ok1, n1z, M.k40]
      refine c_X7_sign M T (by omega) (fun _ => ?_) fun z => absurd h z
      have s1 : 48 ≤ t p := by omega
      simp only [e_X7_number_20, e_X7_number_22, e_X7_number_23, e_X7_number_24, e_X7_number_25, e_X7_number_26, e_X7_number_29, e_X7_number_30, e_X7_number_31, tand, true_and, and_true, nl1_int, nl1_ref, nl1_null, nl1_ra, cat1_int, cat1_ref, cat1_null, stbs_nil, stbs_cons, stb_int, stb_long, stb_ref, stb_null, stb_ra, alv_nil, alv_cons, alv1_int, alv1_ref, alv1_null, alv1_ra, List.length_nil, List.length_cons, Nat.reduceAdd, Nat.reduceLeDiff, Nat.zero_le, Option.toList_some, Option.toList_none, List.cons_append, List.nil_append, or_true, true_or, or_false, false_or, Nat.reduceEqDiff, not_true_eq_false, not_false_eq_true, false_and, and_false, false_implies, true_implies, implies_true, ne_eq, and_self, ok1, M.k40, M.2.2.1, nI_add, pk_sub s1]
      have e0 : 0 * 10 + (t p - 48) = t p - 48 := by omega
      rw [e0] at q1'
      refine numM_loop T hm 59 (by omega) (by omega) (by omega) (by omega) (by omega) (M.pl (p + 1)) (q1' ?_)
      have mono : ∀ (f p v : Nat), 1 ≤ v → 1 ≤ (rdN t n most f p v).2 := by
        intro f
        induction f with
        | zero => exact fun p v hv => hv
        | succ f ih =>
          intro p v hv
          unfold rdN
          cases rdD t n p with
          | none => exact hv
          | some d =>
            show 1 ≤ (if (v = 0 ∧ d = 0) ∨ most < v * 10 + d then (p, v) else rdN t n most f (p + 1) (v * 10 + d)).2
            split
            · exact hv
            · exact ih (p + 1) (v * 10 + d) (by omega)
      have := mono 59 (p + 1) (t p - 48) (by omega)
      omega
    · refine c_X7_inF (by omega) (by omega) (fun ⟨m, em, m1, m2⟩ => ?_) ?_
      · rw [nI_eqE (by omega) (by omega)] at em
        omega
      · simp only [e_X7_number_11, e_X7_number_14, e_X7_number_15, tand, true_and, and_true, nl1_int, nl1_ref, nl1_null, nl1_ra, cat1_int, cat1_ref, cat1_null, stbs_nil, stbs_cons, stb_int, stb_long, stb_ref, stb_null, stb_ra, alv_nil, alv_cons, alv1_int, alv1_ref, alv1_null, alv1_ra, List.length_nil, List.length_cons, Nat.reduceAdd, Nat.reduceLeDiff, Nat.zero_le, Option.toList_some, Option.toList_none, List.cons_append, List.nil_append, or_true, true_or, or_false, false_or, Nat.reduceEqDiff, not_true_eq_false, not_false_eq_true, false_and, and_false, false_implies, true_implies, implies_true, ne_eq, and_self, ok1, n0z]
        by_cases h0 : t p = 48
        · have hrd : rdD t n p = some (t p - 48) := if_pos ⟨h, by omega⟩
          rw [hrd] at q0
          have q0' : (if (0 = 0 ∧ t p - 48 = 0) ∨ most < 0 * 10 + (t p - 48) then (p, 0) else rdN t n most 59 (p + 1) (0 * 10 + (t p - 48))).2 = 0 → (if (0 = 0 ∧ t p - 48 = 0) ∨ most < 0 * 10 + (t p - 48) then (p, 0) else rdN t n most 59 (p + 1) (0 * 10 + (t p - 48))).1 = p → Q (some (.int (-1))) g := q0
          rw [if_pos (by omega)] at q0'
          exact q0' rfl rfl
        · have hrd : rdD t n p = none := if_neg fun z => by omega
          rw [hrd] at q0
          exact q0 rfl rfl
  · have hrd : rdD t n p = none := if_neg fun z => h z.1
    rw [hrd] at q0
    simp only [e_X7_number_4, e_X7_number_6, e_X7_number_8, tand, true_and, and_true, nl1_int, nl1_ref, nl1_null, nl1_ra, cat1_int, cat1_ref, cat1_null, stbs_nil, stbs_cons, stb_int, stb_long, stb_ref, stb_null, stb_ra, alv_nil, alv_cons, alv1_int, alv1_ref, alv1_null, alv1_ra, List.length_nil, List.length_cons, Nat.reduceAdd, Nat.reduceLeDiff, Nat.zero_le, Option.toList_some, Option.toList_none, List.cons_append, List.nil_append, or_true, true_or, or_false, false_or, Nat.reduceEqDiff, not_true_eq_false, not_false_eq_true, false_and, and_false, false_implies, true_implies, implies_true, ne_eq, and_self, ok1, M.k40]
    refine c_X7_inF (by omega) (by omega) (fun ⟨m, em, m1, m2⟩ => ?_) ?_
    · have := congrArg Int32.toInt em
      rw [nI_toInt (by omega)] at this
      have e3 : (-1 : Int32).toInt = -1 := by decide
      omega
    · simp only [e_X7_number_11, e_X7_number_14, e_X7_number_15, tand, true_and, and_true, nl1_int, nl1_ref, nl1_null, nl1_ra, cat1_int, cat1_ref, cat1_null, stbs_nil, stbs_cons, stb_int, stb_long, stb_ref, stb_null, stb_ra, alv_nil, alv_cons, alv1_int, alv1_ref, alv1_null, alv1_ra, List.length_nil, List.length_cons, Nat.reduceAdd, Nat.reduceLeDiff, Nat.zero_le, Option.toList_some, Option.toList_none, List.cons_append, List.nil_append, or_true, true_or, or_false, false_or, Nat.reduceEqDiff, not_true_eq_false, not_false_eq_true, false_and, and_false, false_implies, true_implies, implies_true, ne_eq, and_self, ok1, n0z]
      exact q0 rfl rfl
end Mtx
