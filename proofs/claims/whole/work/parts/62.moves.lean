/-! ===== the model: permits move ===== -/
/-- a row of years up to Y, of the numbers a from f on -/
def yrw (a : Nat → Nat) (f Y : Nat) : Nat → Nat := fun y => if y ≤ Y then a (f + y) else 0
/-- moved, the years below y -/
def mvN (a : Nat → Nat) (f t m Y y : Nat) : Nat → Nat := fun i => if f ≤ i ∧ i < f + y then a i - tk (yrw a f Y) m (i - f) else if t ≤ i ∧ i < t + y then a i + tk (yrw a f Y) m (i - t) else a i
/-- taken out, the years below y -/
def mvO (a : Nat → Nat) (f m Y y : Nat) : Nat → Nat := fun i => if f ≤ i ∧ i < f + y then a i - tk (yrw a f Y) m (i - f) else a i
section Mvs
variable {Q : mQ} {A0 : Nat → Nat → Nat} {a : Nat → Nat} {g0 : mG}
theorem mv_t0 {f m Y y : Nat} (hex : y = Y + 1 ∨ m - sm (yrw a f Y) y = 0) : ∀ z, y ≤ z → tk (yrw a f Y) m z = 0 := fun z hz => by
  rcases hex with e | e
  · unfold tk yrw
    rw [if_neg (by omega)]
    exact Nat.min_zero _
  · exact tk_done (by omega) hz
theorem moves_loop {f t m Y : Nat} (hm : m < 2 ^ 28) (hY : a 0 = Y) (hY2 : Y < 1000) (hft : f + 1000 ≤ t ∨ t + 1000 ≤ f) (hf : 144 ≤ f ∧ f + 1000 ≤ 23144) (ht : 144 ≤ t ∧ t + 1000 ≤ 23144) (hb : ∀ y, y ≤ Y → a (f + y) < 2 ^ 28)
    (q : ∀ g' a', MT g0 g' A0 a' → (∀ i, a' i = mvN a f t m Y 1000 i) → Q none g') : ∀ (d y : Nat) {g : mG} {l6 : Value} {a' : Nat → Nat}, y + d = Y + 1 → MT g0 g A0 a' → (∀ i, a' i = mvN a f t m Y y i) → WP m_X7_moves Q 6 [.ref 40, .int (nI f), .int (nI t), .int (nI m), .int (nI (m - sm (yrw a f Y) y)), .int (nI y), l6] [] g := by
  have fin : ∀ y, y ≤ Y + 1 → (y = Y + 1 ∨ m - sm (yrw a f Y) y = 0) → ∀ i, mvN a f t m Y y i = mvN a f t m Y 1000 i := fun y hy hex i => by
    have t0 := mv_t0 (a := a) (f := f) (m := m) (Y := Y) hex
    unfold mvN
    by_cases h1 : f ≤ i ∧ i < f + 1000
    · rw [if_pos h1]
      by_cases h2 : i < f + y
      · rw [if_pos ⟨h1.1, h2⟩]
      · rw [if_neg (by omega), if_neg (by omega), t0 (i - f) (by omega), Nat.sub_zero]
    · rw [if_neg h1, if_neg (by omega)]
      by_cases h3 : t ≤ i ∧ i < t + 1000
      · rw [if_pos h3]
        by_cases h4 : i < t + y
        · rw [if_pos ⟨h3.1, h4⟩]
        · rw [if_neg (by omega), t0 (i - t) (by omega), Nat.add_zero]
      · rw [if_neg h3, if_neg (by omega)]
  intro d
  induction d with
  | zero =>
    intro y g l6 a' hy M hM
    have e : y = Y + 1 := by omega
    have e0 : a' 0 = Y := by rw [hM 0]; unfold mvN; rw [if_neg (by omega), if_neg (by omega)]; exact hY
    have hlt : Y < y := by omega
    simp (disch := omega) only [e_X7_moves_6, e_X7_moves_8, e_X7_moves_9, e_X7_moves_12, e_X7_moves_13, e_X7_moves_14, e_X7_moves_97, tand, true_and, and_true, nl1_int, nl1_ref, nl1_null, nl1_ra, cat1_int, cat1_ref, cat1_null, stbs_nil, stbs_cons, stb_int, stb_long, stb_ref, stb_null, stb_ra, alv_nil, alv_cons, alv1_int, alv1_ref, alv1_null, alv1_ra, List.length_nil, List.length_cons, Nat.reduceAdd, Nat.reduceLeDiff, Nat.zero_le, Option.toList_some, Option.toList_none, List.cons_append, List.nil_append, or_true, true_or, or_false, false_or, Nat.reduceEqDiff, not_true_eq_false, not_false_eq_true, false_and, and_false, false_implies, true_implies, implies_true, ne_eq, and_self, ok1, M.k40, M.r40, z41, M.k41, M.n41, isIA, vpT, nI_clamp, nI_add, M.rd, gK_pI, gN_pI, gR_pI, gI_same, gI_diff, u1_eq, u1_ne, e0, nI_ltE, hlt]
    exact q g a' M (fun i => (hM i).trans (fin y (by omega) (Or.inl e) i))
  | succ d ih =>
    intro y g l6 a' hy M hM
    have e0 : a' 0 = Y := by rw [hM 0]; unfold mvN; rw [if_neg (by omega), if_neg (by omega)]; exact hY
    have hlt : ¬ Y < y := by omega
    simp (disch := omega) only [e_X7_moves_6, e_X7_moves_8, e_X7_moves_9, e_X7_moves_12, e_X7_moves_13, e_X7_moves_14, e_X7_moves_17, e_X7_moves_19, tand, true_and, and_true, nl1_int, nl1_ref, nl1_null, nl1_ra, cat1_int, cat1_ref, cat1_null, stbs_nil, stbs_cons, stb_int, stb_long, stb_ref, stb_null, stb_ra, alv_nil, alv_cons, alv1_int, alv1_ref, alv1_null, alv1_ra, List.length_nil, List.length_cons, Nat.reduceAdd, Nat.reduceLeDiff, Nat.zero_le, Option.toList_some, Option.toList_none, List.cons_append, List.nil_append, or_true, true_or, or_false, false_or, Nat.reduceEqDiff, not_true_eq_false, not_false_eq_true, false_and, and_false, false_implies, true_implies, implies_true, ne_eq, and_self, ok1, M.k40, M.r40, z41, M.k41, M.n41, isIA, vpT, nI_clamp, nI_add, M.rd, gK_pI, gN_pI, gR_pI, gI_same, gI_diff, u1_eq, u1_ne, e0, nI_ltE, hlt, nI_le0]
    refine ⟨fun h0 => ?_, fun h0 => ?_⟩
    · simp only [e_X7_moves_97, tand, true_and, and_true, nl1_int, nl1_ref, nl1_null, nl1_ra, cat1_int, cat1_ref, cat1_null, stbs_nil, stbs_cons, stb_int, stb_long, stb_ref, stb_null, stb_ra, alv_nil, alv_cons, alv1_int, alv1_ref, alv1_null, alv1_ra, List.length_nil, List.length_cons, Nat.reduceAdd, Nat.reduceLeDiff, Nat.zero_le, Option.toList_some, Option.toList_none, List.cons_append, List.nil_append, or_true, true_or, or_false, false_or, Nat.reduceEqDiff, not_true_eq_false, not_false_eq_true, false_and, and_false, false_implies, true_implies, implies_true, ne_eq, and_self, ok1]
      exact q g a' M (fun i => (hM i).trans (fin y (by omega) (Or.inr h0) i))
    · have yY : y ≤ Y := by omega
      have ry : yrw a f Y y = a (f + y) := if_pos yY
      have ef : a' (f + y) = yrw a f Y y := by rw [hM, ry]; unfold mvN; rw [if_neg (by omega), if_neg (by omega)]
      have et : a' (t + y) = a (t + y) := by rw [hM]; unfold mvN; rw [if_neg (by omega), if_neg (by omega)]
      have hbr := hb y yY
      rw [← ry] at hbr
      generalize hr : yrw a f Y = r at *
      generalize hL : m - sm r y = L at *
      have hLm : L ≤ m := by omega
      have htk : tk r m y = min L (r y) := by unfold tk; rw [hL]
      have hk1 : min L (r y) ≤ r y := Nat.min_le_right _ _
      have hk2 : min L (r y) ≤ L := Nat.min_le_left _ _
      have hnx : L - min L (r y) = m - sm r (y + 1) := by
        show _ = m - (sm r y + r y)
        omega
      have ne : t + y ≠ f + y := by omega
      have tl0 : (nI t < 0) = False := nI_lt0 (by omega)
      have go : WP m_X7_moves Q 50 [.ref 40, .int (nI f), .int (nI t), .int (nI m), .int (nI L), .int (nI y), l6] [.int (nI (min L (r y)))] g := by
        simp (disch := omega) only [e_X7_moves_50, e_X7_moves_52, e_X7_moves_53, e_X7_moves_56, e_X7_moves_57, e_X7_moves_59, e_X7_moves_60, e_X7_moves_61, e_X7_moves_62, e_X7_moves_64, e_X7_moves_65, e_X7_moves_66, e_X7_moves_68, e_X7_moves_70, e_X7_moves_71, e_X7_moves_73, e_X7_moves_74, e_X7_moves_77, e_X7_moves_78, e_X7_moves_81, e_X7_moves_82, e_X7_moves_84, e_X7_moves_85, e_X7_moves_86, e_X7_moves_87, e_X7_moves_89, e_X7_moves_90, e_X7_moves_91, tand, true_and, and_true, nl1_int, nl1_ref, nl1_null, nl1_ra, cat1_int, cat1_ref, cat1_null, stbs_nil, stbs_cons, stb_int, stb_long, stb_ref, stb_null, stb_ra, alv_nil, alv_cons, alv1_int, alv1_ref, alv1_null, alv1_ra, List.length_nil, List.length_cons, Nat.reduceAdd, Nat.reduceLeDiff, Nat.zero_le, Option.toList_some, Option.toList_none, List.cons_append, List.nil_append, or_true, true_or, or_false, false_or, Nat.reduceEqDiff, not_true_eq_false, not_false_eq_true, false_and, and_false, false_implies, true_implies, implies_true, ne_eq, and_self, ok1, M.k40, M.r40, z41, M.k41, M.n41, isIA, vpT, nI_clamp, nI_add, M.rd, gK_pI, gN_pI, gR_pI, gI_same, gI_diff, u1_eq, u1_ne, ef, et, pk_sub hk1, pk_sub hk2, tl0]
        simp only [e_X7_moves_94, tand, true_and, and_true, nl1_int, nl1_ref, nl1_null, nl1_ra, cat1_int, cat1_ref, cat1_null, stbs_nil, stbs_cons, stb_int, stb_long, stb_ref, stb_null, stb_ra, alv_nil, alv_cons, alv1_int, alv1_ref, alv1_null, alv1_ra, List.length_nil, List.length_cons, Nat.reduceAdd, Nat.reduceLeDiff, Nat.zero_le, Option.toList_some, Option.toList_none, List.cons_append, List.nil_append, or_true, true_or, or_false, false_or, Nat.reduceEqDiff, not_true_eq_false, not_false_eq_true, false_and, and_false, false_implies, true_implies, implies_true, ne_eq, and_self, ok1]
        rw [hnx]
        refine ih (y + 1) (a' := u1 (u1 a' (f + y) (r y - min L (r y))) (t + y) (a (t + y) + min L (r y))) (by omega) ((M.set _ _).set _ _) (fun i => ?_)
        unfold u1
        by_cases h1 : i = t + y
        · rw [if_pos h1]
          unfold mvN
          rw [if_neg (by omega), if_pos (by omega), hr, show i - t = y by omega, htk, h1]
        · rw [if_neg h1]
          by_cases h2 : i = f + y
          · rw [if_pos h2]
            unfold mvN
            rw [if_pos (by omega), hr, show i - f = y by omega, htk, h2, ← ry]
          · rw [if_neg h2, hM]
            unfold mvN
            by_cases h3 : f ≤ i ∧ i < f + y
            · rw [if_pos h3, if_pos (by omega)]
            · rw [if_neg h3, if_neg (show ¬ (f ≤ i ∧ i < f + (y + 1)) by omega)]
              by_cases h4 : t ≤ i ∧ i < t + y
              · rw [if_pos h4, if_pos (by omega)]
              · rw [if_neg h4, if_neg (by omega)]
      simp (disch := omega) only [e_X7_moves_22, e_X7_moves_23, e_X7_moves_26, e_X7_moves_27, e_X7_moves_29, e_X7_moves_30, e_X7_moves_31, e_X7_moves_33, tand, true_and, and_true, nl1_int, nl1_ref, nl1_null, nl1_ra, cat1_int, cat1_ref, cat1_null, stbs_nil, stbs_cons, stb_int, stb_long, stb_ref, stb_null, stb_ra, alv_nil, alv_cons, alv1_int, alv1_ref, alv1_null, alv1_ra, List.length_nil, List.length_cons, Nat.reduceAdd, Nat.reduceLeDiff, Nat.zero_le, Option.toList_some, Option.toList_none, List.cons_append, List.nil_append, or_true, true_or, or_false, false_or, Nat.reduceEqDiff, not_true_eq_false, not_false_eq_true, false_and, and_false, false_implies, true_implies, implies_true, ne_eq, and_self, ok1, M.k40, M.r40, z41, M.k41, M.n41, isIA, vpT, nI_clamp, nI_add, M.rd, gK_pI, gN_pI, gR_pI, gI_same, gI_diff, u1_eq, u1_ne, ef, nI_leE]
      refine ⟨fun h1 => ?_, fun h1 => ?_⟩
      · simp only [e_X7_moves_48, tand, true_and, and_true, nl1_int, nl1_ref, nl1_null, nl1_ra, cat1_int, cat1_ref, cat1_null, stbs_nil, stbs_cons, stb_int, stb_long, stb_ref, stb_null, stb_ra, alv_nil, alv_cons, alv1_int, alv1_ref, alv1_null, alv1_ra, List.length_nil, List.length_cons, Nat.reduceAdd, Nat.reduceLeDiff, Nat.zero_le, Option.toList_some, Option.toList_none, List.cons_append, List.nil_append, or_true, true_or, or_false, false_or, Nat.reduceEqDiff, not_true_eq_false, not_false_eq_true, false_and, and_false, false_implies, true_implies, implies_true, ne_eq, and_self, ok1]
        rw [Nat.min_eq_left h1] at go
        exact go
      · simp (disch := omega) only [e_X7_moves_36, e_X7_moves_37, e_X7_moves_40, e_X7_moves_41, e_X7_moves_43, e_X7_moves_44, e_X7_moves_45, tand, true_and, and_true, nl1_int, nl1_ref, nl1_null, nl1_ra, cat1_int, cat1_ref, cat1_null, stbs_nil, stbs_cons, stb_int, stb_long, stb_ref, stb_null, stb_ra, alv_nil, alv_cons, alv1_int, alv1_ref, alv1_null, alv1_ra, List.length_nil, List.length_cons, Nat.reduceAdd, Nat.reduceLeDiff, Nat.zero_le, Option.toList_some, Option.toList_none, List.cons_append, List.nil_append, or_true, true_or, or_false, false_or, Nat.reduceEqDiff, not_true_eq_false, not_false_eq_true, false_and, and_false, false_implies, true_implies, implies_true, ne_eq, and_self, ok1, M.k40, M.r40, z41, M.k41, M.n41, isIA, vpT, nI_clamp, nI_add, M.rd, gK_pI, gN_pI, gR_pI, gI_same, gI_diff, u1_eq, u1_ne, ef]
        rw [Nat.min_eq_right (by omega)] at go
        exact go
theorem c_X7_moves {g : mG} {f t m Y : Nat} (M : MT g0 g A0 a) (hm : m < 2 ^ 28) (hY : a 0 = Y) (hY2 : Y < 1000) (hft : f + 1000 ≤ t ∨ t + 1000 ≤ f) (hf : 144 ≤ f ∧ f + 1000 ≤ 23144) (ht : 144 ≤ t ∧ t + 1000 ≤ 23144) (hb : ∀ y, y ≤ Y → a (f + y) < 2 ^ 28)
    (q : ∀ g' a', MT g0 g' A0 a' → (∀ i, a' i = mvN a f t m Y 1000 i) → Q none g') : w_X7_moves [.ref 40, .int (nI f), .int (nI t), .int (nI m)] g Q := by
  refine wm_at rfl ⟨trivial, trivial, trivial, trivial, trivial⟩ (show WP m_X7_moves Q 0 [.ref 40, .int (nI f), .int (nI t), .int (nI m), .retAddr 0, .retAddr 0, .retAddr 0] [] g from ?_)
  simp only [e_X7_moves_0, e_X7_moves_1, e_X7_moves_3, e_X7_moves_4, tand, true_and, and_true, nl1_int, nl1_ref, nl1_null, nl1_ra, cat1_int, cat1_ref, cat1_null, stbs_nil, stbs_cons, stb_int, stb_long, stb_ref, stb_null, stb_ra, alv_nil, alv_cons, alv1_int, alv1_ref, alv1_null, alv1_ra, List.length_nil, List.length_cons, Nat.reduceAdd, Nat.reduceLeDiff, Nat.zero_le, Option.toList_some, Option.toList_none, List.cons_append, List.nil_append, or_true, true_or, or_false, false_or, Nat.reduceEqDiff, not_true_eq_false, not_false_eq_true, false_and, and_false, false_implies, true_implies, implies_true, ne_eq, and_self, ok1]
  refine moves_loop hm hY hY2 hft hf ht hb q (Y + 1) 0 (Nat.zero_add _) M (fun i => ?_)
  unfold mvN
  rw [if_neg (by omega), if_neg (by omega)]
theorem gone_loop {f m Y : Nat} (hm : m < 2 ^ 28) (hY : a 0 = Y) (hY2 : Y < 1000) (hf : 144 ≤ f ∧ f + 1000 ≤ 23144) (hb : ∀ y, y ≤ Y → a (f + y) < 2 ^ 28)
    (q : ∀ g' a', MT g0 g' A0 a' → (∀ i, a' i = mvO a f m Y 1000 i) → Q none g') : ∀ (d y : Nat) {g : mG} {l6 : Value} {a' : Nat → Nat}, y + d = Y + 1 → MT g0 g A0 a' → (∀ i, a' i = mvO a f m Y y i) → WP m_X7_moves Q 6 [.ref 40, .int (nI f), .int (-1), .int (nI m), .int (nI (m - sm (yrw a f Y) y)), .int (nI y), l6] [] g := by
  have fin : ∀ y, y ≤ Y + 1 → (y = Y + 1 ∨ m - sm (yrw a f Y) y = 0) → ∀ i, mvO a f m Y y i = mvO a f m Y 1000 i := fun y hy hex i => by
    have t0 := mv_t0 (a := a) (f := f) (m := m) (Y := Y) hex
    unfold mvO
    by_cases h1 : f ≤ i ∧ i < f + 1000
    · rw [if_pos h1]
      by_cases h2 : i < f + y
      · rw [if_pos ⟨h1.1, h2⟩]
      · rw [if_neg (by omega), t0 (i - f) (by omega), Nat.sub_zero]
    · rw [if_neg h1, if_neg (by omega)]
  intro d
  induction d with
  | zero =>
    intro y g l6 a' hy M hM
    have e : y = Y + 1 := by omega
    have e0 : a' 0 = Y := by rw [hM 0]; unfold mvO; rw [if_neg (by omega)]; exact hY
    have hlt : Y < y := by omega
    simp (disch := omega) only [e_X7_moves_6, e_X7_moves_8, e_X7_moves_9, e_X7_moves_12, e_X7_moves_13, e_X7_moves_14, e_X7_moves_97, tand, true_and, and_true, nl1_int, nl1_ref, nl1_null, nl1_ra, cat1_int, cat1_ref, cat1_null, stbs_nil, stbs_cons, stb_int, stb_long, stb_ref, stb_null, stb_ra, alv_nil, alv_cons, alv1_int, alv1_ref, alv1_null, alv1_ra, List.length_nil, List.length_cons, Nat.reduceAdd, Nat.reduceLeDiff, Nat.zero_le, Option.toList_some, Option.toList_none, List.cons_append, List.nil_append, or_true, true_or, or_false, false_or, Nat.reduceEqDiff, not_true_eq_false, not_false_eq_true, false_and, and_false, false_implies, true_implies, implies_true, ne_eq, and_self, ok1, M.k40, M.r40, z41, M.k41, M.n41, isIA, vpT, nI_clamp, nI_add, M.rd, gK_pI, gN_pI, gR_pI, gI_same, gI_diff, u1_eq, u1_ne, e0, nI_ltE, hlt]
    exact q g a' M (fun i => (hM i).trans (fin y (by omega) (Or.inl e) i))
  | succ d ih =>
    intro y g l6 a' hy M hM
    have e0 : a' 0 = Y := by rw [hM 0]; unfold mvO; rw [if_neg (by omega)]; exact hY
    have hlt : ¬ Y < y := by omega
    simp (disch := omega) only [e_X7_moves_6, e_X7_moves_8, e_X7_moves_9, e_X7_moves_12, e_X7_moves_13, e_X7_moves_14, e_X7_moves_17, e_X7_moves_19, tand, true_and, and_true, nl1_int, nl1_ref, nl1_null, nl1_ra, cat1_int, cat1_ref, cat1_null, stbs_nil, stbs_cons, stb_int, stb_long, stb_ref, stb_null, stb_ra, alv_nil, alv_cons, alv1_int, alv1_ref, alv1_null, alv1_ra, List.length_nil, List.length_cons, Nat.reduceAdd, Nat.reduceLeDiff, Nat.zero_le, Option.toList_some, Option.toList_none, List.cons_append, List.nil_append, or_true, true_or, or_false, false_or, Nat.reduceEqDiff, not_true_eq_false, not_false_eq_true, false_and, and_false, false_implies, true_implies, implies_true, ne_eq, and_self, ok1, M.k40, M.r40, z41, M.k41, M.n41, isIA, vpT, nI_clamp, nI_add, M.rd, gK_pI, gN_pI, gR_pI, gI_same, gI_diff, u1_eq, u1_ne, e0, nI_ltE, hlt, nI_le0]
    refine ⟨fun h0 => ?_, fun h0 => ?_⟩
    · simp only [e_X7_moves_97, tand, true_and, and_true, nl1_int, nl1_ref, nl1_null, nl1_ra, cat1_int, cat1_ref, cat1_null, stbs_nil, stbs_cons, stb_int, stb_long, stb_ref, stb_null, stb_ra, alv_nil, alv_cons, alv1_int, alv1_ref, alv1_null, alv1_ra, List.length_nil, List.length_cons, Nat.reduceAdd, Nat.reduceLeDiff, Nat.zero_le, Option.toList_some, Option.toList_none, List.cons_append, List.nil_append, or_true, true_or, or_false, false_or, Nat.reduceEqDiff, not_true_eq_false, not_false_eq_true, false_and, and_false, false_implies, true_implies, implies_true, ne_eq, and_self, ok1]
      exact q g a' M (fun i => (hM i).trans (fin y (by omega) (Or.inr h0) i))
    · have yY : y ≤ Y := by omega
      have ry : yrw a f Y y = a (f + y) := if_pos yY
      have ef : a' (f + y) = yrw a f Y y := by rw [hM, ry]; unfold mvO; rw [if_neg (by omega)]
      have hbr := hb y yY
      rw [← ry] at hbr
      generalize hr : yrw a f Y = r at *
      generalize hL : m - sm r y = L at *
      have hLm : L ≤ m := by omega
      have htk : tk r m y = min L (r y) := by unfold tk; rw [hL]
      have hk1 : min L (r y) ≤ r y := Nat.min_le_right _ _
      have hk2 : min L (r y) ≤ L := Nat.min_le_left _ _
      have hnx : L - min L (r y) = m - sm r (y + 1) := by
        show _ = m - (sm r y + r y)
        omega
      have tl0 : ((-1 : Int32) < 0) = True := by simp [show (-1 : Int32) < 0 by decide]
      have go : WP m_X7_moves Q 50 [.ref 40, .int (nI f), .int (-1), .int (nI m), .int (nI L), .int (nI y), l6] [.int (nI (min L (r y)))] g := by
        simp (disch := omega) only [e_X7_moves_50, e_X7_moves_52, e_X7_moves_53, e_X7_moves_56, e_X7_moves_57, e_X7_moves_59, e_X7_moves_60, e_X7_moves_61, e_X7_moves_62, e_X7_moves_64, e_X7_moves_65, e_X7_moves_66, e_X7_moves_68, e_X7_moves_70, e_X7_moves_71, e_X7_moves_73, e_X7_moves_74, e_X7_moves_91, tand, true_and, and_true, nl1_int, nl1_ref, nl1_null, nl1_ra, cat1_int, cat1_ref, cat1_null, stbs_nil, stbs_cons, stb_int, stb_long, stb_ref, stb_null, stb_ra, alv_nil, alv_cons, alv1_int, alv1_ref, alv1_null, alv1_ra, List.length_nil, List.length_cons, Nat.reduceAdd, Nat.reduceLeDiff, Nat.zero_le, Option.toList_some, Option.toList_none, List.cons_append, List.nil_append, or_true, true_or, or_false, false_or, Nat.reduceEqDiff, not_true_eq_false, not_false_eq_true, false_and, and_false, false_implies, true_implies, implies_true, ne_eq, and_self, ok1, M.k40, M.r40, z41, M.k41, M.n41, isIA, vpT, nI_clamp, nI_add, M.rd, gK_pI, gN_pI, gR_pI, gI_same, gI_diff, u1_eq, u1_ne, ef, pk_sub hk1, pk_sub hk2, tl0]
        simp only [e_X7_moves_94, tand, true_and, and_true, nl1_int, nl1_ref, nl1_null, nl1_ra, cat1_int, cat1_ref, cat1_null, stbs_nil, stbs_cons, stb_int, stb_long, stb_ref, stb_null, stb_ra, alv_nil, alv_cons, alv1_int, alv1_ref, alv1_null, alv1_ra, List.length_nil, List.length_cons, Nat.reduceAdd, Nat.reduceLeDiff, Nat.zero_le, Option.toList_some, Option.toList_none, List.cons_append, List.nil_append, or_true, true_or, or_false, false_or, Nat.reduceEqDiff, not_true_eq_false, not_false_eq_true, false_and, and_false, false_implies, true_implies, implies_true, ne_eq, and_self, ok1]
        rw [hnx]
        refine ih (y + 1) (a' := u1 a' (f + y) (r y - min L (r y))) (by omega) (M.set _ _) (fun i => ?_)
        unfold u1
        by_cases h2 : i = f + y
        · rw [if_pos h2]
          unfold mvO
          rw [if_pos (by omega), hr, show i - f = y by omega, htk, h2, ← ry]
        · rw [if_neg h2, hM]
          unfold mvO
          by_cases h3 : f ≤ i ∧ i < f + y
          · rw [if_pos h3, if_pos (by omega)]
          · rw [if_neg h3, if_neg (show ¬ (f ≤ i ∧ i < f + (y + 1)) by omega)]
      simp (disch := omega) only [e_X7_moves_22, e_X7_moves_23, e_X7_moves_26, e_X7_moves_27, e_X7_moves_29, e_X7_moves_30, e_X7_moves_31, e_X7_moves_33, tand, true_and, and_true, nl1_int, nl1_ref, nl1_null, nl1_ra, cat1_int, cat1_ref, cat1_null, stbs_nil, stbs_cons, stb_int, stb_long, stb_ref, stb_null, stb_ra, alv_nil, alv_cons, alv1_int, alv1_ref, alv1_null, alv1_ra, List.length_nil, List.length_cons, Nat.reduceAdd, Nat.reduceLeDiff, Nat.zero_le, Option.toList_some, Option.toList_none, List.cons_append, List.nil_append, or_true, true_or, or_false, false_or, Nat.reduceEqDiff, not_true_eq_false, not_false_eq_true, false_and, and_false, false_implies, true_implies, implies_true, ne_eq, and_self, ok1, M.k40, M.r40, z41, M.k41, M.n41, isIA, vpT, nI_clamp, nI_add, M.rd, gK_pI, gN_pI, gR_pI, gI_same, gI_diff, u1_eq, u1_ne, ef, nI_leE]
      refine ⟨fun h1 => ?_, fun h1 => ?_⟩
      · simp only [e_X7_moves_48, tand, true_and, and_true, nl1_int, nl1_ref, nl1_null, nl1_ra, cat1_int, cat1_ref, cat1_null, stbs_nil, stbs_cons, stb_int, stb_long, stb_ref, stb_null, stb_ra, alv_nil, alv_cons, alv1_int, alv1_ref, alv1_null, alv1_ra, List.length_nil, List.length_cons, Nat.reduceAdd, Nat.reduceLeDiff, Nat.zero_le, Option.toList_some, Option.toList_none, List.cons_append, List.nil_append, or_true, true_or, or_false, false_or, Nat.reduceEqDiff, not_true_eq_false, not_false_eq_true, false_and, and_false, false_implies, true_implies, implies_true, ne_eq, and_self, ok1]
        rw [Nat.min_eq_left h1] at go
        exact go
      · simp (disch := omega) only [e_X7_moves_36, e_X7_moves_37, e_X7_moves_40, e_X7_moves_41, e_X7_moves_43, e_X7_moves_44, e_X7_moves_45, tand, true_and, and_true, nl1_int, nl1_ref, nl1_null, nl1_ra, cat1_int, cat1_ref, cat1_null, stbs_nil, stbs_cons, stb_int, stb_long, stb_ref, stb_null, stb_ra, alv_nil, alv_cons, alv1_int, alv1_ref, alv1_null, alv1_ra, List.length_nil, List.length_cons, Nat.reduceAdd, Nat.reduceLeDiff, Nat.zero_le, Option.toList_some, Option.toList_none, List.cons_append, List.nil_append, or_true, true_or, or_false, false_or, Nat.reduceEqDiff, not_true_eq_false, not_false_eq_true, false_and, and_false, false_implies, true_implies, implies_true, ne_eq, and_self, ok1, M.k40, M.r40, z41, M.k41, M.n41, isIA, vpT, nI_clamp, nI_add, M.rd, gK_pI, gN_pI, gR_pI, gI_same, gI_diff, u1_eq, u1_ne, ef]
        rw [Nat.min_eq_right (by omega)] at go
        exact go
theorem c_X7_gone {g : mG} {f m Y : Nat} (M : MT g0 g A0 a) (hm : m < 2 ^ 28) (hY : a 0 = Y) (hY2 : Y < 1000) (hf : 144 ≤ f ∧ f + 1000 ≤ 23144) (hb : ∀ y, y ≤ Y → a (f + y) < 2 ^ 28)
    (q : ∀ g' a', MT g0 g' A0 a' → (∀ i, a' i = mvO a f m Y 1000 i) → Q none g') : w_X7_moves [.ref 40, .int (nI f), .int (-1), .int (nI m)] g Q := by
  refine wm_at rfl ⟨trivial, trivial, trivial, trivial, trivial⟩ (show WP m_X7_moves Q 0 [.ref 40, .int (nI f), .int (-1), .int (nI m), .retAddr 0, .retAddr 0, .retAddr 0] [] g from ?_)
  simp only [e_X7_moves_0, e_X7_moves_1, e_X7_moves_3, e_X7_moves_4, tand, true_and, and_true, nl1_int, nl1_ref, nl1_null, nl1_ra, cat1_int, cat1_ref, cat1_null, stbs_nil, stbs_cons, stb_int, stb_long, stb_ref, stb_null, stb_ra, alv_nil, alv_cons, alv1_int, alv1_ref, alv1_null, alv1_ra, List.length_nil, List.length_cons, Nat.reduceAdd, Nat.reduceLeDiff, Nat.zero_le, Option.toList_some, Option.toList_none, List.cons_append, List.nil_append, or_true, true_or, or_false, false_or, Nat.reduceEqDiff, not_true_eq_false, not_false_eq_true, false_and, and_false, false_implies, true_implies, implies_true, ne_eq, and_self, ok1]
  refine gone_loop hm hY hY2 hf hb q (Y + 1) 0 (Nat.zero_add _) M (fun i => ?_)
  unfold mvO
  rw [if_neg (by omega)]
end Mvs
