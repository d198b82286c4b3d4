/-! ===== the model: permits of a kiln ===== -/
section Mpe
variable {g0 g : mG} {Q : mQ} {A0 : Nat → Nat → Nat} {a : Nat → Nat}
theorem mperm_loop {k Y : Nat} (M : MT g0 g A0 a) (hk : k < 6) (hY : a 0 = Y) (hY2 : Y < 1000) (q : Q (some (.int (nI (sm (fun y => a (144 + 1000 * k + y)) (Y + 1))))) g) : ∀ (d y : Nat), y + d = Y + 1 → WP m_X7_permits Q 4 [.ref 40, .int (nI k), .int (nI (sm (fun y => a (144 + 1000 * k + y)) y)), .int (nI y)] [] g := by
  intro d
  induction d with
  | zero =>
    intro y hy
    have e : y = Y + 1 := by omega
    subst e
    have hlt : Y < Y + 1 := by omega
    simp (disch := omega) only [e_X7_permits_4, e_X7_permits_5, e_X7_permits_6, e_X7_permits_9, e_X7_permits_10, e_X7_permits_11, e_X7_permits_39, e_X7_permits_40, tand, true_and, and_true, nl1_int, nl1_ref, nl1_null, nl1_ra, cat1_int, cat1_ref, cat1_null, stbs_nil, stbs_cons, stb_int, stb_long, stb_ref, stb_null, stb_ra, alv_nil, alv_cons, alv1_int, alv1_ref, alv1_null, alv1_ra, List.length_nil, List.length_cons, Nat.reduceAdd, Nat.reduceLeDiff, Nat.zero_le, Option.toList_some, Option.toList_none, List.cons_append, List.nil_append, or_true, true_or, or_false, false_or, Nat.reduceEqDiff, not_true_eq_false, not_false_eq_true, false_and, and_false, false_implies, true_implies, implies_true, ne_eq, and_self, ok1, M.k40, M.r40, z41, M.k41, M.n41, isIA, vpT, nI_clamp, nI_add, M.rd, gK_pI, gN_pI, gR_pI, gI_same, gI_diff, u1_eq, u1_ne, hY, nI_ltE, hlt]
    exact q
  | succ d ih =>
    intro y hy
    have hnlt : ¬ Y < y := by omega
    simp (disch := omega) only [e_X7_permits_4, e_X7_permits_5, e_X7_permits_6, e_X7_permits_9, e_X7_permits_10, e_X7_permits_11, e_X7_permits_14, e_X7_permits_15, e_X7_permits_16, e_X7_permits_19, e_X7_permits_22, e_X7_permits_25, e_X7_permits_26, e_X7_permits_27, e_X7_permits_28, e_X7_permits_29, e_X7_permits_30, e_X7_permits_31, e_X7_permits_32, e_X7_permits_33, tand, true_and, and_true, nl1_int, nl1_ref, nl1_null, nl1_ra, cat1_int, cat1_ref, cat1_null, stbs_nil, stbs_cons, stb_int, stb_long, stb_ref, stb_null, stb_ra, alv_nil, alv_cons, alv1_int, alv1_ref, alv1_null, alv1_ra, List.length_nil, List.length_cons, Nat.reduceAdd, Nat.reduceLeDiff, Nat.zero_le, Option.toList_some, Option.toList_none, List.cons_append, List.nil_append, or_true, true_or, or_false, false_or, Nat.reduceEqDiff, not_true_eq_false, not_false_eq_true, false_and, and_false, false_implies, true_implies, implies_true, ne_eq, and_self, ok1, M.k40, M.r40, z41, M.k41, M.n41, isIA, vpT, nI_clamp, nI_add, M.rd, gK_pI, gN_pI, gR_pI, gI_same, gI_diff, u1_eq, u1_ne, hY, nI_ltE, hnlt, pk_mul]
    simp only [e_X7_permits_36, tand, true_and, and_true, nl1_int, nl1_ref, nl1_null, nl1_ra, cat1_int, cat1_ref, cat1_null, stbs_nil, stbs_cons, stb_int, stb_long, stb_ref, stb_null, stb_ra, alv_nil, alv_cons, alv1_int, alv1_ref, alv1_null, alv1_ra, List.length_nil, List.length_cons, Nat.reduceAdd, Nat.reduceLeDiff, Nat.zero_le, Option.toList_some, Option.toList_none, List.cons_append, List.nil_append, or_true, true_or, or_false, false_or, Nat.reduceEqDiff, not_true_eq_false, not_false_eq_true, false_and, and_false, false_implies, true_implies, implies_true, ne_eq, and_self, ok1]
    exact ih (y + 1) (by omega)
theorem c_X7_permits {k : Nat} (M : MT g0 g A0 a) (hk : k < 6) (hY2 : a 0 < 1000) (q : Q (some (.int (nI (sm (fun y => a (144 + 1000 * k + y)) (a 0 + 1))))) g) : w_X7_permits [.ref 40, .int (nI k)] g Q := by
  refine wm_at rfl ⟨trivial, trivial, trivial⟩ (show WP m_X7_permits Q 0 [.ref 40, .int (nI k), .retAddr 0, .retAddr 0] [] g from ?_)
  simp only [e_X7_permits_0, e_X7_permits_1, e_X7_permits_2, e_X7_permits_3, tand, true_and, and_true, nl1_int, nl1_ref, nl1_null, nl1_ra, cat1_int, cat1_ref, cat1_null, stbs_nil, stbs_cons, stb_int, stb_long, stb_ref, stb_null, stb_ra, alv_nil, alv_cons, alv1_int, alv1_ref, alv1_null, alv1_ra, List.length_nil, List.length_cons, Nat.reduceAdd, Nat.reduceLeDiff, Nat.zero_le, Option.toList_some, Option.toList_none, List.cons_append, List.nil_append, or_true, true_or, or_false, false_or, Nat.reduceEqDiff, not_true_eq_false, not_false_eq_true, false_and, and_false, false_implies, true_implies, implies_true, ne_eq, and_self, ok1]
  exact mperm_loop M hk rfl hY2 q (a 0 + 1) 0 (Nat.zero_add _)
end Mpe
