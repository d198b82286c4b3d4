/-! ===== the model: years end ===== -/
theorem lN_toI {n : Nat} (h : n < 2 ^ 62) : (lN n).toInt = (n : Int) := lg_ofNat_toInt (by omega)
theorem lN_eqE {a b : Nat} (ha : a < 2 ^ 62) (hb : b < 2 ^ 62) : (lN a = lN b) = (a = b) := by
  refine propext ⟨fun h => ?_, fun h => by rw [h]⟩
  have := congrArg Int64.toInt h
  rw [lN_toI ha, lN_toI hb] at this
  omega
theorem cmp_ge {a b : Nat} (ha : a < 2 ^ 62) (hb : b < 2 ^ 62) : (0 ≤ lg_cmp (lN a) (lN b)) = (b ≤ a) := by
  unfold lg_cmp
  have h1 : (lN a > lN b) = (b < a) := lN_ltE hb ha
  simp only [h1, lN_eqE ha hb]
  by_cases e1 : b < a
  · rw [if_pos e1]
    exact propext ⟨fun _ => by omega, fun _ => by decide⟩
  · rw [if_neg e1]
    by_cases e2 : a = b
    · rw [if_pos e2]
      exact propext ⟨fun _ => by omega, fun _ => by decide⟩
    · rw [if_neg e2]
      exact propext ⟨fun z => absurd z (by decide), fun z => by omega⟩
section Mye
variable {g0 g : mG} {Q : mQ} {A0 : Nat → Nat → Nat} {a pos : Nat → Nat} {w snap : Rw} {hist : Nat → Rw} {st kept n : Nat} {t : Nat → Nat}
theorem RelB.mvKO (h : RelB w a pos) {k m Y : Nat} (hk : k < 6) (hY : Y < 1000) (h0 : ∀ y, Y < y → wP w k y = 0) : RelB (sP w k (rsu (wP w k) m)) (mvO a (144 + 1000 * k) m Y 1000) pos := ⟨h.1.mvKO hk hY h0, h.2.same (fun _ _ => rfl) (by unfold mvO; rw [if_neg (by omega)]) h.p17⟩
theorem c_X7_covers {k : Nat} (M : MT g0 g A0 a) (R : RelB w a pos) (hk : k < 6) (hB : ssB w k) (hY : wS w 0 < 1000) (h0 : ∀ y, wS w 0 < y → wP w k y = 0) (q : ∀ g' a', MT g0 g' A0 a' → RelB (stl w k) a' pos → Q (some (.int (nI (lkN w k)))) g') : w_X7_covers [.ref 40, .int (nI k)] g Q := by
  refine wm_at rfl ⟨trivial, trivial, trivial⟩ (show WP m_X7_covers Q 0 [.ref 40, .int (nI k), .retAddr 0, .retAddr 0, .retAddr 0, .retAddr 0, .retAddr 0, .retAddr 0, .retAddr 0] [] g from ?_)
  obtain ⟨hB1, hB2, hB3, hB4⟩ := hB
  have f0 := hB1 0 (by decide)
  have f2 := hB1 2 (by decide)
  have f3 := hB1 3 (by decide)
  have f4 := hB1 4 (by decide)
  have f5 := hB1 5 (by decide)
  have e2 : a (32 + k) = wK w k 2 := R.1.k hk 2 (by decide)
  have e3 : a (38 + k) = wK w k 3 := R.1.k hk 3 (by decide)
  have e4 : a (44 + k) = wK w k 4 := R.1.k hk 4 (by decide)
  have e5 : a (50 + k) = wK w k 5 := R.1.k hk 5 (by decide)
  have s3 : a 5 = wS w 3 := R.1.s 3 (by decide) (by decide)
  have s0 : a 0 = wS w 0 := R.1.s 0 (by decide) (by decide)
  have hdu : duN w k < 2 ^ 30 := by unfold duN; omega
  have hdu' : wK w k 2 + wK w k 4 + wK w k 5 = duN w k := rfl
  have hob : obN w k ≤ duN w k := Nat.min_le_right _ _
  have hoo : ooN w k ≤ duN w k - obN w k := Nat.min_le_right _ _
  have hoo2 : ooN w k ≤ rt (wP w k) := Nat.min_le_left _ _
  have hlk' : duN w k - obN w k - ooN w k = lkN w k := rfl
  have hlk : lkN w k ≤ duN w k := by unfold lkN; omega
  have hmul : lkN w k * wS w 12 < 2 ^ 62 := by
    have := Nat.mul_le_mul (show lkN w k ≤ 2 ^ 30 by omega) (show wS w 12 ≤ 2 ^ 29 by omega)
    omega
  have hco : coN w k ≤ wK w k 0 := Nat.min_le_left _ _
  simp (disch := omega) only [e_X7_covers_0, e_X7_covers_1, e_X7_covers_2, tand, true_and, and_true, nl1_int, nl1_ref, nl1_null, nl1_ra, cat1_int, cat1_ref, cat1_null, stbs_nil, stbs_cons, stb_int, stb_long, stb_ref, stb_null, stb_ra, alv_nil, alv_cons, alv1_int, alv1_ref, alv1_null, alv1_ra, List.length_nil, List.length_cons, Nat.reduceAdd, Nat.reduceLeDiff, Nat.zero_le, Option.toList_some, Option.toList_none, List.cons_append, List.nil_append, or_true, true_or, or_false, false_or, Nat.reduceEqDiff, not_true_eq_false, not_false_eq_true, false_and, and_false, false_implies, true_implies, implies_true, ne_eq, and_self, ok1, M.k40]
  refine c_X7_needs M hk ?_
  rw [e2, e4, e5, hdu']
  -- from the choice of what borrowed ones give
  have go1 : WP m_X7_covers Q 26 [.ref 40, .int (nI k), .int (nI (duN w k)), .int (nI (wK w k 3)), .retAddr 0, .retAddr 0, .retAddr 0, .retAddr 0, .retAddr 0] [.int (nI (obN w k))] g := by
    simp (disch := omega) only [e_X7_covers_26, e_X7_covers_28, e_X7_covers_29, e_X7_covers_32, e_X7_covers_33, e_X7_covers_34, e_X7_covers_35, e_X7_covers_37, e_X7_covers_38, tand, true_and, and_true, nl1_int, nl1_ref, nl1_null, nl1_ra, cat1_int, cat1_ref, cat1_null, stbs_nil, stbs_cons, stb_int, stb_long, stb_ref, stb_null, stb_ra, alv_nil, alv_cons, alv1_int, alv1_ref, alv1_null, alv1_ra, List.length_nil, List.length_cons, Nat.reduceAdd, Nat.reduceLeDiff, Nat.zero_le, Option.toList_some, Option.toList_none, List.cons_append, List.nil_append, or_true, true_or, or_false, false_or, Nat.reduceEqDiff, not_true_eq_false, not_false_eq_true, false_and, and_false, false_implies, true_implies, implies_true, ne_eq, and_self, ok1, M.k40, M.r40, z41, M.k41, M.n41, isIA, vpT, nI_clamp, nI_add, M.rd, gK_pI, gN_pI, gR_pI, gI_same, gI_diff, u1_eq, u1_ne, s3]
    refine M.wp fun g1 M1 => ?_
    have R1 := R.setS (j := 3) (by decide) (by decide) (wS w 3 + obN w k)
    simp (disch := omega) only [e_X7_covers_39, e_X7_covers_40, e_X7_covers_42, e_X7_covers_43, e_X7_covers_44, e_X7_covers_45, e_X7_covers_46, tand, true_and, and_true, nl1_int, nl1_ref, nl1_null, nl1_ra, cat1_int, cat1_ref, cat1_null, stbs_nil, stbs_cons, stb_int, stb_long, stb_ref, stb_null, stb_ra, alv_nil, alv_cons, alv1_int, alv1_ref, alv1_null, alv1_ra, List.length_nil, List.length_cons, Nat.reduceAdd, Nat.reduceLeDiff, Nat.zero_le, Option.toList_some, Option.toList_none, List.cons_append, List.nil_append, or_true, true_or, or_false, false_or, Nat.reduceEqDiff, not_true_eq_false, not_false_eq_true, false_and, and_false, false_implies, true_implies, implies_true, ne_eq, and_self, ok1, M1.k40, M1.r40, z41, M1.k41, M1.n41, isIA, vpT, nI_clamp, nI_add, M1.rd, gK_pI, gN_pI, gR_pI, gI_same, gI_diff, u1_eq, u1_ne, pk_sub hob]
    have y1 : u1 a 5 (wS w 3 + obN w k) 0 = wS w 0 := R1.1.s 0 (by decide) (by decide)
    refine c_X7_permits M1 hk (by omega) ?_
    have er : sm (fun y => u1 a 5 (wS w 3 + obN w k) (144 + 1000 * k + y)) (u1 a 5 (wS w 3 + obN w k) 0 + 1) = rt (wP w k) := by
      rw [y1]
      exact RelG.rtk (w := sS w 3 (wS w 3 + obN w k)) R1.1 hk hY h0
    rw [er]
    have hp : ∀ y, y < 1000 → u1 a 5 (wS w 3 + obN w k) (144 + 1000 * k + y) = wP w k y := fun y hy => R1.1.p hk hy
    have R1' : RelB (sS w 3 (wS w 3 + obN w k)) (u1 a 5 (wS w 3 + obN w k)) pos := R1
    generalize u1 a 5 (wS w 3 + obN w k) = a1 at *
    have go2 : WP m_X7_covers Q 63 [.ref 40, .int (nI k), .int (nI (duN w k - obN w k)), .int (nI (wK w k 3)), .int (nI (obN w k)), .int (nI (rt (wP w k))), .retAddr 0, .retAddr 0, .retAddr 0] [.int (nI (ooN w k))] g1 := by
      simp (disch := omega) only [e_X7_covers_63, e_X7_covers_65, e_X7_covers_66, e_X7_covers_67, tand, true_and, and_true, nl1_int, nl1_ref, nl1_null, nl1_ra, cat1_int, cat1_ref, cat1_null, stbs_nil, stbs_cons, stb_int, stb_long, stb_ref, stb_null, stb_ra, alv_nil, alv_cons, alv1_int, alv1_ref, alv1_null, alv1_ra, List.length_nil, List.length_cons, Nat.reduceAdd, Nat.reduceLeDiff, Nat.zero_le, Option.toList_some, Option.toList_none, List.cons_append, List.nil_append, or_true, true_or, or_false, false_or, Nat.reduceEqDiff, not_true_eq_false, not_false_eq_true, false_and, and_false, false_implies, true_implies, implies_true, ne_eq, and_self, ok1, M1.k40, M1.r40, z41, M1.k41, M1.n41, isIA, vpT, nI_clamp, nI_add, M1.rd, gK_pI, gN_pI, gR_pI, gI_same, gI_diff, u1_eq, u1_ne]
      refine c_X7_own ?_
      simp (disch := omega) only [e_X7_covers_70, e_X7_covers_71, e_X7_covers_73, tand, true_and, and_true, nl1_int, nl1_ref, nl1_null, nl1_ra, cat1_int, cat1_ref, cat1_null, stbs_nil, stbs_cons, stb_int, stb_long, stb_ref, stb_null, stb_ra, alv_nil, alv_cons, alv1_int, alv1_ref, alv1_null, alv1_ra, List.length_nil, List.length_cons, Nat.reduceAdd, Nat.reduceLeDiff, Nat.zero_le, Option.toList_some, Option.toList_none, List.cons_append, List.nil_append, or_true, true_or, or_false, false_or, Nat.reduceEqDiff, not_true_eq_false, not_false_eq_true, false_and, and_false, false_implies, true_implies, implies_true, ne_eq, and_self, ok1, M1.k40, M1.r40, z41, M1.k41, M1.n41, isIA, vpT, nI_clamp, nI_add, M1.rd, gK_pI, gN_pI, gR_pI, gI_same, gI_diff, u1_eq, u1_ne]
      refine c_X7_gone M1 (by omega) y1 hY (by omega) (fun y hy => ?_) fun g2 a2' M2' hM2 => ?_
      · rw [hp y (by omega)]
        have := rt_ge (r := wP w k) (y := y) (by omega)
        omega
      · have M2 := M2'.ext (b := mvO a1 (144 + 1000 * k) (ooN w k) (wS w 0) 1000) fun c _ => (hM2 c).symm
        have R2 : RelB (sP (sS w 3 (wS w 3 + obN w k)) k (rsu (wP w k) (ooN w k))) (mvO a1 (144 + 1000 * k) (ooN w k) (wS w 0) 1000) pos := R1'.mvKO hk hY h0
        generalize mvO a1 (144 + 1000 * k) (ooN w k) (wS w 0) 1000 = a2 at *
        have t2 : a2 4 = wS w 2 := R2.1.s 2 (by decide) (by decide)
        simp (disch := omega) only [e_X7_covers_76, e_X7_covers_77, e_X7_covers_80, e_X7_covers_81, e_X7_covers_82, e_X7_covers_83, e_X7_covers_85, e_X7_covers_86, tand, true_and, and_true, nl1_int, nl1_ref, nl1_null, nl1_ra, cat1_int, cat1_ref, cat1_null, stbs_nil, stbs_cons, stb_int, stb_long, stb_ref, stb_null, stb_ra, alv_nil, alv_cons, alv1_int, alv1_ref, alv1_null, alv1_ra, List.length_nil, List.length_cons, Nat.reduceAdd, Nat.reduceLeDiff, Nat.zero_le, Option.toList_some, Option.toList_none, List.cons_append, List.nil_append, or_true, true_or, or_false, false_or, Nat.reduceEqDiff, not_true_eq_false, not_false_eq_true, false_and, and_false, false_implies, true_implies, implies_true, ne_eq, and_self, ok1, M2.k40, M2.r40, z41, M2.k41, M2.n41, isIA, vpT, nI_clamp, nI_add, M2.rd, gK_pI, gN_pI, gR_pI, gI_same, gI_diff, u1_eq, u1_ne, t2]
        refine M2.wp fun g3 M3 => ?_
        have R3 := R2.setS (j := 2) (by decide) (by decide) (wS w 2 + ooN w k)
        simp (disch := omega) only [e_X7_covers_87, e_X7_covers_88, e_X7_covers_90, e_X7_covers_91, e_X7_covers_92, e_X7_covers_93, e_X7_covers_96, e_X7_covers_98, e_X7_covers_99, e_X7_covers_100, e_X7_covers_101, tand, true_and, and_true, nl1_int, nl1_ref, nl1_null, nl1_ra, cat1_int, cat1_ref, cat1_null, stbs_nil, stbs_cons, stb_int, stb_long, stb_ref, stb_null, stb_ra, alv_nil, alv_cons, alv1_int, alv1_ref, alv1_null, alv1_ra, List.length_nil, List.length_cons, Nat.reduceAdd, Nat.reduceLeDiff, Nat.zero_le, Option.toList_some, Option.toList_none, List.cons_append, List.nil_append, or_true, true_or, or_false, false_or, Nat.reduceEqDiff, not_true_eq_false, not_false_eq_true, false_and, and_false, false_implies, true_implies, implies_true, ne_eq, and_self, ok1, M3.k40, M3.r40, z41, M3.k41, M3.n41, isIA, vpT, nI_clamp, nI_add, M3.rd, gK_pI, gN_pI, gR_pI, gI_same, gI_diff, u1_eq, u1_ne, pk_sub hoo, hlk']
        refine M3.wp fun g4 M4 => ?_
        have R4 := R3.setK hk (f := 5) (by decide) (lkN w k)
        have R4' : RelB (sK (sS (sP (sS w 3 (wS w 3 + obN w k)) k (rsu (wP w k) (ooN w k))) 2 (wS w 2 + ooN w k)) k 5 (lkN w k)) (u1 (u1 a2 4 (wS w 2 + ooN w k)) (50 + k) (lkN w k)) pos := R4
        generalize u1 (u1 a2 4 (wS w 2 + ooN w k)) (50 + k) (lkN w k) = a4 at *
        have t13 : a4 13 = wS w 12 := R4'.1.s 12 (by decide) (by decide)
        have t20 : a4 (20 + k) = wK w k 0 := by
          have := R4'.1.k hk 0 (by decide)
          refine this.trans ?_
          show u2 w.2.1 k 5 (lkN w k) k 0 = _
          rw [u2_eq]
          rfl
        have go3 : ∀ {l4 l5 : Value}, nl1 l4 → nl1 l5 → WP m_X7_covers Q 146 [.ref 40, .int (nI k), .int (nI (lkN w k)), .int (nI (wK w k 3)), l4, l5, .long (lN (lkN w k * wS w 12)), .retAddr 0, .retAddr 0] [.int (nI (coN w k))] g4 := fun {l4 l5} h4 h5 => by
          simp (disch := omega) only [e_X7_covers_146, e_X7_covers_148, e_X7_covers_149, e_X7_covers_152, e_X7_covers_154, e_X7_covers_155, e_X7_covers_156, e_X7_covers_157, e_X7_covers_158, e_X7_covers_160, e_X7_covers_161, tand, true_and, and_true, nl1_int, nl1_ref, nl1_null, nl1_ra, cat1_int, cat1_ref, cat1_null, stbs_nil, stbs_cons, stb_int, stb_long, stb_ref, stb_null, stb_ra, alv_nil, alv_cons, alv1_int, alv1_ref, alv1_null, alv1_ra, List.length_nil, List.length_cons, Nat.reduceAdd, Nat.reduceLeDiff, Nat.zero_le, Option.toList_some, Option.toList_none, List.cons_append, List.nil_append, or_true, true_or, or_false, false_or, Nat.reduceEqDiff, not_true_eq_false, not_false_eq_true, false_and, and_false, false_implies, true_implies, implies_true, ne_eq, and_self, ok1, M4.k40, M4.r40, z41, M4.k41, M4.n41, isIA, vpT, nI_clamp, nI_add, M4.rd, gK_pI, gN_pI, gR_pI, gI_same, gI_diff, u1_eq, u1_ne, t20, pk_sub hco]
          refine M4.wp fun g5 M5 => ?_
          have R5 := R4'.setK hk (f := 0) (by decide) (wK w k 0 - coN w k)
          have t9 : u1 a4 (20 + k) (wK w k 0 - coN w k) 9 = wS w 9 := R5.1.s 9 (by decide) (by decide)
          simp (disch := omega) only [e_X7_covers_162, e_X7_covers_163, e_X7_covers_166, e_X7_covers_168, e_X7_covers_169, e_X7_covers_170, e_X7_covers_172, e_X7_covers_173, tand, true_and, and_true, nl1_int, nl1_ref, nl1_null, nl1_ra, cat1_int, cat1_ref, cat1_null, stbs_nil, stbs_cons, stb_int, stb_long, stb_ref, stb_null, stb_ra, alv_nil, alv_cons, alv1_int, alv1_ref, alv1_null, alv1_ra, List.length_nil, List.length_cons, Nat.reduceAdd, Nat.reduceLeDiff, Nat.zero_le, Option.toList_some, Option.toList_none, List.cons_append, List.nil_append, or_true, true_or, or_false, false_or, Nat.reduceEqDiff, not_true_eq_false, not_false_eq_true, false_and, and_false, false_implies, true_implies, implies_true, ne_eq, and_self, ok1, M5.k40, M5.r40, z41, M5.k41, M5.n41, isIA, vpT, nI_clamp, nI_add, M5.rd, t9]
          refine M5.wp fun g6 M6 => ?_
          have R6 := R5.setS (j := 9) (by decide) (by decide) (wS w 9 + coN w k)
          have R6' : RelB (sS (sK (sK (sS (sP (sS w 3 (wS w 3 + obN w k)) k (rsu (wP w k) (ooN w k))) 2 (wS w 2 + ooN w k)) k 5 (lkN w k)) k 0 (wK w k 0 - coN w k)) 9 (wS w 9 + coN w k)) (u1 (u1 a4 (20 + k) (wK w k 0 - coN w k)) 9 (wS w 9 + coN w k)) pos := R6
          generalize u1 (u1 a4 (20 + k) (wK w k 0 - coN w k)) 9 (wS w 9 + coN w k) = a6 at *
          have t56 : a6 (56 + k) = wK w k 6 := by
            refine (R6'.1.k hk 6 (by decide)).trans ?_
            show u2 (u2 w.2.1 k 5 (lkN w k)) k 0 (wK w k 0 - coN w k) k 6 = _
            rw [u2_eq, u2_eq]
            rfl
          have t15 : a6 15 = wS w 14 := R6'.1.s 14 (by decide) (by decide)
          have n100 : (nI 100 = 0) = False := by simp [show nI 100 ≠ 0 by decide]
          have hwi : (wK w k 3 * (100 + wS w 14) + 99) / 100 = wiN w (wK w k 3) := rfl
          simp (disch := omega) only [e_X7_covers_174, e_X7_covers_175, e_X7_covers_178, e_X7_covers_180, e_X7_covers_181, e_X7_covers_182, e_X7_covers_183, e_X7_covers_184, e_X7_covers_185, e_X7_covers_187, e_X7_covers_188, e_X7_covers_191, e_X7_covers_193, e_X7_covers_194, e_X7_covers_195, e_X7_covers_196, e_X7_covers_198, e_X7_covers_199, e_X7_covers_201, e_X7_covers_202, e_X7_covers_203, tand, true_and, and_true, nl1_int, nl1_ref, nl1_null, nl1_ra, cat1_int, cat1_ref, cat1_null, stbs_nil, stbs_cons, stb_int, stb_long, stb_ref, stb_null, stb_ra, alv_nil, alv_cons, alv1_int, alv1_ref, alv1_null, alv1_ra, List.length_nil, List.length_cons, Nat.reduceAdd, Nat.reduceLeDiff, Nat.zero_le, Option.toList_some, Option.toList_none, List.cons_append, List.nil_append, or_true, true_or, or_false, false_or, Nat.reduceEqDiff, not_true_eq_false, not_false_eq_true, false_and, and_false, false_implies, true_implies, implies_true, ne_eq, and_self, ok1, M6.k40, M6.r40, z41, M6.k41, M6.n41, isIA, vpT, nI_clamp, nI_add, M6.rd, gK_pI, gN_pI, gR_pI, gI_same, gI_diff, u1_eq, u1_ne, t56, t15, pk_mul, n100, pk_div, hwi]
          refine M6.wp fun g7 M7 => ?_
          have R7 := ((((R6'.setK hk (f := 6) (by decide) (wK w k 6 + wiN w (wK w k 3))).setK hk (f := 1) (by decide) 0).setK hk (f := 2) (by decide) 0).setK hk (f := 3) (by decide) 0).setK hk (f := 4) (by decide) 0
          simp (disch := omega) only [e_X7_covers_204, e_X7_covers_205, e_X7_covers_208, e_X7_covers_210, e_X7_covers_211, e_X7_covers_212, e_X7_covers_213, e_X7_covers_214, e_X7_covers_215, e_X7_covers_218, e_X7_covers_220, e_X7_covers_221, e_X7_covers_222, e_X7_covers_223, e_X7_covers_224, e_X7_covers_225, e_X7_covers_228, e_X7_covers_230, e_X7_covers_231, e_X7_covers_232, e_X7_covers_233, e_X7_covers_234, e_X7_covers_235, e_X7_covers_238, e_X7_covers_240, e_X7_covers_241, e_X7_covers_242, e_X7_covers_243, e_X7_covers_244, e_X7_covers_245, tand, true_and, and_true, nl1_int, nl1_ref, nl1_null, nl1_ra, cat1_int, cat1_ref, cat1_null, stbs_nil, stbs_cons, stb_int, stb_long, stb_ref, stb_null, stb_ra, alv_nil, alv_cons, alv1_int, alv1_ref, alv1_null, alv1_ra, List.length_nil, List.length_cons, Nat.reduceAdd, Nat.reduceLeDiff, Nat.zero_le, Option.toList_some, Option.toList_none, List.cons_append, List.nil_append, or_true, true_or, or_false, false_or, Nat.reduceEqDiff, not_true_eq_false, not_false_eq_true, false_and, and_false, false_implies, true_implies, implies_true, ne_eq, and_self, ok1, M7.k40, M7.r40, z41, M7.k41, M7.n41, isIA, vpT, nI_clamp, nI_add, M7.rd, gK_pI, gN_pI, gR_pI, gI_same, gI_diff, u1_eq, u1_ne]
          refine q _ _ ((((M7.set (26 + k) 0).set (32 + k) 0).set (38 + k) 0).set (44 + k) 0) (R7.ext (w' := stl w k) (fun _ _ => rfl) (fun c hc => ⟨fun f hf => ?_, fun _ _ => rfl⟩) (fun _ _ => ⟨fun _ _ => rfl, fun _ _ => rfl⟩))
          show u2 (u2 (u2 (u2 (u2 (u2 (u2 w.2.1 k 0 _) k 6 _) k 5 _) k 1 _) k 2 _) k 3 _) k 4 _ c f = u2 (u2 (u2 (u2 (u2 (u2 (u2 w.2.1 k 5 _) k 0 _) k 6 _) k 1 _) k 2 _) k 3 _) k 4 _ c f
          by_cases hck : c = k
          · subst hck
            simp only [u2_eq, u1]
            have : f = 0 ∨ f = 1 ∨ f = 2 ∨ f = 3 ∨ f = 4 ∨ f = 5 ∨ f = 6 := by omega
            rcases this with e | e | e | e | e | e | e <;> subst e <;> rfl
          · simp only [u2_ne hck]
        have go4 := @go3
        have z3 : coN w k = min (wK w k 0) (lkN w k * wS w 12) := rfl
        simp (disch := omega) only [e_X7_covers_102, e_X7_covers_103, e_X7_covers_104, e_X7_covers_105, e_X7_covers_108, e_X7_covers_110, e_X7_covers_111, e_X7_covers_112, e_X7_covers_113, e_X7_covers_115, e_X7_covers_116, e_X7_covers_119, e_X7_covers_121, e_X7_covers_122, e_X7_covers_123, e_X7_covers_124, e_X7_covers_125, e_X7_covers_127, e_X7_covers_128, tand, true_and, and_true, nl1_int, nl1_ref, nl1_null, nl1_ra, cat1_int, cat1_ref, cat1_null, stbs_nil, stbs_cons, stb_int, stb_long, stb_ref, stb_null, stb_ra, alv_nil, alv_cons, alv1_int, alv1_ref, alv1_null, alv1_ra, List.length_nil, List.length_cons, Nat.reduceAdd, Nat.reduceLeDiff, Nat.zero_le, Option.toList_some, Option.toList_none, List.cons_append, List.nil_append, or_true, true_or, or_false, false_or, Nat.reduceEqDiff, not_true_eq_false, not_false_eq_true, false_and, and_false, false_implies, true_implies, implies_true, ne_eq, and_self, ok1, M4.k40, M4.r40, z41, M4.k41, M4.n41, isIA, vpT, nI_clamp, nI_add, M4.rd, gK_pI, gN_pI, gR_pI, gI_same, gI_diff, u1_eq, u1_ne, t13, t20, nI_l, lN_mul, cmp_ge]
        refine ⟨fun h1 => ?_, fun h1 => ?_⟩
        · simp only [e_X7_covers_143, e_X7_covers_145, tand, true_and, and_true, nl1_int, nl1_ref, nl1_null, nl1_ra, cat1_int, cat1_ref, cat1_null, stbs_nil, stbs_cons, stb_int, stb_long, stb_ref, stb_null, stb_ra, alv_nil, alv_cons, alv1_int, alv1_ref, alv1_null, alv1_ra, List.length_nil, List.length_cons, Nat.reduceAdd, Nat.reduceLeDiff, Nat.zero_le, Option.toList_some, Option.toList_none, List.cons_append, List.nil_append, or_true, true_or, or_false, false_or, Nat.reduceEqDiff, not_true_eq_false, not_false_eq_true, false_and, and_false, false_implies, true_implies, implies_true, ne_eq, and_self, ok1, lN_i]
          have := go4 (l4 := .int (nI (ooN w k))) (l5 := .int (nI (rt (wP w k)))) trivial trivial
          rw [z3, Nat.min_eq_right h1] at this
          exact this
        · simp (disch := omega) only [e_X7_covers_131, e_X7_covers_132, e_X7_covers_135, e_X7_covers_137, e_X7_covers_138, e_X7_covers_139, e_X7_covers_140, tand, true_and, and_true, nl1_int, nl1_ref, nl1_null, nl1_ra, cat1_int, cat1_ref, cat1_null, stbs_nil, stbs_cons, stb_int, stb_long, stb_ref, stb_null, stb_ra, alv_nil, alv_cons, alv1_int, alv1_ref, alv1_null, alv1_ra, List.length_nil, List.length_cons, Nat.reduceAdd, Nat.reduceLeDiff, Nat.zero_le, Option.toList_some, Option.toList_none, List.cons_append, List.nil_append, or_true, true_or, or_false, false_or, Nat.reduceEqDiff, not_true_eq_false, not_false_eq_true, false_and, and_false, false_implies, true_implies, implies_true, ne_eq, and_self, ok1, M4.k40, M4.r40, z41, M4.k41, M4.n41, isIA, vpT, nI_clamp, nI_add, M4.rd, gK_pI, gN_pI, gR_pI, gI_same, gI_diff, u1_eq, u1_ne, t20]
          have := go4 (l4 := .int (nI (ooN w k))) (l5 := .int (nI (rt (wP w k)))) trivial trivial
          rw [z3, Nat.min_eq_left (by omega)] at this
          exact this
    have z2 : ooN w k = min (rt (wP w k)) (duN w k - obN w k) := rfl
    simp (disch := omega) only [e_X7_covers_49, e_X7_covers_51, e_X7_covers_53, e_X7_covers_54, tand, true_and, and_true, nl1_int, nl1_ref, nl1_null, nl1_ra, cat1_int, cat1_ref, cat1_null, stbs_nil, stbs_cons, stb_int, stb_long, stb_ref, stb_null, stb_ra, alv_nil, alv_cons, alv1_int, alv1_ref, alv1_null, alv1_ra, List.length_nil, List.length_cons, Nat.reduceAdd, Nat.reduceLeDiff, Nat.zero_le, Option.toList_some, Option.toList_none, List.cons_append, List.nil_append, or_true, true_or, or_false, false_or, Nat.reduceEqDiff, not_true_eq_false, not_false_eq_true, false_and, and_false, false_implies, true_implies, implies_true, ne_eq, and_self, ok1, nI_leE]
    refine ⟨fun h1 => ?_, fun h1 => ?_⟩
    · simp only [e_X7_covers_62, tand, true_and, and_true, nl1_int, nl1_ref, nl1_null, nl1_ra, cat1_int, cat1_ref, cat1_null, stbs_nil, stbs_cons, stb_int, stb_long, stb_ref, stb_null, stb_ra, alv_nil, alv_cons, alv1_int, alv1_ref, alv1_null, alv1_ra, List.length_nil, List.length_cons, Nat.reduceAdd, Nat.reduceLeDiff, Nat.zero_le, Option.toList_some, Option.toList_none, List.cons_append, List.nil_append, or_true, true_or, or_false, false_or, Nat.reduceEqDiff, not_true_eq_false, not_false_eq_true, false_and, and_false, false_implies, true_implies, implies_true, ne_eq, and_self, ok1]
      rw [z2, Nat.min_eq_right h1] at go2
      exact go2
    · simp only [e_X7_covers_57, e_X7_covers_59, tand, true_and, and_true, nl1_int, nl1_ref, nl1_null, nl1_ra, cat1_int, cat1_ref, cat1_null, stbs_nil, stbs_cons, stb_int, stb_long, stb_ref, stb_null, stb_ra, alv_nil, alv_cons, alv1_int, alv1_ref, alv1_null, alv1_ra, List.length_nil, List.length_cons, Nat.reduceAdd, Nat.reduceLeDiff, Nat.zero_le, Option.toList_some, Option.toList_none, List.cons_append, List.nil_append, or_true, true_or, or_false, false_or, Nat.reduceEqDiff, not_true_eq_false, not_false_eq_true, false_and, and_false, false_implies, true_implies, implies_true, ne_eq, and_self, ok1]
      rw [z2, Nat.min_eq_left (by omega)] at go2
      exact go2
  have z1 : obN w k = min (wK w k 3) (duN w k) := rfl
  simp (disch := omega) only [e_X7_covers_5, e_X7_covers_6, e_X7_covers_7, e_X7_covers_10, e_X7_covers_12, e_X7_covers_13, e_X7_covers_14, e_X7_covers_15, e_X7_covers_16, e_X7_covers_17, e_X7_covers_18, tand, true_and, and_true, nl1_int, nl1_ref, nl1_null, nl1_ra, cat1_int, cat1_ref, cat1_null, stbs_nil, stbs_cons, stb_int, stb_long, stb_ref, stb_null, stb_ra, alv_nil, alv_cons, alv1_int, alv1_ref, alv1_null, alv1_ra, List.length_nil, List.length_cons, Nat.reduceAdd, Nat.reduceLeDiff, Nat.zero_le, Option.toList_some, Option.toList_none, List.cons_append, List.nil_append, or_true, true_or, or_false, false_or, Nat.reduceEqDiff, not_true_eq_false, not_false_eq_true, false_and, and_false, false_implies, true_implies, implies_true, ne_eq, and_self, ok1, M.k40, M.r40, z41, M.k41, M.n41, isIA, vpT, nI_clamp, nI_add, M.rd, gK_pI, gN_pI, gR_pI, gI_same, gI_diff, u1_eq, u1_ne, e3, nI_leE]
  refine ⟨fun h1 => ?_, fun h1 => ?_⟩
  · simp only [e_X7_covers_25, tand, true_and, and_true, nl1_int, nl1_ref, nl1_null, nl1_ra, cat1_int, cat1_ref, cat1_null, stbs_nil, stbs_cons, stb_int, stb_long, stb_ref, stb_null, stb_ra, alv_nil, alv_cons, alv1_int, alv1_ref, alv1_null, alv1_ra, List.length_nil, List.length_cons, Nat.reduceAdd, Nat.reduceLeDiff, Nat.zero_le, Option.toList_some, Option.toList_none, List.cons_append, List.nil_append, or_true, true_or, or_false, false_or, Nat.reduceEqDiff, not_true_eq_false, not_false_eq_true, false_and, and_false, false_implies, true_implies, implies_true, ne_eq, and_self, ok1]
    rw [z1, Nat.min_eq_right h1] at go1
    exact go1
  · simp only [e_X7_covers_21, e_X7_covers_22, tand, true_and, and_true, nl1_int, nl1_ref, nl1_null, nl1_ra, cat1_int, cat1_ref, cat1_null, stbs_nil, stbs_cons, stb_int, stb_long, stb_ref, stb_null, stb_ra, alv_nil, alv_cons, alv1_int, alv1_ref, alv1_null, alv1_ra, List.length_nil, List.length_cons, Nat.reduceAdd, Nat.reduceLeDiff, Nat.zero_le, Option.toList_some, Option.toList_none, List.cons_append, List.nil_append, or_true, true_or, or_false, false_or, Nat.reduceEqDiff, not_true_eq_false, not_false_eq_true, false_and, and_false, false_implies, true_implies, implies_true, ne_eq, and_self, ok1]
    rw [z1, Nat.min_eq_left (by omega)] at go1
    exact go1
theorem year_loopM (hB : ∀ k, k < 6 → ssB w k) (hY : wS w 0 < 1000) (h0 : ∀ k, k < 6 → ∀ y, wS w 0 < y → wP w k y = 0) (q : ∀ g' a', MT g0 g' A0 a' → RelB (opYear w) a' pos → Q (some (.int (nI (sm (lkN w) 6)))) g') : ∀ (d k : Nat) {g : mG} {a : Nat → Nat}, k + d = 6 → MT g0 g A0 a → RelB (stlN w k) a pos → WP m_X7_endYear Q 23 [.ref 40, .int (nI (sm (lkN w) k)), .int (nI k)] [] g := by
  intro d
  induction d with
  | zero =>
    intro k g a hk M R
    have e : k = 6 := by omega
    subst e
    have s0 : a 0 = wS w 0 := (R.1.s 0 (by decide) (by decide)).trans (stlN_S (by decide) (by decide) (by decide) 6)
    simp (disch := omega) only [e_X7_endYear_23, e_X7_endYear_24, e_X7_endYear_26, e_X7_endYear_43, e_X7_endYear_44, e_X7_endYear_47, e_X7_endYear_48, e_X7_endYear_49, e_X7_endYear_50, e_X7_endYear_51, e_X7_endYear_52, e_X7_endYear_53, e_X7_endYear_54, tand, true_and, and_true, nl1_int, nl1_ref, nl1_null, nl1_ra, cat1_int, cat1_ref, cat1_null, stbs_nil, stbs_cons, stb_int, stb_long, stb_ref, stb_null, stb_ra, alv_nil, alv_cons, alv1_int, alv1_ref, alv1_null, alv1_ra, List.length_nil, List.length_cons, Nat.reduceAdd, Nat.reduceLeDiff, Nat.zero_le, Option.toList_some, Option.toList_none, List.cons_append, List.nil_append, or_true, true_or, or_false, false_or, Nat.reduceEqDiff, not_true_eq_false, not_false_eq_true, false_and, and_false, false_implies, true_implies, implies_true, ne_eq, and_self, ok1, M.k40, M.r40, z41, M.k41, M.n41, isIA, vpT, nI_clamp, nI_add, M.rd, gK_pI, gN_pI, gR_pI, gI_same, gI_diff, u1_eq, u1_ne, nI_leE, Nat.le_refl, s0]
    exact q _ _ (M.set _ _) (R.setS (j := 0) (by decide) (by decide) (wS w 0 + 1))
  | succ d ih =>
    intro k g a hk M R
    have hle : ¬ 6 ≤ k := by omega
    have hk6 : k < 6 := by omega
    have eY : wS (stlN w k) 0 = wS w 0 := stlN_S (by decide) (by decide) (by decide) k
    simp (disch := omega) only [e_X7_endYear_23, e_X7_endYear_24, e_X7_endYear_26, e_X7_endYear_29, e_X7_endYear_30, e_X7_endYear_31, e_X7_endYear_32, tand, true_and, and_true, nl1_int, nl1_ref, nl1_null, nl1_ra, cat1_int, cat1_ref, cat1_null, stbs_nil, stbs_cons, stb_int, stb_long, stb_ref, stb_null, stb_ra, alv_nil, alv_cons, alv1_int, alv1_ref, alv1_null, alv1_ra, List.length_nil, List.length_cons, Nat.reduceAdd, Nat.reduceLeDiff, Nat.zero_le, Option.toList_some, Option.toList_none, List.cons_append, List.nil_append, or_true, true_or, or_false, false_or, Nat.reduceEqDiff, not_true_eq_false, not_false_eq_true, false_and, and_false, false_implies, true_implies, implies_true, ne_eq, and_self, ok1, nI_leE, hle, M.k40]
    refine c_X7_covers M R hk6 (stlN_B (hB k hk6)) (by rw [eY]; exact hY) (fun y hy => ?_) fun g1 a1 M1 R1 => ?_
    · rw [stlN_P k (Nat.le_refl _)]
      rw [eY] at hy
      exact h0 k hk6 y hy
    · rw [stlN_lk]
      simp only [e_X7_endYear_35, e_X7_endYear_36, e_X7_endYear_37, tand, true_and, and_true, nl1_int, nl1_ref, nl1_null, nl1_ra, cat1_int, cat1_ref, cat1_null, stbs_nil, stbs_cons, stb_int, stb_long, stb_ref, stb_null, stb_ra, alv_nil, alv_cons, alv1_int, alv1_ref, alv1_null, alv1_ra, List.length_nil, List.length_cons, Nat.reduceAdd, Nat.reduceLeDiff, Nat.zero_le, Option.toList_some, Option.toList_none, List.cons_append, List.nil_append, or_true, true_or, or_false, false_or, Nat.reduceEqDiff, not_true_eq_false, not_false_eq_true, false_and, and_false, false_implies, true_implies, implies_true, ne_eq, and_self, ok1, nI_add]
      simp only [e_X7_endYear_40, tand, true_and, and_true, nl1_int, nl1_ref, nl1_null, nl1_ra, cat1_int, cat1_ref, cat1_null, stbs_nil, stbs_cons, stb_int, stb_long, stb_ref, stb_null, stb_ra, alv_nil, alv_cons, alv1_int, alv1_ref, alv1_null, alv1_ra, List.length_nil, List.length_cons, Nat.reduceAdd, Nat.reduceLeDiff, Nat.zero_le, Option.toList_some, Option.toList_none, List.cons_append, List.nil_append, or_true, true_or, or_false, false_or, Nat.reduceEqDiff, not_true_eq_false, not_false_eq_true, false_and, and_false, false_implies, true_implies, implies_true, ne_eq, and_self, ok1]
      exact ih (k + 1) (by omega) M1 R1
theorem d_year1 (h : MB g w hist st kept snap t n) (hy : wS w 0 = 999) (q : Q (some (.int (-3))) g) : w_X7_endYear [.ref 40] g Q := by
  refine wm_at rfl ⟨trivial, trivial⟩ (show WP m_X7_endYear Q 0 [.ref 40, .retAddr 0, .retAddr 0] [] g from ?_)
  obtain ⟨A, pos, M, R, up⟩ := h.at
  generalize A 41 = a at *
  have s0 : a 0 = wS w 0 := R.1.s 0 (by decide) (by decide)
  rw [hy] at s0
  simp (disch := omega) only [e_X7_endYear_0, e_X7_endYear_1, e_X7_endYear_4, e_X7_endYear_5, e_X7_endYear_6, e_X7_endYear_9, e_X7_endYear_12, e_X7_endYear_14, tand, true_and, and_true, nl1_int, nl1_ref, nl1_null, nl1_ra, cat1_int, cat1_ref, cat1_null, stbs_nil, stbs_cons, stb_int, stb_long, stb_ref, stb_null, stb_ra, alv_nil, alv_cons, alv1_int, alv1_ref, alv1_null, alv1_ra, List.length_nil, List.length_cons, Nat.reduceAdd, Nat.reduceLeDiff, Nat.zero_le, Option.toList_some, Option.toList_none, List.cons_append, List.nil_append, or_true, true_or, or_false, false_or, Nat.reduceEqDiff, not_true_eq_false, not_false_eq_true, false_and, and_false, false_implies, true_implies, implies_true, ne_eq, and_self, ok1, M.k40, M.r40, z41, M.k41, M.n41, isIA, vpT, nI_clamp, nI_add, M.rd, gK_pI, gN_pI, gR_pI, gI_same, gI_diff, u1_eq, u1_ne, s0]
  exact q
theorem d_year2 (h : MB g w hist st kept snap t n) (hB : ∀ k, k < 6 → ssB w k) (h0 : ∀ k, k < 6 → ∀ y, wS w 0 < y → wP w k y = 0) (hy : wS w 0 < 999) (q : ∀ g', MB g' (opYear w) (hcn w hist) (min (st + 1) 4) kept snap t n → FX g g' → Q (some (.int (nI (sm (lkN w) 6)))) g') : w_X7_endYear [.ref 40] g Q := by
  refine wm_at rfl ⟨trivial, trivial⟩ (show WP m_X7_endYear Q 0 [.ref 40, .retAddr 0, .retAddr 0] [] g from ?_)
  obtain ⟨A, pos, M, R, up⟩ := h.at
  generalize A 41 = a at *
  have s0 : a 0 = wS w 0 := R.1.s 0 (by decide) (by decide)
  have hz : (nI (wS w 0) = nI 999) = False := by
    rw [nI_eqE (by omega) (by omega)]
    exact propext ⟨fun z => by omega, fun z => z.elim⟩
  simp (disch := omega) only [e_X7_endYear_0, e_X7_endYear_1, e_X7_endYear_4, e_X7_endYear_5, e_X7_endYear_6, e_X7_endYear_9, e_X7_endYear_15, e_X7_endYear_16, tand, true_and, and_true, nl1_int, nl1_ref, nl1_null, nl1_ra, cat1_int, cat1_ref, cat1_null, stbs_nil, stbs_cons, stb_int, stb_long, stb_ref, stb_null, stb_ra, alv_nil, alv_cons, alv1_int, alv1_ref, alv1_null, alv1_ra, List.length_nil, List.length_cons, Nat.reduceAdd, Nat.reduceLeDiff, Nat.zero_le, Option.toList_some, Option.toList_none, List.cons_append, List.nil_append, or_true, true_or, or_false, false_or, Nat.reduceEqDiff, not_true_eq_false, not_false_eq_true, false_and, and_false, false_implies, true_implies, implies_true, ne_eq, and_self, ok1, M.k40, M.r40, z41, M.k41, M.n41, isIA, vpT, nI_clamp, nI_add, M.rd, gK_pI, gN_pI, gR_pI, gI_same, gI_diff, u1_eq, u1_ne, s0, hz]
  refine d_record h fun g1 hM F1 => ?_
  obtain ⟨A1, pos1, M1, R1, up1⟩ := hM.at
  simp only [e_X7_endYear_19, e_X7_endYear_20, e_X7_endYear_21, e_X7_endYear_22, tand, true_and, and_true, nl1_int, nl1_ref, nl1_null, nl1_ra, cat1_int, cat1_ref, cat1_null, stbs_nil, stbs_cons, stb_int, stb_long, stb_ref, stb_null, stb_ra, alv_nil, alv_cons, alv1_int, alv1_ref, alv1_null, alv1_ra, List.length_nil, List.length_cons, Nat.reduceAdd, Nat.reduceLeDiff, Nat.zero_le, Option.toList_some, Option.toList_none, List.cons_append, List.nil_append, or_true, true_or, or_false, false_or, Nat.reduceEqDiff, not_true_eq_false, not_false_eq_true, false_and, and_false, false_implies, true_implies, implies_true, ne_eq, and_self, ok1]
  refine year_loopM hB (by omega) h0 (fun g2 a2 M2 R2 => ?_) 6 0 (Nat.zero_add _) M1 R1
  obtain ⟨r1, r2⟩ := up1 _ _ _ M2 R2.n
  exact q g2 r1 (F1.tr r2)
end Mye
