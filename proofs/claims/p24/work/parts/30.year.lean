/-! ===== what a town does: years, reserve ===== -/
theorem lN_ltE {a b : Nat} (ha : a < 2 ^ 62) (hb : b < 2 ^ 62) : (lN a < lN b) = (a < b) := by
  have h : ∀ n, n < 2 ^ 62 → (lN n).toInt = (n : Int) := fun n hn => lg_ofNat_toInt (by omega)
  rw [Int64.lt_iff_toInt_lt, h a ha, h b hb]
  exact propext (by omega)
theorem lN_min {a b : Nat} (ha : a < 2 ^ 62) (hb : b < 2 ^ 62) : (if lN b < lN a then lN b else lN a) = lN (min a b) := by
  simp only [lN_ltE hb ha]
  by_cases h : b < a
  · rw [if_pos h, Nat.min_eq_right (by omega)]
  · rw [if_neg h, Nat.min_eq_left (by omega)]
def opIss (w : Rw) (k n : Nat) : Rw := sS (sP (sK w k 6 (wK w k 6 - min (wK w k 6) n)) k (rad (wP w k) (wS w 0) (n - min (wK w k 6) n))) 1 (wS w 1 + (n - min (wK w k 6) n))
def opSell (w : Rw) (k n : Nat) : Rw := sS (sS (sS (sP (sK w k 0 (wK w k 0 - n * wS w 12)) k (rad (wP w k) (wS w 0) n)) 10 (wS w 10 + n * wS w 12)) 4 (wS w 4 - n)) 5 (wS w 5 + n)
section Yea
variable {T : Nat} {w : Rw} {Q : mQ} {g : mG}
theorem CG.addP {X : Nat → Prop} {g' : mG} {k y n : Nat} (C : CG X g g' T w) (hX : ∀ b, XP (T + 5 + 3 * k) b → X b) (hT : isT T) (hk : k < 6) (hS : Scr g') (hy : y < 1000) (hn : n < 2 ^ 30) (q : ∀ g2, CG X g g2 T (sP w k (rad (wP w k) y n)) → Q none g2) : w_X4_add [.ref (T + 5 + 3 * k), .int (nI y), .int (nI n)] g' Q := by
  obtain ⟨yn, hP⟩ := (C.2.2.2.2.2.1 k hk).2
  refine c_add hS (isP_k hT hk) C.2.1 hP hy hn fun g2 yn' f j p => q g2 ⟨C.1.tr (f.up hX), j, C.2.2.setP hT.big hk f ⟨_, p⟩⟩
theorem XP_k {k : Nat} (hk : k < 6) : ∀ b, XP (T + 5 + 3 * k) b → XT T b := fun b hb => by
  rcases hb with hb | hb | hb
  · exact XT_in (by omega) (by omega)
  · exact XT_in (by omega) (by omega)
  · exact Or.inl hb
theorem XP_o {k : Nat} (hk : k < 17) : ∀ b, XP (T + 23 + 3 * k) b → XT T b := fun b hb => by
  rcases hb with hb | hb | hb
  · exact XT_in (by omega) (by omega)
  · exact XT_in (by omega) (by omega)
  · exact Or.inl hb
theorem c_issueTo {k n : Nat} (hT : isT T) (h : TRw g T w) (hB : TB w) (hy : wS w 0 < 1000) (hk : k < 6) (hn : n < 2 ^ 28) (hS : Scr g) (hJ : JR g) (q : ∀ g', CG (XT T) g g' T (opIss w k n) → Q (some (.int (nI (n - min (wK w k 6) n)))) g') : w_X5_issueTo [.ref T, .ref (T + 4 + 3 * k), .int (nI n)] g Q := by
  refine wm_at rfl ⟨trivial, trivial, trivial, trivial⟩ (show WP m_X5_issueTo Q 0 [.ref T, .ref (T + 4 + 3 * k), .int (nI n), .retAddr 0, .retAddr 0] [] g from ?_)
  obtain ⟨⟨o1, o2⟩, ⟨o3, o4⟩, o5⟩ := h.k hk
  obtain ⟨⟨a1, a2, a3, a4⟩, ⟨b1, b2⟩, ⟨c1, c2⟩, ⟨d1, d2⟩⟩ := h.pl
  have f6 := (hB.2.1 k hk).1 6 (by decide)
  have z : T + 5 + 3 * k ≠ 0 := by omega
  have zx : T ≠ T + 4 + 3 * k := by omega
  have m1 : min (wK w k 6) n ≤ n := Nat.min_le_right _ _
  have m2 : min (wK w k 6) n ≤ wK w k 6 := Nat.min_le_left _ _
  simp (disch := omega) only [e_X5_issueTo_0, e_X5_issueTo_0n, e_X5_issueTo_1, e_X5_issueTo_4, e_X5_issueTo_5, e_X5_issueTo_8, e_X5_issueTo_9, e_X5_issueTo_10, e_X5_issueTo_11, e_X5_issueTo_12, e_X5_issueTo_14, e_X5_issueTo_14n, e_X5_issueTo_15, e_X5_issueTo_16, e_X5_issueTo_19, e_X5_issueTo_20, e_X5_issueTo_21, e_X5_issueTo_24, e_X5_issueTo_24n, e_X5_issueTo_25, e_X5_issueTo_28, e_X5_issueTo_29, e_X5_issueTo_32, e_X5_issueTo_34, tand, true_and, and_true, nl1_int, nl1_ref, nl1_null, nl1_ra, cat1_int, cat1_ref, cat1_null, stbs_nil, stbs_cons, stb_int, stb_long, stb_ref, stb_null, stb_ra, alv_nil, alv_cons, alv1_int, alv1_ref, alv1_null, alv1_ra, List.length_nil, List.length_cons, Nat.reduceAdd, Nat.reduceLeDiff, Nat.zero_le, Option.toList_some, Option.toList_none, List.cons_append, List.nil_append, or_true, true_or, or_false, false_or, Nat.reduceEqDiff, not_true_eq_false, not_false_eq_true, false_and, and_false, false_implies, true_implies, implies_true, ne_eq, and_self, ok1, a1, o1, o2, o3, o5 6 (by decide), nI_min, pk_sub m1, pk_sub m2, gK_pI, gR_pI, gI_pI_ne zx, z, h.2.1 0 (by decide)]
  have C := (CG.rf (X := XT T) hJ h).setK hT.big hk (XT_in (by omega) (by omega)) 6 (wK w k 6 - min (wK w k 6) n)
  refine C.addP (XP_k hk) hT hk (hS.fr C.1) hy (by omega) fun g2 C2 => ?_
  have t1 := C2.2.2.pl.1.1
  have s1 := C2.2.2.2.1 1 (by decide)
  simp only [e_X5_issueTo_37, e_X5_issueTo_38, e_X5_issueTo_39, e_X5_issueTo_42, e_X5_issueTo_44, e_X5_issueTo_45, e_X5_issueTo_48, e_X5_issueTo_50, tand, true_and, and_true, nl1_int, nl1_ref, nl1_null, nl1_ra, cat1_int, cat1_ref, cat1_null, stbs_nil, stbs_cons, stb_int, stb_long, stb_ref, stb_null, stb_ra, alv_nil, alv_cons, alv1_int, alv1_ref, alv1_null, alv1_ra, List.length_nil, List.length_cons, Nat.reduceAdd, Nat.reduceLeDiff, Nat.zero_le, Option.toList_some, Option.toList_none, List.cons_append, List.nil_append, or_true, true_or, or_false, false_or, Nat.reduceEqDiff, not_true_eq_false, not_false_eq_true, false_and, and_false, false_implies, true_implies, implies_true, ne_eq, and_self, ok1, t1, s1, nI_add]
  exact q _ (C2.setS hT.big (XT_in (by omega) (by omega)) 1 _ (by decide))
theorem c_sellReserve {k n : Nat} (hT : isT T) (h : TRw g T w) (hy : wS w 0 < 1000) (hk : k < 6) (hn : n < 2 ^ 28) (hc : n * wS w 12 ≤ wK w k 0) (hr : n ≤ wS w 4) (hS : Scr g) (hJ : JR g) (q : ∀ g', CG (XT T) g g' T (opSell w k n) → Q none g') : w_X5_sellReserve [.ref T, .ref (T + 4 + 3 * k), .int (nI n)] g Q := by
  refine wm_at rfl ⟨trivial, trivial, trivial, trivial⟩ (show WP m_X5_sellReserve Q 0 [.ref T, .ref (T + 4 + 3 * k), .int (nI n), .retAddr 0] [] g from ?_)
  obtain ⟨⟨o1, o2⟩, ⟨o3, o4⟩, o5⟩ := h.k hk
  obtain ⟨⟨a1, a2, a3, a4⟩, ⟨b1, b2⟩, ⟨c1, c2⟩, ⟨d1, d2⟩⟩ := h.pl
  have z : T + 5 + 3 * k ≠ 0 := by omega
  have z1 : T + 1 ≠ 0 := by omega
  have zx : T ≠ T + 4 + 3 * k := by omega
  have l1 : (1 < 5) = True := propext ⟨fun _ => trivial, fun _ => by decide⟩
  simp (disch := omega) only [e_X5_sellReserve_0, e_X5_sellReserve_1, e_X5_sellReserve_2, e_X5_sellReserve_5, e_X5_sellReserve_6, e_X5_sellReserve_7, e_X5_sellReserve_8, e_X5_sellReserve_9, e_X5_sellReserve_9n, e_X5_sellReserve_10, e_X5_sellReserve_11, e_X5_sellReserve_14, e_X5_sellReserve_15, e_X5_sellReserve_16, e_X5_sellReserve_19, e_X5_sellReserve_19n, e_X5_sellReserve_20, e_X5_sellReserve_23, e_X5_sellReserve_24, e_X5_sellReserve_27, e_X5_sellReserve_28, tand, true_and, and_true, nl1_int, nl1_ref, nl1_null, nl1_ra, cat1_int, cat1_ref, cat1_null, stbs_nil, stbs_cons, stb_int, stb_long, stb_ref, stb_null, stb_ra, alv_nil, alv_cons, alv1_int, alv1_ref, alv1_null, alv1_ra, List.length_nil, List.length_cons, Nat.reduceAdd, Nat.reduceLeDiff, Nat.zero_le, Option.toList_some, Option.toList_none, List.cons_append, List.nil_append, or_true, true_or, or_false, false_or, Nat.reduceEqDiff, not_true_eq_false, not_false_eq_true, false_and, and_false, false_implies, true_implies, implies_true, ne_eq, and_self, ok1, a1, a2, b1, b2, isIA, nI_vp, nI_clamp, l1, h.2.2.1 1 (by decide), pk_mul, o1, o2, o3, o5 0 (by decide), pk_sub hc, gK_pI, gR_pI, gI_pI_ne zx, z, z1, h.2.1 0 (by decide)]
  have C := (CG.rf (X := XT T) hJ h).setK hT.big hk (XT_in (by omega) (by omega)) 0 (wK w k 0 - n * wS w 12)
  refine C.addP (XP_k hk) hT hk (hS.fr C.1) hy (by omega) fun g2 C2 => ?_
  have t1 := C2.2.2.pl.1.1
  have s := C2.2.2.2.1
  have e4 : wS (sP (sK w k 0 (wK w k 0 - n * wS w 12)) k (rad (wP (sK w k 0 (wK w k 0 - n * wS w 12)) k) (wS w 0) n)) 4 = wS w 4 := rfl
  simp only [e_X5_sellReserve_31, e_X5_sellReserve_32, e_X5_sellReserve_33, e_X5_sellReserve_36, e_X5_sellReserve_37, e_X5_sellReserve_38, e_X5_sellReserve_41, e_X5_sellReserve_42, e_X5_sellReserve_43, e_X5_sellReserve_46, e_X5_sellReserve_47, e_X5_sellReserve_48, e_X5_sellReserve_51, e_X5_sellReserve_52, e_X5_sellReserve_53, e_X5_sellReserve_56, e_X5_sellReserve_57, e_X5_sellReserve_58, e_X5_sellReserve_61, tand, true_and, and_true, nl1_int, nl1_ref, nl1_null, nl1_ra, cat1_int, cat1_ref, cat1_null, stbs_nil, stbs_cons, stb_int, stb_long, stb_ref, stb_null, stb_ra, alv_nil, alv_cons, alv1_int, alv1_ref, alv1_null, alv1_ra, List.length_nil, List.length_cons, Nat.reduceAdd, Nat.reduceLeDiff, Nat.zero_le, Option.toList_some, Option.toList_none, List.cons_append, List.nil_append, or_true, true_or, or_false, false_or, Nat.reduceEqDiff, not_true_eq_false, not_false_eq_true, false_and, and_false, false_implies, true_implies, implies_true, ne_eq, and_self, ok1, t1, s 10 (by decide), s 4 (by decide), s 5 (by decide), nI_add, gK_pI, gI_pI_eq, Nat.reduceEqDiff, if_false, e4, pk_sub hr]
  exact q _ (((C2.setS hT.big (XT_in (by omega) (by omega)) 10 _ (by decide)).setS hT.big (XT_in (by omega) (by omega)) 4 _ (by decide)).setS hT.big (XT_in (by omega) (by omega)) 5 _ (by decide))
def ssB (w : Rw) (k : Nat) : Prop := (∀ f, f < 7 → wK w k f < 2 ^ 28) ∧ rt (wP w k) < 2 ^ 28 ∧ wS w 12 < 2 ^ 29 ∧ wK w k 3 * (100 + wS w 14) + 99 < 2 ^ 31
def duN (w : Rw) (k : Nat) : Nat := wK w k 2 + wK w k 4 + wK w k 5
def obN (w : Rw) (k : Nat) : Nat := min (wK w k 3) (duN w k)
def ooN (w : Rw) (k : Nat) : Nat := min (rt (wP w k)) (duN w k - obN w k)
def lkN (w : Rw) (k : Nat) : Nat := duN w k - obN w k - ooN w k
def coN (w : Rw) (k : Nat) : Nat := min (wK w k 0) (lkN w k * wS w 12)
def wiN (w : Rw) (b : Nat) : Nat := (b * (100 + wS w 14) + 99) / 100
def stl (w : Rw) (k : Nat) : Rw :=
  sS (sS (sS (sK (sK (sK (sK (sK (sK (sK (sP w k (rsu (wP w k) (ooN w k))) k 0 (wK w k 0 - coN w k)) k 6 (wK w k 6 + wiN w (wK w k 3))) k 5 (lkN w k)) k 1 0) k 2 0) k 3 0) k 4 0) 3 (wS w 3 + obN w k)) 2 (wS w 2 + ooN w k)) 9 (wS w 9 + coN w k)
theorem c_withInterest {b : Nat} (h : TRw g T w) (hb : b * (100 + wS w 14) + 99 < 2 ^ 31) (q : Q (some (.int (nI (wiN w b)))) g) : w_X5_withInterest [.ref T, .int (nI b)] g Q := by
  refine wm_at rfl ⟨trivial, trivial, trivial⟩ (show WP m_X5_withInterest Q 0 [.ref T, .int (nI b)] [] g from ?_)
  obtain ⟨⟨a1, a2, a3, a4⟩, ⟨b1, b2⟩, ⟨c1, c2⟩, ⟨d1, d2⟩⟩ := h.pl
  have z1 : T + 1 ≠ 0 := by omega
  have l1 : (3 < 5) = True := propext ⟨fun _ => trivial, fun _ => by decide⟩
  have n1 : (nI 100 = 0) = False := by simp [show nI 100 ≠ 0 by decide]
  have s3 : gI g (T + 1) 3 = nI (wS w 14) := h.2.2.1 3 (by decide)
  simp (disch := omega) only [e_X5_withInterest_0, e_X5_withInterest_1, e_X5_withInterest_3, e_X5_withInterest_4, e_X5_withInterest_7, e_X5_withInterest_8, e_X5_withInterest_9, e_X5_withInterest_10, e_X5_withInterest_11, e_X5_withInterest_13, e_X5_withInterest_14, e_X5_withInterest_16, e_X5_withInterest_17, tand, true_and, and_true, nl1_int, nl1_ref, nl1_null, nl1_ra, cat1_int, cat1_ref, cat1_null, stbs_nil, stbs_cons, stb_int, stb_long, stb_ref, stb_null, stb_ra, alv_nil, alv_cons, alv1_int, alv1_ref, alv1_null, alv1_ra, List.length_nil, List.length_cons, Nat.reduceAdd, Nat.reduceLeDiff, Nat.zero_le, Option.toList_some, Option.toList_none, List.cons_append, List.nil_append, or_true, true_or, or_false, false_or, Nat.reduceEqDiff, not_true_eq_false, not_false_eq_true, false_and, and_false, false_implies, true_implies, implies_true, ne_eq, and_self, ok1, a1, a2, b1, b2, isIA, nI_vp, nI_clamp, l1, s3, z1, nI_add, pk_mul, n1, pk_div]
  exact q
theorem c_settle {k : Nat} (hT : isT T) (h : TRw g T w) (hk : k < 6) (hB : ssB w k) (hS : Scr g) (hJ : JR g) (q : ∀ g', CG (XT T) g g' T (stl w k) → Q (some (.int (nI (lkN w k)))) g') : w_X5_settle [.ref T, .ref (T + 4 + 3 * k)] g Q := by
  refine wm_at rfl ⟨trivial, trivial, trivial⟩ (show WP m_X5_settle Q 0 [.ref T, .ref (T + 4 + 3 * k), .retAddr 0, .retAddr 0, .retAddr 0, .retAddr 0, .retAddr 0] [] g from ?_)
  obtain ⟨⟨o1, o2⟩, ⟨o3, o4⟩, o5⟩ := h.k hk
  obtain ⟨⟨a1, a2, a3, a4⟩, ⟨b1, b2⟩, ⟨c1, c2⟩, ⟨d1, d2⟩⟩ := h.pl
  obtain ⟨hB1, hB2, hB3, hB4⟩ := hB
  have f0 := hB1 0 (by decide)
  have f2 := hB1 2 (by decide)
  have f3 := hB1 3 (by decide)
  have f4 := hB1 4 (by decide)
  have f5 := hB1 5 (by decide)
  have z : T + 5 + 3 * k ≠ 0 := by omega
  have z1 : T + 1 ≠ 0 := by omega
  have l1 : (1 < 5) = True := propext ⟨fun _ => trivial, fun _ => by decide⟩
  have s1 : gI g (T + 1) 1 = nI (wS w 12) := h.2.2.1 1 (by decide)
  simp (disch := omega) only [e_X5_settle_0, e_X5_settle_0n, e_X5_settle_1, tand, true_and, and_true, nl1_int, nl1_ref, nl1_null, nl1_ra, cat1_int, cat1_ref, cat1_null, stbs_nil, stbs_cons, stb_int, stb_long, stb_ref, stb_null, stb_ra, alv_nil, alv_cons, alv1_int, alv1_ref, alv1_null, alv1_ra, List.length_nil, List.length_cons, Nat.reduceAdd, Nat.reduceLeDiff, Nat.zero_le, Option.toList_some, Option.toList_none, List.cons_append, List.nil_append, or_true, true_or, or_false, false_or, Nat.reduceEqDiff, not_true_eq_false, not_false_eq_true, false_and, and_false, false_implies, true_implies, implies_true, ne_eq, and_self, ok1, a1, o1]
  refine c_due h hk ?_
  have hdu : duN w k < 2 ^ 30 := by unfold duN; omega
  have e1 : min (wK w k 3) (duN w k) = obN w k := rfl
  have hob : obN w k ≤ duN w k := Nat.min_le_right _ _
  have e2 : min (rt (wP w k)) (duN w k - obN w k) = ooN w k := rfl
  have hoo : ooN w k ≤ duN w k - obN w k := Nat.min_le_right _ _
  have hoo2 : ooN w k ≤ rt (wP w k) := Nat.min_le_left _ _
  have e3 : duN w k - obN w k - ooN w k = lkN w k := rfl
  have hlk : lkN w k ≤ duN w k := by unfold lkN; omega
  have hmul : lkN w k * wS w 12 < 2 ^ 62 := by
    have := Nat.mul_le_mul (show lkN w k ≤ 2 ^ 30 by omega) (show wS w 12 ≤ 2 ^ 29 by omega)
    omega
  have e4 : min (wK w k 0) (lkN w k * wS w 12) = coN w k := rfl
  have hco : coN w k ≤ wK w k 0 := Nat.min_le_left _ _
  have e5 : wK w k 2 + wK w k 4 + wK w k 5 = duN w k := rfl
  rw [e5]
  simp (disch := omega) only [e_X5_settle_4, e_X5_settle_5, e_X5_settle_5n, e_X5_settle_6, e_X5_settle_9, e_X5_settle_10, e_X5_settle_13, e_X5_settle_14, e_X5_settle_14n, e_X5_settle_15, e_X5_settle_18, e_X5_settle_21, e_X5_settle_22, e_X5_settle_23, e_X5_settle_24, e_X5_settle_27, e_X5_settle_29, e_X5_settle_30, e_X5_settle_31, e_X5_settle_32, e_X5_settle_34, e_X5_settle_35, e_X5_settle_37, e_X5_settle_37n, e_X5_settle_38, e_X5_settle_41, e_X5_settle_42, e_X5_settle_44, e_X5_settle_45, e_X5_settle_46, e_X5_settle_49, e_X5_settle_50, e_X5_settle_51, e_X5_settle_52, e_X5_settle_53, e_X5_settle_56, e_X5_settle_57, e_X5_settle_59, e_X5_settle_59n, e_X5_settle_60, e_X5_settle_63, e_X5_settle_65, tand, true_and, and_true, nl1_int, nl1_ref, nl1_null, nl1_ra, cat1_int, cat1_ref, cat1_null, stbs_nil, stbs_cons, stb_int, stb_long, stb_ref, stb_null, stb_ra, alv_nil, alv_cons, alv1_int, alv1_ref, alv1_null, alv1_ra, List.length_nil, List.length_cons, Nat.reduceAdd, Nat.reduceLeDiff, Nat.zero_le, Option.toList_some, Option.toList_none, List.cons_append, List.nil_append, or_true, true_or, or_false, false_or, Nat.reduceEqDiff, not_true_eq_false, not_false_eq_true, false_and, and_false, false_implies, true_implies, implies_true, ne_eq, and_self, ok1, a1, a2, b1, b2, isIA, nI_vp, nI_clamp, l1, s1, z1, z, o1, o2, o3, o4, o5 3 (by decide), o5 0 (by decide), nI_min, e1, pk_sub hob, e2, pk_sub hoo, e3, nI_l, lN_mul, lN_min, e4, lN_i]
  obtain ⟨yn, hP⟩ := (h.2.2.2.1 k hk).2
  refine c_dropOldest (isP_k hT hk) hoo2 (by omega) hJ hP fun g1 yn1 F1 j1 _ _ _ p1 => ?_
  have C1 : CG (XT T) g g1 T (sP w k (rsu (wP w k) (ooN w k))) := ⟨F1.up (XP_k hk), j1, h.setP hT.big hk F1 ⟨_, p1⟩⟩
  obtain ⟨⟨p1, p2⟩, _, p5⟩ := C1.2.2.k hk
  have k0 : gI g1 (T + 4 + 3 * k) 0 = nI (wK w k 0) := p5 0 (by decide)
  have k6 : gI g1 (T + 4 + 3 * k) 6 = nI (wK w k 6) := p5 6 (by decide)
  have k3 : gI g1 (T + 4 + 3 * k) 3 = nI (wK w k 3) := p5 3 (by decide)
  have t1 := C1.2.2.pl.1.1
  have C2 := C1.setK hT.big hk (XT_in (by omega) (by omega)) 0 (wK w k 0 - coN w k)
  simp (disch := omega) only [e_X5_settle_68, e_X5_settle_68n, e_X5_settle_69, e_X5_settle_70, e_X5_settle_73, e_X5_settle_75, e_X5_settle_76, e_X5_settle_79, e_X5_settle_79n, e_X5_settle_80, e_X5_settle_81, e_X5_settle_84, e_X5_settle_85, e_X5_settle_85n, e_X5_settle_86, e_X5_settle_89, tand, true_and, and_true, nl1_int, nl1_ref, nl1_null, nl1_ra, cat1_int, cat1_ref, cat1_null, stbs_nil, stbs_cons, stb_int, stb_long, stb_ref, stb_null, stb_ra, alv_nil, alv_cons, alv1_int, alv1_ref, alv1_null, alv1_ra, List.length_nil, List.length_cons, Nat.reduceAdd, Nat.reduceLeDiff, Nat.zero_le, Option.toList_some, Option.toList_none, List.cons_append, List.nil_append, or_true, true_or, or_false, false_or, Nat.reduceEqDiff, not_true_eq_false, not_false_eq_true, false_and, and_false, false_implies, true_implies, implies_true, ne_eq, and_self, ok1, p1, k0, pk_sub hco, gK_pI, gI_pI_eq, Nat.reduceEqDiff, if_false, k6, k3, t1]
  refine c_withInterest C2.2.2 hB4 ?_
  have C3 := C2.setK hT.big hk (XT_in (by omega) (by omega)) 6 (wK w k 6 + wiN w (wK w k 3))
  simp (disch := omega) only [e_X5_settle_92, e_X5_settle_93, e_X5_settle_96, e_X5_settle_96n, e_X5_settle_97, e_X5_settle_99, tand, true_and, and_true, nl1_int, nl1_ref, nl1_null, nl1_ra, cat1_int, cat1_ref, cat1_null, stbs_nil, stbs_cons, stb_int, stb_long, stb_ref, stb_null, stb_ra, alv_nil, alv_cons, alv1_int, alv1_ref, alv1_null, alv1_ra, List.length_nil, List.length_cons, Nat.reduceAdd, Nat.reduceLeDiff, Nat.zero_le, Option.toList_some, Option.toList_none, List.cons_append, List.nil_append, or_true, true_or, or_false, false_or, Nat.reduceEqDiff, not_true_eq_false, not_false_eq_true, false_and, and_false, false_implies, true_implies, implies_true, ne_eq, and_self, ok1, p1, gK_pI, nI_add, t1]
  refine c_startYear C3.2.2 hT.big hk C3.2.1 fun g4 C4' => ?_
  have C4 := C3.tr C4' fun _ z => z
  have t4 := C4.2.2.pl.1.1
  have s4 := C4.2.2.2.1
  have s43 : gI g4 T 3 = nI (wS w 3) := s4 3 (by decide)
  have s42 : gI g4 T 2 = nI (wS w 2) := s4 2 (by decide)
  have s49 : gI g4 T 9 = nI (wS w 9) := s4 9 (by decide)
  simp (disch := omega) only [e_X5_settle_102, e_X5_settle_103, e_X5_settle_104, e_X5_settle_107, e_X5_settle_108, e_X5_settle_109, e_X5_settle_112, e_X5_settle_113, e_X5_settle_114, e_X5_settle_117, e_X5_settle_119, e_X5_settle_120, e_X5_settle_123, e_X5_settle_124, e_X5_settle_125, e_X5_settle_128, e_X5_settle_130, e_X5_settle_131, e_X5_settle_134, e_X5_settle_136, tand, true_and, and_true, nl1_int, nl1_ref, nl1_null, nl1_ra, cat1_int, cat1_ref, cat1_null, stbs_nil, stbs_cons, stb_int, stb_long, stb_ref, stb_null, stb_ra, alv_nil, alv_cons, alv1_int, alv1_ref, alv1_null, alv1_ra, List.length_nil, List.length_cons, Nat.reduceAdd, Nat.reduceLeDiff, Nat.zero_le, Option.toList_some, Option.toList_none, List.cons_append, List.nil_append, or_true, true_or, or_false, false_or, Nat.reduceEqDiff, not_true_eq_false, not_false_eq_true, false_and, and_false, false_implies, true_implies, implies_true, ne_eq, and_self, ok1, t4, s43, s42, s49, gK_pI, gI_pI_eq, Nat.reduceEqDiff, if_false, nI_add]
  exact q _ (((C4.setS hT.big (XT_in (by omega) (by omega)) 3 (wS w 3 + obN w k) (by decide)).setS hT.big (XT_in (by omega) (by omega)) 2 (wS w 2 + ooN w k) (by decide)).setS hT.big (XT_in (by omega) (by omega)) 9 (wS w 9 + coN w k) (by decide))
/-- the first n kilns settled -/
def stlN (w : Rw) : Nat → Rw
  | 0 => w
  | n + 1 => stl (stlN w n) n
theorem stl_K {k a f : Nat} (h : a ≠ k) : wK (stl w k) a f = wK w a f := by
  show u2 (u2 (u2 (u2 (u2 (u2 (u2 w.2.1 k 0 _) k 6 _) k 5 _) k 1 _) k 2 _) k 3 _) k 4 _ a f = _
  simp only [u2_ne h]
  rfl
theorem stl_P {k a : Nat} (h : a ≠ k) : wP (stl w k) a = wP w a := ur_ne h
theorem stl_S {k j : Nat} (h : j ≠ 3) (h2 : j ≠ 2) (h9 : j ≠ 9) : wS (stl w k) j = wS w j := by
  show u1 (u1 (u1 w.1 3 _) 2 _) 9 _ j = _
  rw [u1_ne h9, u1_ne h2, u1_ne h]
  rfl
theorem stlN_K {a f : Nat} : ∀ n, n ≤ a → wK (stlN w n) a f = wK w a f
  | 0, _ => rfl
  | n + 1, h => (stl_K (by omega)).trans (stlN_K n (by omega))
theorem stlN_P {a : Nat} : ∀ n, n ≤ a → wP (stlN w n) a = wP w a
  | 0, _ => rfl
  | n + 1, h => (stl_P (by omega)).trans (stlN_P n (by omega))
theorem stlN_S {j : Nat} (h : j ≠ 3) (h2 : j ≠ 2) (h9 : j ≠ 9) : ∀ n, wS (stlN w n) j = wS w j
  | 0 => rfl
  | n + 1 => (stl_S h h2 h9).trans (stlN_S h h2 h9 n)
theorem stlN_lk {k : Nat} : lkN (stlN w k) k = lkN w k := by
  have e : ∀ f, wK (stlN w k) k f = wK w k f := fun f => stlN_K k (Nat.le_refl _)
  have p : wP (stlN w k) k = wP w k := stlN_P k (Nat.le_refl _)
  unfold lkN ooN obN duN
  rw [e, e, e, e, p]
theorem stlN_B {k : Nat} (h : ssB w k) : ssB (stlN w k) k := by
  have e : ∀ f, wK (stlN w k) k f = wK w k f := fun f => stlN_K k (Nat.le_refl _)
  have p : wP (stlN w k) k = wP w k := stlN_P k (Nat.le_refl _)
  unfold ssB at h ⊢
  rw [p, stlN_S (by decide) (by decide) (by decide), stlN_S (by decide) (by decide) (by decide), e]
  exact ⟨fun f hf => by rw [e]; exact h.1 f hf, h.2⟩
def opYear (w : Rw) : Rw := sS (stlN w 6) 0 (wS w 0 + 1)
theorem year_loop {g0 : mG} (hT : isT T) (hB : ∀ k, k < 6 → ssB w k) (q : ∀ g', CG (XT T) g0 g' T (opYear w) → Q (some (.int (nI (sm (lkN w) 6)))) g') : ∀ (k i : Nat) {g : mG} {l5 : Value}, i + k = 6 → stb g l5 = True → Scr g → CG (XT T) g0 g T (stlN w i) → WP m_X5_closeYear Q 13 [.ref T, .int (nI (sm (lkN w) i)), .ref (T + 2), .int (nI 6), .int (nI i), l5] [] g := by
  intro k
  induction k with
  | zero =>
    intro i g l5 hi hl5 hS C
    have hi2 : i = 6 := by omega
    subst hi2
    have s0 := C.2.2.2.1 0 (by decide)
    rw [stlN_S (by decide) (by decide) (by decide)] at s0
    simp (disch := omega) only [e_X5_closeYear_13, e_X5_closeYear_15, e_X5_closeYear_16, e_X5_closeYear_40, e_X5_closeYear_41, e_X5_closeYear_42, e_X5_closeYear_45, e_X5_closeYear_46, e_X5_closeYear_47, e_X5_closeYear_50, e_X5_closeYear_51, tand, true_and, and_true, nl1_int, nl1_ref, nl1_null, nl1_ra, cat1_int, cat1_ref, cat1_null, stbs_nil, stbs_cons, stb_int, stb_long, stb_ref, stb_null, stb_ra, alv_nil, alv_cons, alv1_int, alv1_ref, alv1_null, alv1_ra, List.length_nil, List.length_cons, Nat.reduceAdd, Nat.reduceLeDiff, Nat.zero_le, Option.toList_some, Option.toList_none, List.cons_append, List.nil_append, or_true, true_or, or_false, false_or, Nat.reduceEqDiff, not_true_eq_false, not_false_eq_true, false_and, and_false, false_implies, true_implies, implies_true, ne_eq, and_self, ok1, nI_leE, C.2.2.pl.1.1, s0, nI_add]
    exact q _ (C.setS hT.big (XT_in (by omega) (by omega)) 0 (wS w 0 + 1) (by decide))
  | succ k ih =>
    intro i g l5 hi hl5 hS C
    have hlt : i < 6 := by omega
    have hlt2 : ¬ 6 ≤ i := by omega
    obtain ⟨⟨a1, a2, a3, a4⟩, ⟨b1, b2⟩, ⟨c1, c2⟩, ⟨d1, d2⟩⟩ := C.2.2.pl
    have z3 : T + 4 + 3 * i ≠ 0 := by omega
    have o1 := (C.2.2.k hlt).1.1
    simp (disch := omega) only [e_X5_closeYear_13, e_X5_closeYear_15, e_X5_closeYear_16, e_X5_closeYear_19, e_X5_closeYear_19n, e_X5_closeYear_20, e_X5_closeYear_22, e_X5_closeYear_23, e_X5_closeYear_23n, e_X5_closeYear_25, e_X5_closeYear_26, e_X5_closeYear_27, e_X5_closeYear_27n, e_X5_closeYear_29, tand, true_and, and_true, nl1_int, nl1_ref, nl1_null, nl1_ra, cat1_int, cat1_ref, cat1_null, stbs_nil, stbs_cons, stb_int, stb_long, stb_ref, stb_null, stb_ra, alv_nil, alv_cons, alv1_int, alv1_ref, alv1_null, alv1_ra, List.length_nil, List.length_cons, Nat.reduceAdd, Nat.reduceLeDiff, Nat.zero_le, Option.toList_some, Option.toList_none, List.cons_append, List.nil_append, or_true, true_or, or_false, false_or, Nat.reduceEqDiff, not_true_eq_false, not_false_eq_true, false_and, and_false, false_implies, true_implies, implies_true, ne_eq, and_self, ok1, a1, c1, c2, nI_leE, hlt2, z3, nI_vp, nI_clamp, hlt, C.2.2.rk hlt, o1, hl5]
    refine c_settle hT C.2.2 hlt (stlN_B (hB i hlt)) hS C.2.1 fun g1 C1 => ?_
    rw [stlN_lk]
    simp only [e_X5_closeYear_32, e_X5_closeYear_33, e_X5_closeYear_34, e_X5_closeYear_37, tand, true_and, and_true, nl1_int, nl1_ref, nl1_null, nl1_ra, cat1_int, cat1_ref, cat1_null, stbs_nil, stbs_cons, stb_int, stb_long, stb_ref, stb_null, stb_ra, alv_nil, alv_cons, alv1_int, alv1_ref, alv1_null, alv1_ra, List.length_nil, List.length_cons, Nat.reduceAdd, Nat.reduceLeDiff, Nat.zero_le, Option.toList_some, Option.toList_none, List.cons_append, List.nil_append, or_true, true_or, or_false, false_or, Nat.reduceEqDiff, not_true_eq_false, not_false_eq_true, false_and, and_false, false_implies, true_implies, implies_true, ne_eq, and_self, ok1, nI_add]
    exact ih (i + 1) (by omega) (stb_k ((C1.1.1 _).trans o1) (by decide) (by decide)) (hS.fr C1.1) (C.tr C1 fun _ z => z)
theorem c_closeYear (hT : isT T) (h : TRw g T w) (hB : ∀ k, k < 6 → ssB w k) (hS : Scr g) (hJ : JR g) (q : ∀ g', CG (XT T) g g' T (opYear w) → Q (some (.int (nI (sm (lkN w) 6)))) g') : w_X5_closeYear [.ref T] g Q := by
  refine wm_at rfl ⟨trivial, trivial⟩ (show WP m_X5_closeYear Q 0 [.ref T, .retAddr 0, .retAddr 0, .retAddr 0, .retAddr 0, .retAddr 0] [] g from ?_)
  obtain ⟨⟨a1, a2, a3, a4⟩, ⟨b1, b2⟩, ⟨c1, c2⟩, ⟨d1, d2⟩⟩ := h.pl
  have z : T + 2 ≠ 0 := by omega
  simp (disch := omega) only [e_X5_closeYear_0, e_X5_closeYear_1, e_X5_closeYear_2, e_X5_closeYear_3, e_X5_closeYear_6, e_X5_closeYear_6n, e_X5_closeYear_7, e_X5_closeYear_7n, e_X5_closeYear_8, e_X5_closeYear_9, e_X5_closeYear_10, e_X5_closeYear_11, tand, true_and, and_true, nl1_int, nl1_ref, nl1_null, nl1_ra, cat1_int, cat1_ref, cat1_null, stbs_nil, stbs_cons, stb_int, stb_long, stb_ref, stb_null, stb_ra, alv_nil, alv_cons, alv1_int, alv1_ref, alv1_null, alv1_ra, List.length_nil, List.length_cons, Nat.reduceAdd, Nat.reduceLeDiff, Nat.zero_le, Option.toList_some, Option.toList_none, List.cons_append, List.nil_append, or_true, true_or, or_false, false_or, Nat.reduceEqDiff, not_true_eq_false, not_false_eq_true, false_and, and_false, false_implies, true_implies, implies_true, ne_eq, and_self, ok1, a1, a3, c1, c2, z]
  exact year_loop hT hB q 6 0 rfl rfl hS (CG.rf hJ h)
end Yea
