/-! ===== what a town does: the market ===== -/
theorem c_isWithin {v a b : Int32} {g : mG} {Q : mQ} (q1 : a ≤ v → v ≤ b → Q (some (.int (nI 1))) g) (q0 : ¬ (a ≤ v ∧ v ≤ b) → Q (some (.int (nI 0))) g) : w_X6_isWithin [.int v, .int a, .int b] g Q := by
  refine wm_at rfl ⟨trivial, trivial, trivial, trivial⟩ (show WP m_X6_isWithin Q 0 [.int v, .int a, .int b] [] g from ?_)
  simp only [e_X6_isWithin_0, e_X6_isWithin_1, e_X6_isWithin_2, e_X6_isWithin_5, e_X6_isWithin_6, e_X6_isWithin_7, e_X6_isWithin_10, e_X6_isWithin_11, e_X6_isWithin_14, e_X6_isWithin_15, tand, true_and, and_true, nl1_int, nl1_ref, nl1_null, nl1_ra, cat1_int, cat1_ref, cat1_null, stbs_nil, stbs_cons, stb_int, stb_long, stb_ref, stb_null, stb_ra, alv_nil, alv_cons, alv1_int, alv1_ref, alv1_null, alv1_ra, List.length_nil, List.length_cons, Nat.reduceAdd, Nat.reduceLeDiff, Nat.zero_le, Option.toList_some, Option.toList_none, List.cons_append, List.nil_append, or_true, true_or, or_false, false_or, Nat.reduceEqDiff, not_true_eq_false, not_false_eq_true, false_and, and_false, false_implies, true_implies, implies_true, ne_eq, and_self, ok1, bE0, bE1]
  refine ⟨fun h => q0 fun z => Int32.not_le.mpr h z.1, fun h => ⟨fun h2 => q0 fun z => Int32.not_le.mpr h2 z.2, fun h2 => q1 (Int32.not_lt.mp h) (Int32.not_lt.mp h2)⟩⟩
theorem nI_ex {v : Int32} {a b : Nat} (hb : b < 2 ^ 31) (h1 : nI a ≤ v) (h2 : v ≤ nI b) (ha : a < 2 ^ 31) : ∃ n, v = nI n ∧ a ≤ n ∧ n ≤ b := by
  rw [Int32.le_iff_toInt_le, nI_toInt ha] at h1
  rw [Int32.le_iff_toInt_le, nI_toInt hb] at h2
  refine ⟨v.toInt.toNat, ?_, by omega, by omega⟩
  rw [← Int32.toInt_inj, nI_toInt (by omega)]
  omega
def opGive (w : Rw) (i : Nat) : Rw := sF (sO (sP (sK w (wF w i 2) 0 (wK w (wF w i 2) 0 + hbF w i)) (wF w i 2) (rgo (wP w (wF w i 2)) (wO w i) (rt (wO w i)))) i (rsu (wO w i) (rt (wO w i)))) i 3 0
def opTrade (w : Rw) (i j p : Nat) : Rw :=
  let n := min (wF w i 3) (wF w j 3)
  let w1 := sO (sP (sF (sF w i 3 (wF w i 3 - n)) j 3 (wF w j 3 - n)) (wF w i 2) (rgo (wP w (wF w i 2)) (wO w j) n)) j (rsu (wO w j) n)
  let w2 := sK w1 (wF w j 2) 0 (wK w1 (wF w j 2) 0 + n * p)
  sS (sS (sK w2 (wF w i 2) 0 (wK w2 (wF w i 2) 0 + n * (wF w i 4 - p))) 7 (wS w 7 + n)) 8 p
section Trd
variable {T : Nat} {w : Rw} {Q : mQ} {g : mG}
theorem CG.giveOK {g' : mG} {k i m : Nat} (C : CG (XT T) g g' T w) (hT : isT T) (hk : k < 6) (hi : i < 17) (hS : Scr g') (hm : m ≤ rt (wO w i)) (hB : rt (wO w i) < 2 ^ 28) (q : ∀ g2, CG (XT T) g g2 T (sO (sP w k (rgo (wP w k) (wO w i) m)) i (rsu (wO w i) m)) → Q none g2) : w_X4_giveOldest [.ref (T + 23 + 3 * i), .int (nI m), .ref (T + 5 + 3 * k)] g' Q := by
  obtain ⟨yn, hP⟩ := (C.2.2.2.2.2.1 k hk).2
  obtain ⟨yo, hO⟩ := (C.2.2.2.2.2.2 i hi).2.2
  refine c_giveOldest (isP_o hT hi) (isP_k hT hk) ⟨by omega, by omega, by omega⟩ hm (by omega) hS C.2.1 hO hP fun g2 y1 y2 f j p1 p2 => q g2 ⟨C.1.tr (f.up fun b hb => ?_), j, C.2.2.setPO hT.big hk hi f (fun z hz => hz.symm) ⟨_, p2⟩ ⟨_, p1⟩⟩
  rcases hb with hb | hb
  · exact XP_o hi b hb
  · exact XP_k hk b hb
theorem CG.giveKO {g' : mG} {k i m : Nat} (C : CG (XT T) g g' T w) (hT : isT T) (hk : k < 6) (hi : i < 17) (hS : Scr g') (hm : m ≤ rt (wP w k)) (hB : rt (wP w k) < 2 ^ 28) (q : ∀ g2, CG (XT T) g g2 T (sO (sP w k (rsu (wP w k) m)) i (rgo (wO w i) (wP w k) m)) → Q none g2) : w_X4_giveOldest [.ref (T + 5 + 3 * k), .int (nI m), .ref (T + 23 + 3 * i)] g' Q := by
  obtain ⟨yn, hP⟩ := (C.2.2.2.2.2.1 k hk).2
  obtain ⟨yo, hO⟩ := (C.2.2.2.2.2.2 i hi).2.2
  refine c_giveOldest (isP_k hT hk) (isP_o hT hi) ⟨by omega, by omega, by omega⟩ hm (by omega) hS C.2.1 hP hO fun g2 y1 y2 f j p1 p2 => q g2 ⟨C.1.tr (f.up fun b hb => ?_), j, C.2.2.setPO hT.big hk hi f (fun z hz => hz) ⟨_, p1⟩ ⟨_, p2⟩⟩
  rcases hb with hb | hb
  · exact XP_k hk b hb
  · exact XP_o hi b hb
theorem c_kilnAtN {k : Nat} (h : TRw g T w) (hk : k < 6) (q : Q (some (.ref (T + 4 + 3 * k))) g) : w_X5_kilnAt [.ref T, .int (nI k)] g Q := by
  refine c_kilnAt h (fun k' hk' e => ?_) fun hn => absurd rfl (hn k hk)
  rw [nI_eqE (by omega) (by omega)] at e
  rw [← e]; exact q
theorem c_giveBack {i : Nat} (hT : isT T) (h : TRw g T w) (hB : TB w) (hi : i < 17) (hS : Scr g) (hJ : JR g) (q : ∀ g', CG (XT T) g g' T (opGive w i) → Q none g') : w_X5_giveBack [.ref T, .ref (T + 22 + 3 * i)] g Q := by
  refine wm_at rfl ⟨trivial, trivial, trivial⟩ (show WP m_X5_giveBack Q 0 [.ref T, .ref (T + 22 + 3 * i), .retAddr 0] [] g from ?_)
  obtain ⟨⟨o1, o2⟩, ⟨o3, o4⟩, o5⟩ := h.o hi
  obtain ⟨⟨a1, a2, a3, a4⟩, ⟨b1, b2⟩, ⟨c1, c2⟩, ⟨d1, d2⟩⟩ := h.pl
  obtain ⟨hB1, hB2, hk⟩ := hB.2.2 i hi
  simp (disch := omega) only [e_X5_giveBack_0, e_X5_giveBack_1, e_X5_giveBack_1n, e_X5_giveBack_2, e_X5_giveBack_5, tand, true_and, and_true, nl1_int, nl1_ref, nl1_null, nl1_ra, cat1_int, cat1_ref, cat1_null, stbs_nil, stbs_cons, stb_int, stb_long, stb_ref, stb_null, stb_ra, alv_nil, alv_cons, alv1_int, alv1_ref, alv1_null, alv1_ra, List.length_nil, List.length_cons, Nat.reduceAdd, Nat.reduceLeDiff, Nat.zero_le, Option.toList_some, Option.toList_none, List.cons_append, List.nil_append, or_true, true_or, or_false, false_or, Nat.reduceEqDiff, not_true_eq_false, not_false_eq_true, false_and, and_false, false_implies, true_implies, implies_true, ne_eq, and_self, ok1, a1, o1, o5 2 (by decide)]
  refine c_kilnAtN h hk ?_
  generalize hkk : wF w i 2 = k at *
  obtain ⟨⟨p1, p2⟩, ⟨p3, p4⟩, p5⟩ := h.k hk
  simp (disch := omega) only [e_X5_giveBack_8, e_X5_giveBack_8n, e_X5_giveBack_9, e_X5_giveBack_9n, e_X5_giveBack_10, e_X5_giveBack_10n, e_X5_giveBack_13, e_X5_giveBack_14, e_X5_giveBack_14n, e_X5_giveBack_15, e_X5_giveBack_16, e_X5_giveBack_19, e_X5_giveBack_19n, e_X5_giveBack_20, tand, true_and, and_true, nl1_int, nl1_ref, nl1_null, nl1_ra, cat1_int, cat1_ref, cat1_null, stbs_nil, stbs_cons, stb_int, stb_long, stb_ref, stb_null, stb_ra, alv_nil, alv_cons, alv1_int, alv1_ref, alv1_null, alv1_ra, List.length_nil, List.length_cons, Nat.reduceAdd, Nat.reduceLeDiff, Nat.zero_le, Option.toList_some, Option.toList_none, List.cons_append, List.nil_append, or_true, true_or, or_false, false_or, Nat.reduceEqDiff, not_true_eq_false, not_false_eq_true, false_and, and_false, false_implies, true_implies, implies_true, ne_eq, and_self, ok1, a1, o1, p1, p5 0 (by decide)]
  refine c_heldBack h hi hB ?_
  have zx : T + 22 + 3 * i ≠ T + 4 + 3 * k := by omega
  have zy : T + 23 + 3 * i ≠ T + 4 + 3 * k := by omega
  have z1 : T + 23 + 3 * i ≠ 0 := by omega
  have z2 : T + 5 + 3 * k ≠ 0 := by omega
  simp (disch := omega) only [e_X5_giveBack_23, e_X5_giveBack_24, e_X5_giveBack_27, e_X5_giveBack_27n, e_X5_giveBack_28, e_X5_giveBack_31, e_X5_giveBack_31n, e_X5_giveBack_32, e_X5_giveBack_35, e_X5_giveBack_38, e_X5_giveBack_38n, e_X5_giveBack_39, e_X5_giveBack_42, tand, true_and, and_true, nl1_int, nl1_ref, nl1_null, nl1_ra, cat1_int, cat1_ref, cat1_null, stbs_nil, stbs_cons, stb_int, stb_long, stb_ref, stb_null, stb_ra, alv_nil, alv_cons, alv1_int, alv1_ref, alv1_null, alv1_ra, List.length_nil, List.length_cons, Nat.reduceAdd, Nat.reduceLeDiff, Nat.zero_le, Option.toList_some, Option.toList_none, List.cons_append, List.nil_append, or_true, true_or, or_false, false_or, Nat.reduceEqDiff, not_true_eq_false, not_false_eq_true, false_and, and_false, false_implies, true_implies, implies_true, ne_eq, and_self, ok1, a1, o1, o2, o3, o4, p1, p2, p3, nI_add, gK_pI, gR_pI, gI_pI_ne zx, gI_pI_ne zy, z1, z2]
  have C := (CG.rf (X := XT T) hJ h).setK hT.big hk (XT_in (by omega) (by omega)) 0 (wK w k 0 + hbF w i)
  refine C.giveOK hT hk hi (hS.fr C.1) (Nat.le_refl _) hB2 fun g2 C2 => ?_
  have t1 := (C2.2.2.o hi).1.1
  simp only [e_X5_giveBack_45, e_X5_giveBack_45n, e_X5_giveBack_46, e_X5_giveBack_47, e_X5_giveBack_50, tand, true_and, and_true, nl1_int, nl1_ref, nl1_null, nl1_ra, cat1_int, cat1_ref, cat1_null, stbs_nil, stbs_cons, stb_int, stb_long, stb_ref, stb_null, stb_ra, alv_nil, alv_cons, alv1_int, alv1_ref, alv1_null, alv1_ra, List.length_nil, List.length_cons, Nat.reduceAdd, Nat.reduceLeDiff, Nat.zero_le, Option.toList_some, Option.toList_none, List.cons_append, List.nil_append, or_true, true_or, or_false, false_or, Nat.reduceEqDiff, not_true_eq_false, not_false_eq_true, false_and, and_false, false_implies, true_implies, implies_true, ne_eq, and_self, ok1, t1]
  have := C2.setF hT.big hi (XT_in (by omega) (by omega)) 3 0 (fun e => by omega)
  unfold opGive at q
  rw [hkk] at q
  exact q _ this
theorem c_trade {i j p : Nat} (hT : isT T) (h : TRw g T w) (hB : TB w) (hi : i < 17) (hj : j < 17) (hij : i ≠ j) (hO : min (wF w i 3) (wF w j 3) ≤ rt (wO w j)) (hp : p ≤ wF w i 4) (hS : Scr g) (hJ : JR g) (q : ∀ g', CG (XT T) g g' T (opTrade w i j p) → Q none g') : w_X5_trade [.ref T, .ref (T + 22 + 3 * i), .ref (T + 22 + 3 * j), .int (nI p)] g Q := by
  refine wm_at rfl ⟨trivial, trivial, trivial, trivial, trivial⟩ (show WP m_X5_trade Q 0 [.ref T, .ref (T + 22 + 3 * i), .ref (T + 22 + 3 * j), .int (nI p), .retAddr 0, .retAddr 0, .retAddr 0] [] g from ?_)
  obtain ⟨⟨o1, o2⟩, ⟨o3, o4⟩, o5⟩ := h.o hi
  obtain ⟨⟨u1', u2'⟩, ⟨u3, u4⟩, u5⟩ := h.o hj
  obtain ⟨⟨a1, a2, a3, a4⟩, ⟨b1, b2⟩, ⟨c1, c2⟩, ⟨d1, d2⟩⟩ := h.pl
  obtain ⟨hB1, hB2, hk⟩ := hB.2.2 i hi
  obtain ⟨hC1, hC2, hk'⟩ := hB.2.2 j hj
  have f3 := hB1 3 (by decide)
  have f3' := hC1 3 (by decide)
  simp (disch := omega) only [e_X5_trade_0, e_X5_trade_1, e_X5_trade_1n, e_X5_trade_2, e_X5_trade_5, tand, true_and, and_true, nl1_int, nl1_ref, nl1_null, nl1_ra, cat1_int, cat1_ref, cat1_null, stbs_nil, stbs_cons, stb_int, stb_long, stb_ref, stb_null, stb_ra, alv_nil, alv_cons, alv1_int, alv1_ref, alv1_null, alv1_ra, List.length_nil, List.length_cons, Nat.reduceAdd, Nat.reduceLeDiff, Nat.zero_le, Option.toList_some, Option.toList_none, List.cons_append, List.nil_append, or_true, true_or, or_false, false_or, Nat.reduceEqDiff, not_true_eq_false, not_false_eq_true, false_and, and_false, false_implies, true_implies, implies_true, ne_eq, and_self, ok1, a1, o1, u1', o5 2 (by decide)]
  refine c_kilnAtN h hk ?_
  obtain ⟨⟨p1, p2⟩, ⟨p3, p4⟩, p5⟩ := h.k hk
  simp (disch := omega) only [e_X5_trade_8, e_X5_trade_8n, e_X5_trade_10, e_X5_trade_11, e_X5_trade_11n, e_X5_trade_12, e_X5_trade_15, tand, true_and, and_true, nl1_int, nl1_ref, nl1_null, nl1_ra, cat1_int, cat1_ref, cat1_null, stbs_nil, stbs_cons, stb_int, stb_long, stb_ref, stb_null, stb_ra, alv_nil, alv_cons, alv1_int, alv1_ref, alv1_null, alv1_ra, List.length_nil, List.length_cons, Nat.reduceAdd, Nat.reduceLeDiff, Nat.zero_le, Option.toList_some, Option.toList_none, List.cons_append, List.nil_append, or_true, true_or, or_false, false_or, Nat.reduceEqDiff, not_true_eq_false, not_false_eq_true, false_and, and_false, false_implies, true_implies, implies_true, ne_eq, and_self, ok1, a1, o1, u1', p1, u5 2 (by decide)]
  refine c_kilnAtN h hk' ?_
  obtain ⟨⟨r1, r2⟩, ⟨r3, r4⟩, r5⟩ := h.k hk'
  have zx : T + 22 + 3 * j ≠ T + 22 + 3 * i := by omega
  have z1 : T + 23 + 3 * j ≠ 0 := by omega
  have z2 : T + 5 + 3 * wF w i 2 ≠ 0 := by omega
  generalize hn : min (wF w i 3) (wF w j 3) = n at *
  have n1 : n ≤ wF w i 3 := by omega
  have n2 : n ≤ wF w j 3 := by omega
  simp (disch := omega) only [e_X5_trade_18, e_X5_trade_18n, e_X5_trade_20, e_X5_trade_20n, e_X5_trade_22, e_X5_trade_22n, e_X5_trade_25, e_X5_trade_25n, e_X5_trade_27, e_X5_trade_27n, e_X5_trade_30, e_X5_trade_31, e_X5_trade_31n, e_X5_trade_32, e_X5_trade_35, e_X5_trade_35n, e_X5_trade_36, e_X5_trade_39, e_X5_trade_42, e_X5_trade_44, e_X5_trade_44n, e_X5_trade_45, e_X5_trade_46, e_X5_trade_49, e_X5_trade_51, e_X5_trade_52, e_X5_trade_55, e_X5_trade_55n, e_X5_trade_56, e_X5_trade_57, e_X5_trade_60, e_X5_trade_62, e_X5_trade_63, e_X5_trade_66, e_X5_trade_66n, e_X5_trade_67, e_X5_trade_70, e_X5_trade_72, e_X5_trade_72n, e_X5_trade_74, e_X5_trade_77, tand, true_and, and_true, nl1_int, nl1_ref, nl1_null, nl1_ra, cat1_int, cat1_ref, cat1_null, stbs_nil, stbs_cons, stb_int, stb_long, stb_ref, stb_null, stb_ra, alv_nil, alv_cons, alv1_int, alv1_ref, alv1_null, alv1_ra, List.length_nil, List.length_cons, Nat.reduceAdd, Nat.reduceLeDiff, Nat.zero_le, Option.toList_some, Option.toList_none, List.cons_append, List.nil_append, or_true, true_or, or_false, false_or, Nat.reduceEqDiff, not_true_eq_false, not_false_eq_true, false_and, and_false, false_implies, true_implies, implies_true, ne_eq, and_self, ok1, a1, o1, u1', u2', u3, p1, p2, p3, r1, o5 3 (by decide), u5 3 (by decide), nI_min, hn, pk_sub n1, pk_sub n2, gK_pI, gR_pI, gI_pI_ne zx, z1, z2]
  have C := ((CG.rf (X := XT T) hJ h).setF hT.big hi (XT_in (by omega) (by omega)) 3 (wF w i 3 - n) (fun e => by omega)).setF hT.big hj (XT_in (by omega) (by omega)) 3 (wF w j 3 - n) (fun e => by omega)
  refine C.giveOK (m := n) hT hk hj (hS.fr C.1) hO hC2 fun g2 C2 => ?_
  have t1 := C2.2.2.pl.1.1
  obtain ⟨⟨p1', _⟩, _, p5'⟩ := C2.2.2.k hk
  obtain ⟨⟨r1', _⟩, _, r5'⟩ := C2.2.2.k hk'
  obtain ⟨⟨o1', _⟩, _, o5'⟩ := C2.2.2.o hi
  have q4 : gI g2 (T + 22 + 3 * i) 4 = nI (wF w i 4) := by
    rw [o5' 4 (by decide)]
    show nI (u2 (u2 w.2.2.2.1 i 3 _) j 3 _ i 4) = _
    rw [u2_ne hij, u2_eq]
    rfl
  generalize hw1 : (sO (sP (sF (sF w i 3 (wF w i 3 - n)) j 3 (wF w j 3 - n)) (wF w i 2) (rgo (wP w (wF w i 2)) (wO w j) n)) j (rsu (wO w j) n)) = w1 at *
  have C2' : CG (XT T) g g2 T w1 := by rw [← hw1]; exact C2
  have C3 := C2'.setK hT.big hk' (XT_in (by omega) (by omega)) 0 (wK w1 (wF w j 2) 0 + n * p)
  have r0 : gI g2 (T + 4 + 3 * wF w j 2) 0 = nI (wK w1 (wF w j 2) 0) := (C2'.2.2.k hk').2.2 0 (by decide)
  simp only [e_X5_trade_80, e_X5_trade_80n, e_X5_trade_82, e_X5_trade_83, e_X5_trade_86, e_X5_trade_88, e_X5_trade_89, e_X5_trade_90, e_X5_trade_91, tand, true_and, and_true, nl1_int, nl1_ref, nl1_null, nl1_ra, cat1_int, cat1_ref, cat1_null, stbs_nil, stbs_cons, stb_int, stb_long, stb_ref, stb_null, stb_ra, alv_nil, alv_cons, alv1_int, alv1_ref, alv1_null, alv1_ra, List.length_nil, List.length_cons, Nat.reduceAdd, Nat.reduceLeDiff, Nat.zero_le, Option.toList_some, Option.toList_none, List.cons_append, List.nil_append, or_true, true_or, or_false, false_or, Nat.reduceEqDiff, not_true_eq_false, not_false_eq_true, false_and, and_false, false_implies, true_implies, implies_true, ne_eq, and_self, ok1, r1', r0, pk_mul, nI_add]
  have t3 := C3.2.2.pl.1.1
  obtain ⟨⟨p1'', _⟩, _, p5''⟩ := C3.2.2.k hk
  have o3' := (C3.2.2.o hi).1.1
  have q4' : gI (pI g2 (T + 4 + 3 * wF w j 2) 0 (nI (wK w1 (wF w j 2) 0 + n * p))) (T + 22 + 3 * i) 4 = nI (wF w i 4) := by
    rw [gI_pI_ne (by omega)]; exact q4
  have s3 := C3.2.2.2.1
  have s7 : gI (pI g2 (T + 4 + 3 * wF w j 2) 0 (nI (wK w1 (wF w j 2) 0 + n * p))) T 7 = nI (wS w 7) := by
    rw [s3 7 (by decide), ← hw1]; rfl
  generalize (pI g2 (T + 4 + 3 * wF w j 2) 0 (nI (wK w1 (wF w j 2) 0 + n * p))) = g3 at *
  have zz : T ≠ T + 4 + 3 * wF w i 2 := by omega
  simp only [e_X5_trade_94, e_X5_trade_94n, e_X5_trade_96, e_X5_trade_97, e_X5_trade_100, e_X5_trade_102, e_X5_trade_102n, e_X5_trade_103, e_X5_trade_106, e_X5_trade_107, e_X5_trade_108, e_X5_trade_109, e_X5_trade_110, e_X5_trade_113, e_X5_trade_114, e_X5_trade_115, e_X5_trade_118, e_X5_trade_120, e_X5_trade_121, e_X5_trade_124, e_X5_trade_125, e_X5_trade_126, e_X5_trade_129, tand, true_and, and_true, nl1_int, nl1_ref, nl1_null, nl1_ra, cat1_int, cat1_ref, cat1_null, stbs_nil, stbs_cons, stb_int, stb_long, stb_ref, stb_null, stb_ra, alv_nil, alv_cons, alv1_int, alv1_ref, alv1_null, alv1_ra, List.length_nil, List.length_cons, Nat.reduceAdd, Nat.reduceLeDiff, Nat.zero_le, Option.toList_some, Option.toList_none, List.cons_append, List.nil_append, or_true, true_or, or_false, false_or, Nat.reduceEqDiff, not_true_eq_false, not_false_eq_true, false_and, and_false, false_implies, true_implies, implies_true, ne_eq, and_self, ok1, p1'', p5'' 0 (by decide), o3', q4', pk_sub hp, pk_mul, nI_add, gK_pI, t3, gI_pI_ne zz, s7]
  have C9 := (((C3.setK hT.big hk (XT_in (by omega) (by omega)) 0 (wK (sK w1 (wF w j 2) 0 (wK w1 (wF w j 2) 0 + n * p)) (wF w i 2) 0 + n * (wF w i 4 - p))).setS hT.big (XT_in (by omega) (by omega)) 7 (wS w 7 + n) (by decide)).setS hT.big (XT_in (by omega) (by omega)) 8 p (by decide))
  subst hw1
  subst hn
  exact q _ C9
end Trd
