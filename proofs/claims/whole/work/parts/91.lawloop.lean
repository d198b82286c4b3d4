/-! ===== the law: its loop ===== -/
theorem nI_sub_ltE {a b c : Nat} (ha : a < 2 ^ 29) (hb : b < 2 ^ 29) (hc : c < 2 ^ 29) : (nI a - nI b < nI c) = (a < b + c) := by
  have e := nI_subT (x := a) (y := b) (by omega) (by omega)
  rw [Int32.lt_iff_toInt_lt, e, nI_toInt (by omega)]
  exact propext ⟨fun h => by omega, fun h => by omega⟩
section Llo
variable {xs : Nat → Int32} {L : Nat} {Q : mQ}
theorem law_sw {g : mG} {ls : List Value} {x : Int32} (hd : WP m_L_law Q 739 ls [] g)
    (h0 : WP m_L_law Q 132 ls [] g)
    (h1 : WP m_L_law Q 165 ls [] g)
    (h2 : WP m_L_law Q 208 ls [] g)
    (h3 : WP m_L_law Q 231 ls [] g)
    (h4 : WP m_L_law Q 274 ls [] g)
    (h5 : WP m_L_law Q 317 ls [] g)
    (h6 : WP m_L_law Q 330 ls [] g)
    (h7 : WP m_L_law Q 353 ls [] g)
    (h8 : WP m_L_law Q 386 ls [] g)
    (h9 : WP m_L_law Q 419 ls [] g)
    (h10 : WP m_L_law Q 452 ls [] g)
    (h11 : WP m_L_law Q 465 ls [] g)
    (h12 : WP m_L_law Q 490 ls [] g)
    (h13 : WP m_L_law Q 503 ls [] g)
    (h14 : WP m_L_law Q 516 ls [] g)
    (h15 : WP m_L_law Q 529 ls [] g)
    (h16 : WP m_L_law Q 542 ls [] g)
    (h17 : WP m_L_law Q 575 ls [] g)
    (h18 : WP m_L_law Q 608 ls [] g)
    (h19 : WP m_L_law Q 667 ls [] g)
    (h20 : WP m_L_law Q 716 ls [] g)
    : WP m_L_law Q 32 ls [.int x] g := by
  simp only [e_L_law_32, tand, true_and, and_true, nl1_int, nl1_ref, nl1_null, nl1_ra, cat1_int, cat1_ref, cat1_null, stbs_nil, stbs_cons, stb_int, stb_long, stb_ref, stb_null, stb_ra, alv_nil, alv_cons, alv1_int, alv1_ref, alv1_null, alv1_ra, List.length_nil, List.length_cons, Nat.reduceAdd, Nat.reduceLeDiff, Nat.zero_le, Option.toList_some, Option.toList_none, List.cons_append, List.nil_append, or_true, true_or, or_false, false_or, Nat.reduceEqDiff, not_true_eq_false, not_false_eq_true, false_and, and_false, false_implies, true_implies, implies_true, ne_eq, and_self, ok1]
  generalize x.toInt = z
  by_cases h : z < 0 ∨ 20 < z
  · rw [if_pos h]; exact hd
  · rw [if_neg h]
    have hz : z = 0 ∨ z = 1 ∨ z = 2 ∨ z = 3 ∨ z = 4 ∨ z = 5 ∨ z = 6 ∨ z = 7 ∨ z = 8 ∨ z = 9 ∨ z = 10 ∨ z = 11 ∨ z = 12 ∨ z = 13 ∨ z = 14 ∨ z = 15 ∨ z = 16 ∨ z = 17 ∨ z = 18 ∨ z = 19 ∨ z = 20 := by omega
    rcases hz with e0 | e1 | e2 | e3 | e4 | e5 | e6 | e7 | e8 | e9 | e10 | e11 | e12 | e13 | e14 | e15 | e16 | e17 | e18 | e19 | e20
    · subst e0; exact h0
    · subst e1; exact h1
    · subst e2; exact h2
    · subst e3; exact h3
    · subst e4; exact h4
    · subst e5; exact h5
    · subst e6; exact h6
    · subst e7; exact h7
    · subst e8; exact h8
    · subst e9; exact h9
    · subst e10; exact h10
    · subst e11; exact h11
    · subst e12; exact h12
    · subst e13; exact h13
    · subst e14; exact h14
    · subst e15; exact h15
    · subst e16; exact h16
    · subst e17; exact h17
    · subst e18; exact h18
    · subst e19; exact h19
    · subst e20; exact h20
theorem law_loop (hL : L ≤ 2048) (q : ∀ g, JR g → Q (some (.int 1)) g) : ∀ (d i : Nat) {g : mG}, L ≤ 4 * i + 4 * d + 3 → i ≤ 512 → LV g xs L (9 * i) → WP m_L_law Q 18 [.ref 2, .ref 20, .ref 40, .int (nI (4 * i))] [] g := by
  intro d
  induction d with
  | zero =>
    intro i g hd hi h
    obtain ⟨k2, n2, r2⟩ := h.1
    have hlt : L < 4 + 4 * i := by omega
    have one : (nI 1 : Int32) = 1 := rfl
    simp (disch := omega) only [e_L_law_18, e_L_law_19, e_L_law_19n, e_L_law_20, e_L_law_21, e_L_law_22, e_L_law_23, e_L_law_745, e_L_law_746, tand, true_and, and_true, nl1_int, nl1_ref, nl1_null, nl1_ra, cat1_int, cat1_ref, cat1_null, stbs_nil, stbs_cons, stb_int, stb_long, stb_ref, stb_null, stb_ra, alv_nil, alv_cons, alv1_int, alv1_ref, alv1_null, alv1_ra, List.length_nil, List.length_cons, Nat.reduceAdd, Nat.reduceLeDiff, Nat.zero_le, Option.toList_some, Option.toList_none, List.cons_append, List.nil_append, or_true, true_or, or_false, false_or, Nat.reduceEqDiff, not_true_eq_false, not_false_eq_true, false_and, and_false, false_implies, true_implies, implies_true, ne_eq, and_self, ok1, k2, n2, nI_sub_ltE, hlt, one]
    obtain ⟨_, w, hist, st, kept, snap, t, n, hA, _⟩ := h
    obtain ⟨N, _, _, _, _, hJ, _⟩ := hA.now
    exact q g hJ
  | succ d ih =>
    intro i g hd hi h
    by_cases hlt : L < 4 + 4 * i
    · obtain ⟨k2, n2, r2⟩ := h.1
      have one : (nI 1 : Int32) = 1 := rfl
      simp (disch := omega) only [e_L_law_18, e_L_law_19, e_L_law_19n, e_L_law_20, e_L_law_21, e_L_law_22, e_L_law_23, e_L_law_745, e_L_law_746, tand, true_and, and_true, nl1_int, nl1_ref, nl1_null, nl1_ra, cat1_int, cat1_ref, cat1_null, stbs_nil, stbs_cons, stb_int, stb_long, stb_ref, stb_null, stb_ra, alv_nil, alv_cons, alv1_int, alv1_ref, alv1_null, alv1_ra, List.length_nil, List.length_cons, Nat.reduceAdd, Nat.reduceLeDiff, Nat.zero_le, Option.toList_some, Option.toList_none, List.cons_append, List.nil_append, or_true, true_or, or_false, false_or, Nat.reduceEqDiff, not_true_eq_false, not_false_eq_true, false_and, and_false, false_implies, true_implies, implies_true, ne_eq, and_self, ok1, k2, n2, nI_sub_ltE, hlt, one]
      obtain ⟨_, w, hist, st, kept, snap, t, n, hA, _⟩ := h
      obtain ⟨N, _, _, _, _, hJ, _⟩ := hA.now
      exact q g hJ
    · have hi4 : 4 * i + 4 ≤ L := by omega
      have hu : 9 * i + 9 ≤ 6000 := by omega
      have next : ∀ g', LV g' xs L (9 * i + 9) → WP m_L_law Q 739 [.ref 2, .ref 20, .ref 40, .int (nI (4 * i))] [] g' := fun g' h' => by
        simp only [e_L_law_739, tand, true_and, and_true, nl1_int, nl1_ref, nl1_null, nl1_ra, cat1_int, cat1_ref, cat1_null, stbs_nil, stbs_cons, stb_int, stb_long, stb_ref, stb_null, stb_ra, alv_nil, alv_cons, alv1_int, alv1_ref, alv1_null, alv1_ra, List.length_nil, List.length_cons, Nat.reduceAdd, Nat.reduceLeDiff, Nat.zero_le, Option.toList_some, Option.toList_none, List.cons_append, List.nil_append, or_true, true_or, or_false, false_or, Nat.reduceEqDiff, not_true_eq_false, not_false_eq_true, false_and, and_false, false_implies, true_implies, implies_true, ne_eq, and_self, ok1, nI_add]
        simp only [e_L_law_742, tand, true_and, and_true, nl1_int, nl1_ref, nl1_null, nl1_ra, cat1_int, cat1_ref, cat1_null, stbs_nil, stbs_cons, stb_int, stb_long, stb_ref, stb_null, stb_ra, alv_nil, alv_cons, alv1_int, alv1_ref, alv1_null, alv1_ra, List.length_nil, List.length_cons, Nat.reduceAdd, Nat.reduceLeDiff, Nat.zero_le, Option.toList_some, Option.toList_none, List.cons_append, List.nil_append, or_true, true_or, or_false, false_or, Nat.reduceEqDiff, not_true_eq_false, not_false_eq_true, false_and, and_false, false_implies, true_implies, implies_true, ne_eq, and_self, ok1]
        exact ih (i + 1) (by omega) (by omega) h'
      obtain ⟨k2, n2, r2⟩ := h.1
      simp (disch := omega) only [e_L_law_18, e_L_law_19, e_L_law_19n, e_L_law_20, e_L_law_21, e_L_law_22, e_L_law_23, e_L_law_26, e_L_law_26n, e_L_law_27, e_L_law_28, e_L_law_29, e_L_law_31, tand, true_and, and_true, nl1_int, nl1_ref, nl1_null, nl1_ra, cat1_int, cat1_ref, cat1_null, stbs_nil, stbs_cons, stb_int, stb_long, stb_ref, stb_null, stb_ra, alv_nil, alv_cons, alv1_int, alv1_ref, alv1_null, alv1_ra, List.length_nil, List.length_cons, Nat.reduceAdd, Nat.reduceLeDiff, Nat.zero_le, Option.toList_some, Option.toList_none, List.cons_append, List.nil_append, or_true, true_or, or_false, false_or, Nat.reduceEqDiff, not_true_eq_false, not_false_eq_true, false_and, and_false, false_implies, true_implies, implies_true, ne_eq, and_self, ok1, k2, n2, nI_sub_ltE, hlt, isIA, vpT, nI_clamp, r2]
      exact law_sw (next g (h.up (by omega))) (lc_issue h hu hi4 hL next) (lc_fire h hu hi4 hL next) (lc_audit h hu hi4 hL next) (lc_bid h hu hi4 hL next) (lc_ask h hu hi4 hL next) (lc_orderAll h hu hi4 hL next) (lc_takeBack h hu hi4 hL next) (lc_buyReserve h hu hi4 hL next) (lc_borrow h hu hi4 hL next) (lc_set h hu hi4 hL next) (lc_endYear h hu hi4 hL next) (lc_type h hu hi4 hL next) (lc_clearText h hu hi4 hL next) (lc_undo h hu hi4 hL next) (lc_keep h hu hi4 hL next) (lc_restore h hu hi4 hL next) (lc_kiln h hu hi4 hL next) (lc_ofYear h hu hi4 hL next) (lc_order h hu hi4 hL next) (lc_depth h hu hi4 hL next) (lc_count h hu hi4 hL next)
end Llo
/-- the heap as it is before the law begins -/
def gBeg (L : Nat) (xs : Nat → Int32) : mG := (fun b => if b = 2 ∨ b = 3 ∨ b = 4 ∨ b = 5 then 10 else 0, fun b => if b = 2 then L else if b = 3 ∨ b = 4 ∨ b = 5 then 5 else 0, fun b => if b = 2 then xs else if b = 3 then fun s => nI (seL s) else if b = 4 then fun s => nI (seM s) else if b = 5 then fun s => nI (w0R.1 (11 + s)) else fun _ => 0, fun _ _ => 0, 0, 0)
theorem law_begin {xs : Nat → Int32} {L : Nat} {Q : mQ} (hL : L ≤ 2048) (q : ∀ g, JR g → Q (some (.int 1)) g) : WP m_L_law Q 0 [.ref 2, .retAddr 0, .retAddr 0, .retAddr 0] [] (gBeg L xs) := by
  have b2 : gK (gBeg L xs) 2 = 10 := rfl
  have bk : ∀ b, 5 < b → gK (gBeg L xs) b = 0 := fun b hb => if_neg (by omega)
  simp only [e_L_law_0, tand, true_and, and_true, nl1_int, nl1_ref, nl1_null, nl1_ra, cat1_int, cat1_ref, cat1_null, stbs_nil, stbs_cons, stb_int, stb_long, stb_ref, stb_null, stb_ra, alv_nil, alv_cons, alv1_int, alv1_ref, alv1_null, alv1_ra, List.length_nil, List.length_cons, Nat.reduceAdd, Nat.reduceLeDiff, Nat.zero_le, Option.toList_some, Option.toList_none, List.cons_append, List.nil_append, or_true, true_or, or_false, false_or, Nat.reduceEqDiff, not_true_eq_false, not_false_eq_true, false_and, and_false, false_implies, true_implies, implies_true, ne_eq, and_self, ok1, b2, frsh]
  refine ⟨20, ⟨bk 20 (by decide), by rw [show 20 - 1 = 19 from rfl, bk 19 (by decide)]; decide, by decide⟩, ?_⟩
  generalize hg1 : nw (gBeg L xs) 20 7 0 (xn 7) (fun _ => 0) = g1
  have F1 : NF (fun b => b = 20) (gBeg L xs) g1 1 7 := by rw [← hg1]; exact NF.nw rfl
  have k20 : gK g1 20 = 7 := by rw [← hg1, gK_nw, if_pos rfl]
  have i20 : gI g1 20 = fun _ => 0 := by rw [← hg1, gI_nw, if_pos rfl]
  have kz : ∀ b, 5 < b → b ≠ 20 → gK g1 b = 0 := fun b hb hne => (F1.1 b hne).1.trans (bk b hb)
  have f : ∀ b, b < 6 → gK g1 b = gK (gBeg L xs) b ∧ gN g1 b = gN (gBeg L xs) b ∧ gI g1 b = gI (gBeg L xs) b := fun b hb => by
    have q := F1.1 b (show b ≠ 20 by omega)
    have q2 := q.2 (by omega)
    exact ⟨q.1, q2.1, q2.2.1⟩
  have S1 : Scr g1 := ⟨kz 9 (by decide) (by decide), kz 8 (by decide) (by decide)⟩
  have FS1 : FS g1 := ⟨(f 5 (by decide)).1.trans rfl, (f 5 (by decide)).2.1.trans rfl, fun s _ => by rw [(f 5 (by decide)).2.2]; rfl⟩
  have ST1 : STt g1 := ⟨⟨(f 3 (by decide)).1.trans rfl, (f 3 (by decide)).2.1.trans rfl, fun s _ => by rw [(f 3 (by decide)).2.2]; rfl⟩, ⟨(f 4 (by decide)).1.trans rfl, (f 4 (by decide)).2.1.trans rfl, fun s _ => by rw [(f 4 (by decide)).2.2]; rfl⟩, FS1.1, FS1.2.1⟩
  have c1 : gC g1 ≤ 1 := F1.2.1
  have s1 : gS g1 ≤ 7 := F1.2.2
  have k2 : gK g1 2 = 10 := (f 2 (by decide)).1.trans rfl
  have n2 : gN g1 2 = L := (f 2 (by decide)).2.1.trans rfl
  have r2 : gI g1 2 = xs := (f 2 (by decide)).2.2.trans rfl
  simp (disch := omega) only [e_L_law_3, e_L_law_4, tand, true_and, and_true, nl1_int, nl1_ref, nl1_null, nl1_ra, cat1_int, cat1_ref, cat1_null, stbs_nil, stbs_cons, stb_int, stb_long, stb_ref, stb_null, stb_ra, alv_nil, alv_cons, alv1_int, alv1_ref, alv1_null, alv1_ra, List.length_nil, List.length_cons, Nat.reduceAdd, Nat.reduceLeDiff, Nat.zero_le, Option.toList_some, Option.toList_none, List.cons_append, List.nil_append, or_true, true_or, or_false, false_or, Nat.reduceEqDiff, not_true_eq_false, not_false_eq_true, false_and, and_false, false_implies, true_implies, implies_true, ne_eq, and_self, ok1, k2, k20]
  refine c_X6_init k20 i20 (fun z h1 h2 => kz z (by omega) (by omega)) (fun z h1 h2 => kz z (by omega) (by omega)) S1 FS1 ST1 (by omega) (by omega) fun g2 hA F2 rows => ?_
  have x2 : ∀ b, ¬ XM b → b ≠ 9 → gK g2 b = gK g1 b ∧ gN g2 b = gN g1 b ∧ gI g2 b = gI g1 b := fun b hb h9 => by
    have q := F2.1 b hb
    have q2 := q.2 h9
    exact ⟨q.1, q2.1, q2.2.1⟩
  obtain ⟨N, _, ⟨k20', _⟩, _⟩ := hA.now
  have m2 := x2 2 (fun z => by unfold XM at z; omega) (by decide)
  have k2' : gK g2 2 = 10 := m2.1.trans k2
  have z2 : ∀ b, 34 ≤ b → b < 100 → gK g2 b = 0 := fun b h1 h2 => (x2 b (fun z => by unfold XM at z; omega) (by omega)).1.trans (kz b (by omega) (by omega))
  simp (disch := omega) only [e_L_law_7, e_L_law_7n, e_L_law_8, tand, true_and, and_true, nl1_int, nl1_ref, nl1_null, nl1_ra, cat1_int, cat1_ref, cat1_null, stbs_nil, stbs_cons, stb_int, stb_long, stb_ref, stb_null, stb_ra, alv_nil, alv_cons, alv1_int, alv1_ref, alv1_null, alv1_ra, List.length_nil, List.length_cons, Nat.reduceAdd, Nat.reduceLeDiff, Nat.zero_le, Option.toList_some, Option.toList_none, List.cons_append, List.nil_append, or_true, true_or, or_false, false_or, Nat.reduceEqDiff, not_true_eq_false, not_false_eq_true, false_and, and_false, false_implies, true_implies, implies_true, ne_eq, and_self, ok1, k2', k20', frsh]
  refine ⟨40, ⟨z2 40 (by decide) (by decide), by rw [show 40 - 1 = 39 from rfl, z2 39 (by decide) (by decide)]; decide, by decide⟩, ?_⟩
  generalize hg3 : nw g2 40 8 0 (xn 8) (fun _ => 0) = g3
  have F3 : NF XD g2 g3 1 11 := by rw [← hg3]; exact NF.nw (XD.of (by decide) (by decide))
  have k40 : gK g3 40 = 8 := by rw [← hg3, gK_nw, if_pos rfl]
  have i40 : gI g3 40 = fun _ => 0 := by rw [← hg3, gI_nw, if_pos rfl]
  have k2'' : gK g3 2 = 10 := (F3.1 2 (fun z => by unfold XD at z; omega)).1.trans k2'
  have k20'' : gK g3 20 = 7 := (F3.1 20 (fun z => by unfold XD at z; omega)).1.trans k20'
  simp (disch := omega) only [e_L_law_11, e_L_law_12, tand, true_and, and_true, nl1_int, nl1_ref, nl1_null, nl1_ra, cat1_int, cat1_ref, cat1_null, stbs_nil, stbs_cons, stb_int, stb_long, stb_ref, stb_null, stb_ra, alv_nil, alv_cons, alv1_int, alv1_ref, alv1_null, alv1_ra, List.length_nil, List.length_cons, Nat.reduceAdd, Nat.reduceLeDiff, Nat.zero_le, Option.toList_some, Option.toList_none, List.cons_append, List.nil_append, or_true, true_or, or_false, false_or, Nat.reduceEqDiff, not_true_eq_false, not_false_eq_true, false_and, and_false, false_implies, true_implies, implies_true, ne_eq, and_self, ok1, k2'', k20'', k40]
  refine c_X7_init k40 i40 (fun z h1 h2 => by rw [← hg3, gK_nw, if_neg (by omega)]; exact z2 z (by omega) (by omega)) fun g4 F4 hB => ?_
  have F24 : NF XD g2 g4 7 162159 := (F3.tr F4).up (fun _ h => h) (by decide) (by decide)
  have hc2 := F2.2.1
  have hs2 := F2.2.2
  have hc4 := F24.2.1
  have hs4 := F24.2.2
  have J4 : JR g4 := JR.begin (fun c j hc hj => by
    have hr : rowL c j ≠ 9 ∧ ¬ XD (rowL c j) := by
      unfold rowL
      split
      · exact ⟨by omega, fun z => by unfold XD at z; omega⟩
      · exact ⟨by omega, fun z => by unfold XD at z; omega⟩
    rw [((F24.1 _ hr.2).2 hr.1).1]
    exact rows c j hc hj) (by omega) (by omega)
  have hA4 := hA.nf F24 J4
  have m4 := F24.1 2 (fun z => by unfold XD at z; omega)
  have m4' := m4.2 (by decide)
  have S4 : SX g4 xs L := ⟨m4.1.trans k2', m4'.1.trans (m2.2.1.trans n2), fun j _ => by rw [m4'.2.1, m2.2.2, r2]⟩
  have L4 : LV g4 xs L (9 * 0) := ⟨S4, w0R, fun _ => w0R, 0, 0, w0R, fun _ => 0, 0, hA4, hB, w0R_inv, fun j hj => absurd hj (Nat.not_lt_zero j), fun hk => absurd hk (by decide)⟩
  obtain ⟨y20, y40⟩ := L4.k20
  simp (disch := omega) only [e_L_law_15, e_L_law_15n, e_L_law_16, e_L_law_17, tand, true_and, and_true, nl1_int, nl1_ref, nl1_null, nl1_ra, cat1_int, cat1_ref, cat1_null, stbs_nil, stbs_cons, stb_int, stb_long, stb_ref, stb_null, stb_ra, alv_nil, alv_cons, alv1_int, alv1_ref, alv1_null, alv1_ra, List.length_nil, List.length_cons, Nat.reduceAdd, Nat.reduceLeDiff, Nat.zero_le, Option.toList_some, Option.toList_none, List.cons_append, List.nil_append, or_true, true_or, or_false, false_or, Nat.reduceEqDiff, not_true_eq_false, not_false_eq_true, false_and, and_false, false_implies, true_implies, implies_true, ne_eq, and_self, ok1]
  exact law_loop hL q 512 0 (by omega) (Nat.zero_le _) L4
theorem law_wp {xs : Nat → Int32} {L : Nat} (hL : L ≤ 2048) : ∃ ge : mG, WP m_L_law (Qx (some (.int 1)) ge) 0 [.ref 2, .retAddr 0, .retAddr 0, .retAddr 0] [] (gBeg L xs) ∧ gC ge ≤ 600000 ∧ gS ge ≤ 4800000 := by
  obtain ⟨v, ge, ⟨hv, hJ⟩, _, _, h⟩ := WP_det lo_L_law (law_begin (xs := xs) hL (Q := fun v g => v = some (.int 1) ∧ JR g) fun g hJ => ⟨rfl, hJ⟩)
  refine ⟨ge, ?_, hJ.total.2, hJ.total.1⟩
  subst hv
  exact h _ ⟨rfl, rfl⟩
