/-! ===== the model: a trade ===== -/
theorem u2_id {f : Nat → Nat → Nat} {k j v : Nat} (h : v = f k j) : u2 f k j v = f := by
  funext c d
  unfold u2 u1
  by_cases e : c = k
  · rw [if_pos e]
    by_cases e2 : d = j
    · rw [if_pos e2, h, e, e2]
    · rw [if_neg e2]
  · rw [if_neg e]
section Mtr
variable {g0 g : mG} {Q : mQ} {A0 : Nat → Nat → Nat} {a pos : Nat → Nat} {w : Rw}
theorem c_X7_offer16 (q : Q (some (.int (nI 22144))) g) : w_X7_offer [.int (nI 16)] g Q := c_X7_offer (k := 16) q
theorem c_X7_trades {u s n p f Y : Nat} (M : MT g0 g A0 a) (hu : u < 6) (hs : s < 6) (hY : a 0 = Y) (hY2 : Y < 1000) (hf : 6144 ≤ f ∧ f + 1000 ≤ 23144) (hn : n < 2 ^ 28) (hb : ∀ y, y ≤ Y → a (f + y) < 2 ^ 28)
    (q : ∀ g', MT g0 g' A0 (u1 (u1 (mvN (u1 a (20 + s) (a (20 + s) + n * p)) f (144 + 1000 * u) n Y 1000) 7 (a 7 + n)) 8 p) → Q none g') : w_X7_trades [.ref 40, .int (nI u), .int (nI s), .int (nI n), .int (nI p), .int (nI f)] g Q := by
  refine wm_at rfl ⟨trivial, trivial, trivial, trivial, trivial, trivial, trivial⟩ (show WP m_X7_trades Q 0 [.ref 40, .int (nI u), .int (nI s), .int (nI n), .int (nI p), .int (nI f)] [] g from ?_)
  simp (disch := omega) only [e_X7_trades_0, e_X7_trades_1, e_X7_trades_4, e_X7_trades_6, e_X7_trades_7, e_X7_trades_8, e_X7_trades_9, e_X7_trades_10, e_X7_trades_11, e_X7_trades_13, e_X7_trades_14, e_X7_trades_15, tand, true_and, and_true, nl1_int, nl1_ref, nl1_null, nl1_ra, cat1_int, cat1_ref, cat1_null, stbs_nil, stbs_cons, stb_int, stb_long, stb_ref, stb_null, stb_ra, alv_nil, alv_cons, alv1_int, alv1_ref, alv1_null, alv1_ra, List.length_nil, List.length_cons, Nat.reduceAdd, Nat.reduceLeDiff, Nat.zero_le, Option.toList_some, Option.toList_none, List.cons_append, List.nil_append, or_true, true_or, or_false, false_or, Nat.reduceEqDiff, not_true_eq_false, not_false_eq_true, false_and, and_false, false_implies, true_implies, implies_true, ne_eq, and_self, ok1, M.k40, M.r40, z41, M.k41, M.n41, isIA, vpT, nI_clamp, nI_add, M.rd, gK_pI, gN_pI, gR_pI, gI_same, gI_diff, u1_eq, u1_ne, pk_mul]
  refine M.wp fun g1 M1 => ?_
  simp (disch := omega) only [e_X7_trades_16, e_X7_trades_17, e_X7_trades_19, e_X7_trades_20, tand, true_and, and_true, nl1_int, nl1_ref, nl1_null, nl1_ra, cat1_int, cat1_ref, cat1_null, stbs_nil, stbs_cons, stb_int, stb_long, stb_ref, stb_null, stb_ra, alv_nil, alv_cons, alv1_int, alv1_ref, alv1_null, alv1_ra, List.length_nil, List.length_cons, Nat.reduceAdd, Nat.reduceLeDiff, Nat.zero_le, Option.toList_some, Option.toList_none, List.cons_append, List.nil_append, or_true, true_or, or_false, false_or, Nat.reduceEqDiff, not_true_eq_false, not_false_eq_true, false_and, and_false, false_implies, true_implies, implies_true, ne_eq, and_self, ok1, M1.k40, M1.r40, z41, M1.k41, M1.n41, isIA, vpT, nI_clamp, nI_add, M1.rd, gK_pI, gN_pI, gR_pI, gI_same, gI_diff, u1_eq, u1_ne]
  refine c_X7_own ?_
  simp (disch := omega) only [e_X7_trades_23, e_X7_trades_24, tand, true_and, and_true, nl1_int, nl1_ref, nl1_null, nl1_ra, cat1_int, cat1_ref, cat1_null, stbs_nil, stbs_cons, stb_int, stb_long, stb_ref, stb_null, stb_ra, alv_nil, alv_cons, alv1_int, alv1_ref, alv1_null, alv1_ra, List.length_nil, List.length_cons, Nat.reduceAdd, Nat.reduceLeDiff, Nat.zero_le, Option.toList_some, Option.toList_none, List.cons_append, List.nil_append, or_true, true_or, or_false, false_or, Nat.reduceEqDiff, not_true_eq_false, not_false_eq_true, false_and, and_false, false_implies, true_implies, implies_true, ne_eq, and_self, ok1, M1.k40, M1.r40, z41, M1.k41, M1.n41, isIA, vpT, nI_clamp, nI_add, M1.rd, gK_pI, gN_pI, gR_pI, gI_same, gI_diff, u1_eq, u1_ne]
  have y0 : u1 a (20 + s) (a (20 + s) + n * p) 0 = Y := by rw [u1_ne (by omega)]; exact hY
  refine c_X7_moves M1 hn y0 hY2 (by omega) (by omega) (by omega) (fun y hy => by rw [u1_ne (by omega)]; exact hb y hy) fun g2 a2 M2 hM2 => ?_
  have M3 := M2.ext (b := mvN (u1 a (20 + s) (a (20 + s) + n * p)) f (144 + 1000 * u) n Y 1000) fun i _ => (hM2 i).symm
  have e7 : mvN (u1 a (20 + s) (a (20 + s) + n * p)) f (144 + 1000 * u) n Y 1000 7 = a 7 := by rw [mv_n (by omega) (by omega), u1_ne (by omega)]
  simp (disch := omega) only [e_X7_trades_27, e_X7_trades_28, e_X7_trades_31, e_X7_trades_33, e_X7_trades_34, e_X7_trades_35, e_X7_trades_36, e_X7_trades_37, e_X7_trades_38, e_X7_trades_39, e_X7_trades_42, e_X7_trades_44, e_X7_trades_46, e_X7_trades_47, tand, true_and, and_true, nl1_int, nl1_ref, nl1_null, nl1_ra, cat1_int, cat1_ref, cat1_null, stbs_nil, stbs_cons, stb_int, stb_long, stb_ref, stb_null, stb_ra, alv_nil, alv_cons, alv1_int, alv1_ref, alv1_null, alv1_ra, List.length_nil, List.length_cons, Nat.reduceAdd, Nat.reduceLeDiff, Nat.zero_le, Option.toList_some, Option.toList_none, List.cons_append, List.nil_append, or_true, true_or, or_false, false_or, Nat.reduceEqDiff, not_true_eq_false, not_false_eq_true, false_and, and_false, false_implies, true_implies, implies_true, ne_eq, and_self, ok1, M3.k40, M3.r40, z41, M3.k41, M3.n41, isIA, vpT, nI_clamp, nI_add, M3.rd, gK_pI, gN_pI, gR_pI, gI_same, gI_diff, u1_eq, u1_ne, e7]
  exact q _ ((M3.set _ _).set _ _)
/-- a bid comes and trades with the ask x -/
theorem RelG.tr1 {i x n p Y : Nat} (h : RelG w a pos i) (hx : x < a 11) (hY : Y < 1000) (h0 : ∀ y, Y < y → wO w (pos x) y = 0) (hi : i < 17) (hki : wF w i 2 < 6) (hkj : wF w (pos x) 2 < 6) (hn : n = min (wF w i 3) (wF w (pos x) 3)) :
    RelG (opTrade w i (pos x) p) (u1 (u1 (u1 (u1 (mvN (u1 a (20 + wF w (pos x) 2) (wK w (wF w (pos x) 2) 0 + n * p)) (6144 + 1000 * x) (144 + 1000 * wF w i 2) n Y 1000) 7 (wS w 7 + n)) 8 p) (20 + wF w i 2) (wK (sK w (wF w (pos x) 2) 0 (wK w (wF w (pos x) 2) 0 + n * p)) (wF w i 2) 0 + n * (wF w i 4 - p))) (112 + x) (wF w (pos x) 3 - n)) pos i := by
  have hpx := (h.o hx).1.2
  have R1 := (h.setE 3 (wF w i 3 - n)).setK hkj (f := 0) (by decide) (wK w (wF w (pos x) 2) 0 + n * p)
  have e11 : u1 a (20 + 6 * 0 + wF w (pos x) 2) (wK w (wF w (pos x) 2) 0 + n * p) 11 = a 11 := u1_ne (by omega)
  have R2 := R1.mvXK (x := x) (k := wF w i 2) (m := n) (Y := Y) (by rw [e11]; exact hx) hki hY h0
  have R5 := ((R2.setS (j := 7) (by decide) (by decide) (wS w 7 + n)).setS (j := 8) (by decide) (by decide) p).setK hki (f := 0) (by decide) (wK (sK w (wF w (pos x) 2) 0 (wK w (wF w (pos x) 2) 0 + n * p)) (wF w i 2) 0 + n * (wF w i 4 - p))
  have R6 := R5.setL (x := x) (v := wF w (pos x) 3 - n) (by
    rw [u1_ne (by omega), u1_ne (show 11 ≠ scI 8 by decide), u1_ne (show 11 ≠ scI 7 by decide), mv_n (by omega) (by omega), e11]
    exact hx) (by
    show _ ≤ u2 w.2.2.2.1 i 3 _ (pos x) 3
    rw [u2_ne hpx]
    exact Nat.sub_le _ _)
  subst hn
  exact R6
/-- an ask comes and trades with the bid x -/
theorem RelG.tr0 {i x n p Y : Nat} (h : RelG w a pos i) (hx : x < a 11) (hY : Y < 1000) (h0 : ∀ y, Y < y → wO w i y = 0) (hi : i < 17) (hki : wF w i 2 < 6) (hkj : wF w (pos x) 2 < 6) (hn : n = min (wF w (pos x) 3) (wF w i 3)) (hp : wF w (pos x) 4 = p) :
    RelG (opTrade w (pos x) i p) (u1 (u1 (u1 (mvN (u1 a (20 + wF w i 2) (wK w (wF w i 2) 0 + n * p)) 22144 (144 + 1000 * wF w (pos x) 2) n Y 1000) 7 (wS w 7 + n)) 8 p) (112 + x) (wF w (pos x) 3 - n)) pos i := by
  have hpx := (h.o hx).1.2
  have R1 := h.setK hki (f := 0) (by decide) (wK w (wF w i 2) 0 + n * p)
  have e11 : u1 a (20 + 6 * 0 + wF w i 2) (wK w (wF w i 2) 0 + n * p) 11 = a 11 := u1_ne (by omega)
  have R2 := R1.mvIK (k := wF w (pos x) 2) (m := n) (Y := Y) hi hkj hY h0
  have R5 := (R2.setS (j := 7) (by decide) (by decide) (wS w 7 + n)).setS (j := 8) (by decide) (by decide) p
  have R6 := R5.setL (x := x) (v := wF w (pos x) 3 - n) (by
    rw [u1_ne (show 11 ≠ scI 8 by decide), u1_ne (show 11 ≠ scI 7 by decide), mv_n (by omega) (by omega), e11]
    exact hx) (Nat.sub_le _ _)
  have R7 := R6.setE 3 (wF w i 3 - n)
  subst hn
  refine R7.ext (fun _ _ => rfl) (fun c hc => ⟨fun f hf => ?_, fun y hy => ?_⟩) (fun c hc => ⟨fun f hf => ?_, fun y hy => ?_⟩)
  · subst hp
    refine congrFun (congrFun (u2_id (f := u2 w.2.1 (wF w i 2) 0 (wK w (wF w i 2) 0 + min (wF w (pos x) 3) (wF w i 3) * wF w (pos x) 4)) (k := wF w (pos x) 2) (j := 0) ?_) c) f
    rw [Nat.sub_self, Nat.mul_zero, Nat.add_zero]
    rfl
  · rfl
  · rfl
  · rfl
end Mtr
