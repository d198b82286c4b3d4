/-! ===== the model: an order comes, 2 ===== -/
theorem ur_id {f : Nat → Nat → Nat} {k : Nat} {r : Nat → Nat} (h : r = f k) : ur f k r = f := by
  funext c
  unfold ur
  by_cases e : c = k
  · rw [if_pos e, h, e]
  · rw [if_neg e]
/-- an order that can't stand goes back -/
theorem opEnd_all {w : Rw} {i : Nat} (hc : wF w i 3 = 0 ∨ 16 < cntN w) (hr : rt (wO w i) = if wF w i 1 = 0 then wF w i 3 else 0) : wS (opEnd w i) = wS w ∧ wK (opEnd w i) = u2 (wK w) (wF w i 2) 0 (wK w (wF w i 2) 0 + hbF w i) ∧ wP (opEnd w i) = ur (wP w) (wF w i 2) (rgo (wP w (wF w i 2)) (wO w i) (rt (wO w i))) ∧ wF (opEnd w i) = u2 (wF w) i 3 0 ∧ wO (opEnd w i) = ur (wO w) i (rsu (wO w i) (rt (wO w i))) := by
  unfold opEnd
  by_cases h : 0 < wF w i 3 ∧ 16 < cntN w
  · rw [if_pos h]
    exact ⟨rfl, rfl, rfl, rfl, rfl⟩
  · rw [if_neg h]
    have h0 : wF w i 3 = 0 := by omega
    have r0 : rt (wO w i) = 0 := by
      rw [hr, h0]
      split <;> rfl
    have b0 : hbF w i = 0 := by
      unfold hbF
      rw [h0, Nat.zero_mul]
      split <;> rfl
    rw [b0, r0, rgo_0, rsu_0]
    exact ⟨rfl, (u2_id (Nat.add_zero _)).symm, (ur_id rfl).symm, (u2_id h0.symm).symm, (ur_id rfl).symm⟩
theorem opEnd_stay {w : Rw} {i : Nat} (h : cntN w ≤ 16) : opEnd w i = w := by
  unfold opEnd
  rw [if_neg (by omega)]
section Mc2
variable {g0 : mG} {Q : mQ} {A0 : Nat → Nat → Nat}
theorem comes_end {I : Rw → Prop} (hI : mInv I) (hIA : ∀ w, I w → InvA w) {b k n p i : Nat} (hb : b ≤ 1) (hk : k < 6) (hi : i < 17) (hp : p ≤ 500) {g : mG} {a pos : Nat → Nat} {w : Rw} {l6 l7 l8 : Value} (h6 : okl l6) (h8 : okl l8) (M : MT g0 g A0 a) (R : RelG w a pos i) (N : RlN w a pos) (hw : I w) (hC : CmI i b k p w) (hLn : wF w i 3 ≤ n)
    (q : ∀ g' a', MT g0 g' A0 a' → RelN (opEnd w i) a' → Q (some (.int (nI (n - wF w i 3)))) g') : WP m_X7_comes Q 274 [.ref 40, .int (nI b), .int (nI k), .int (nI n), .int (nI p), .int (nI (wF w i 3)), l6, l7, l8] [] g := by
  obtain ⟨hc1, hc2, hc3, hc4⟩ := hC
  obtain ⟨hB, _⟩ := hI.1 w hw
  have hA := hIA w hw
  obtain ⟨bi1, bi2, bi3⟩ := hB.2.2 i hi
  have f3 := bi1 3 (by decide)
  have hY := hA.1.1
  have hrt := (hA.2.1 i hi).2.2
  have e2 : a 2 + 1 = wS w 6 := by
    have := R.1.2
    rw [if_pos hi] at this
    exact this
  have eN : wF w i 0 = a 2 := by omega
  simp (disch := omega) only [e_X7_comes_274, e_X7_comes_275, e_X7_comes_278, e_X7_comes_279, e_X7_comes_280, e_X7_comes_282, e_X7_comes_283, e_X7_comes_286, e_X7_comes_287, e_X7_comes_288, e_X7_comes_289, e_X7_comes_290, e_X7_comes_291, tand, true_and, and_true, nl1_int, nl1_ref, nl1_null, nl1_ra, cat1_int, cat1_ref, cat1_null, stbs_nil, stbs_cons, stb_int, stb_long, stb_ref, stb_null, stb_ra, alv_nil, alv_cons, alv1_int, alv1_ref, alv1_null, alv1_ra, List.length_nil, List.length_cons, Nat.reduceAdd, Nat.reduceLeDiff, Nat.zero_le, Option.toList_some, Option.toList_none, List.cons_append, List.nil_append, or_true, true_or, or_false, false_or, Nat.reduceEqDiff, not_true_eq_false, not_false_eq_true, false_and, and_false, false_implies, true_implies, implies_true, ne_eq, and_self, ok1, M.k40, M.r40, z41, M.k41, M.n41, isIA, vpT, nI_clamp, nI_add, M.rd, gK_pI, gN_pI, gR_pI, gI_same, gI_diff, u1_eq, u1_ne, h6.1]
  refine M.wp fun g5 M5 => ?_
  have R5 := R.ever
  have a11 : u1 a 2 (a 2 + 1) 11 = a 11 := u1_ne (by decide)
  have a2' : u1 a 2 (a 2 + 1) 2 = wS w 6 := by rw [u1_eq]; exact e2
  have m16 := R.2.2.1.1
  generalize u1 a 2 (a 2 + 1) = a5 at *
  have k0 : a5 (20 + k) = wK w k 0 := R5.k hk 0 (by decide)
  have y0 : a5 0 = wS w 0 := R5.s 0 (by decide) (by decide)
  have ro : ∀ y, y < 1000 → a5 (22144 + y) = wO w i y := fun y hy => by rw [R5.2.2.2.2 y hy]; exact if_pos hi
  have rb : ∀ y, y < 1000 → wO w i y < 2 ^ 28 := fun y hy => by
    have := rt_ge (r := wO w i) (y := y) (by omega)
    omega
  have ret : ∀ {g6 : mG} {l8 : Value}, Q (some (.int (nI (n - wF w i 3)))) g6 → WP m_X7_comes Q 451 [.ref 40, .int (nI b), .int (nI k), .int (nI n), .int (nI p), .int (nI (wF w i 3)), l6, .int (nI (a 2)), l8] [] g6 := fun {g6 l8} h => by
    simp only [e_X7_comes_451, e_X7_comes_452, e_X7_comes_454, e_X7_comes_455, tand, true_and, and_true, nl1_int, nl1_ref, nl1_null, nl1_ra, cat1_int, cat1_ref, cat1_null, stbs_nil, stbs_cons, stb_int, stb_long, stb_ref, stb_null, stb_ra, alv_nil, alv_cons, alv1_int, alv1_ref, alv1_null, alv1_ra, List.length_nil, List.length_cons, Nat.reduceAdd, Nat.reduceLeDiff, Nat.zero_le, Option.toList_some, Option.toList_none, List.cons_append, List.nil_append, or_true, true_or, or_false, false_or, Nat.reduceEqDiff, not_true_eq_false, not_false_eq_true, false_and, and_false, false_implies, true_implies, implies_true, ne_eq, and_self, ok1, pk_sub hLn]
    exact h
  have give : ∀ {l8 : Value}, okl l8 → (wF w i 3 = 0 ∨ 16 < cntN w) → WP m_X7_comes Q 411 [.ref 40, .int (nI b), .int (nI k), .int (nI n), .int (nI p), .int (nI (wF w i 3)), l6, .int (nI (a 2)), l8] [] g5 := fun {l8} h8 hcond => by
    obtain ⟨s1, s2, s3, s4, s5⟩ := opEnd_all hcond hrt
    rw [hc2] at s2 s3
    have n5 : ∀ {a6 : Nat → Nat}, a6 11 = a 11 → RlN (opEnd w i) a6 pos := fun {a6} e x hx => by
      rw [e] at hx
      rw [s4, u2_ne (R.o hx).1.2]
      exact N x hx
    have hbb : b = 1 ∨ b = 0 := by omega
    rcases hbb with hb1 | hb0
    · subst hb1
      have hbf : hbF w i = wF w i 3 * p := by
        unfold hbF
        rw [if_neg (by omega), hc3]
      have r0 : rt (wO w i) = 0 := by rw [hrt, if_neg (by omega)]
      simp (disch := omega) only [e_X7_comes_411, e_X7_comes_412, e_X7_comes_413, e_X7_comes_416, e_X7_comes_417, e_X7_comes_420, e_X7_comes_422, e_X7_comes_423, e_X7_comes_424, e_X7_comes_425, e_X7_comes_426, e_X7_comes_428, e_X7_comes_430, e_X7_comes_431, e_X7_comes_432, tand, true_and, and_true, nl1_int, nl1_ref, nl1_null, nl1_ra, cat1_int, cat1_ref, cat1_null, stbs_nil, stbs_cons, stb_int, stb_long, stb_ref, stb_null, stb_ra, alv_nil, alv_cons, alv1_int, alv1_ref, alv1_null, alv1_ra, List.length_nil, List.length_cons, Nat.reduceAdd, Nat.reduceLeDiff, Nat.zero_le, Option.toList_some, Option.toList_none, List.cons_append, List.nil_append, or_true, true_or, or_false, false_or, Nat.reduceEqDiff, not_true_eq_false, not_false_eq_true, false_and, and_false, false_implies, true_implies, implies_true, ne_eq, and_self, ok1, M5.k40, M5.r40, z41, M5.k41, M5.n41, isIA, vpT, nI_clamp, nI_add, M5.rd, gK_pI, gN_pI, gR_pI, gI_same, gI_diff, u1_eq, u1_ne, k0, pk_mul]
      refine M5.wp fun g6 M6 => ?_
      simp only [e_X7_comes_433, tand, true_and, and_true, nl1_int, nl1_ref, nl1_null, nl1_ra, cat1_int, cat1_ref, cat1_null, stbs_nil, stbs_cons, stb_int, stb_long, stb_ref, stb_null, stb_ra, alv_nil, alv_cons, alv1_int, alv1_ref, alv1_null, alv1_ra, List.length_nil, List.length_cons, Nat.reduceAdd, Nat.reduceLeDiff, Nat.zero_le, Option.toList_some, Option.toList_none, List.cons_append, List.nil_append, or_true, true_or, or_false, false_or, Nat.reduceEqDiff, not_true_eq_false, not_false_eq_true, false_and, and_false, false_implies, true_implies, implies_true, ne_eq, and_self, ok1]
      refine ret (q g6 _ M6 ⟨pos, ((R5.setK hk (f := 0) (by decide) (wK w k 0 + wF w i 3 * p)).setE 3 0).shut hi ?_ (fun y hy => ?_) (fun j hj j6 => ?_) ?_ (fun c hc => ⟨fun f hf => ?_, fun y hy => ?_⟩) (fun c hc => ⟨fun f hf => ?_, fun y hy => ?_⟩), n5 ?_⟩)
      · show u2 w.2.2.2.1 i 3 0 i 3 = 0
        rw [u2_eq, u1_eq]
      · exact rt_0 r0 (by omega)
      · rw [s1]
        exact (u1_ne j6).symm
      · rw [s1, u1_ne (by omega)]
        exact a2'.symm
      · rw [s2, hbf]; rfl
      · rw [s3, r0, rgo_0, ur_id rfl]; rfl
      · rw [s4]; rfl
      · rw [s5, r0, rsu_0, ur_id rfl]; rfl
      · rw [u1_ne (by omega)]; exact a11
    · subst hb0
      have hbf : hbF w i = 0 := by
        unfold hbF
        rw [if_pos hc1]
      rw [if_pos hc1] at hrt
      simp (disch := omega) only [e_X7_comes_411, e_X7_comes_412, e_X7_comes_413, e_X7_comes_436, e_X7_comes_437, e_X7_comes_439, tand, true_and, and_true, nl1_int, nl1_ref, nl1_null, nl1_ra, cat1_int, cat1_ref, cat1_null, stbs_nil, stbs_cons, stb_int, stb_long, stb_ref, stb_null, stb_ra, alv_nil, alv_cons, alv1_int, alv1_ref, alv1_null, alv1_ra, List.length_nil, List.length_cons, Nat.reduceAdd, Nat.reduceLeDiff, Nat.zero_le, Option.toList_some, Option.toList_none, List.cons_append, List.nil_append, or_true, true_or, or_false, false_or, Nat.reduceEqDiff, not_true_eq_false, not_false_eq_true, false_and, and_false, false_implies, true_implies, implies_true, ne_eq, and_self, ok1, M5.k40, M5.r40, z41, M5.k41, M5.n41, isIA, vpT, nI_clamp, nI_add, M5.rd, gK_pI, gN_pI, gR_pI, gI_same, gI_diff, u1_eq, u1_ne, nI_eqE, h6.2, h8.2]
      refine c_X7_offer16 ?_
      simp (disch := omega) only [e_X7_comes_442, e_X7_comes_443, tand, true_and, and_true, nl1_int, nl1_ref, nl1_null, nl1_ra, cat1_int, cat1_ref, cat1_null, stbs_nil, stbs_cons, stb_int, stb_long, stb_ref, stb_null, stb_ra, alv_nil, alv_cons, alv1_int, alv1_ref, alv1_null, alv1_ra, List.length_nil, List.length_cons, Nat.reduceAdd, Nat.reduceLeDiff, Nat.zero_le, Option.toList_some, Option.toList_none, List.cons_append, List.nil_append, or_true, true_or, or_false, false_or, Nat.reduceEqDiff, not_true_eq_false, not_false_eq_true, false_and, and_false, false_implies, true_implies, implies_true, ne_eq, and_self, ok1, M5.k40, M5.r40, z41, M5.k41, M5.n41, isIA, vpT, nI_clamp, nI_add, M5.rd, gK_pI, gN_pI, gR_pI, gI_same, gI_diff, u1_eq, u1_ne, h6.2, h8.2]
      refine c_X7_own ?_
      simp (disch := omega) only [e_X7_comes_446, e_X7_comes_448, tand, true_and, and_true, nl1_int, nl1_ref, nl1_null, nl1_ra, cat1_int, cat1_ref, cat1_null, stbs_nil, stbs_cons, stb_int, stb_long, stb_ref, stb_null, stb_ra, alv_nil, alv_cons, alv1_int, alv1_ref, alv1_null, alv1_ra, List.length_nil, List.length_cons, Nat.reduceAdd, Nat.reduceLeDiff, Nat.zero_le, Option.toList_some, Option.toList_none, List.cons_append, List.nil_append, or_true, true_or, or_false, false_or, Nat.reduceEqDiff, not_true_eq_false, not_false_eq_true, false_and, and_false, false_implies, true_implies, implies_true, ne_eq, and_self, ok1, M5.k40, M5.r40, z41, M5.k41, M5.n41, isIA, vpT, nI_clamp, nI_add, M5.rd, gK_pI, gN_pI, gR_pI, gI_same, gI_diff, u1_eq, u1_ne, h6.2, h8.2]
      refine c_X7_moves M5 f3 y0 hY (by omega) (by omega) (by omega) (fun y hy => by rw [ro y (by omega)]; exact rb y (by omega)) fun g6 a6 M6' hM6 => ?_
      have M6 := M6'.ext (b := mvN a5 22144 (144 + 1000 * k) (wF w i 3) (wS w 0) 1000) fun c _ => (hM6 c).symm
      refine ret (q g6 _ M6 ⟨pos, ((R5.mvIK (k := k) (m := wF w i 3) (Y := wS w 0) hi hk hY (hA.1.2.2 i hi)).setE 3 0).shut hi ?_ (fun y hy => ?_) (fun j hj j6 => ?_) ?_ (fun c hc => ⟨fun f hf => ?_, fun y hy => ?_⟩) (fun c hc => ⟨fun f hf => ?_, fun y hy => ?_⟩), n5 ?_⟩)
      · show u2 w.2.2.2.1 i 3 0 i 3 = 0
        rw [u2_eq, u1_eq]
      · show ur w.2.2.2.2 i (rsu (wO w i) (wF w i 3)) i y = 0
        rw [ur_eq, ← hrt]
        exact rsu_all (by omega)
      · rw [s1]
        exact (u1_ne j6).symm
      · rw [s1, mv_n (by omega) (by omega)]
        exact a2'.symm
      · rw [s2, hbf, u2_id (Nat.add_zero _)]; rfl
      · rw [s3, hrt]; rfl
      · rw [s4]; rfl
      · rw [s5, hrt]; rfl
      · rw [mv_n (by omega) (by omega)]; exact a11
  simp (disch := omega) only [e_X7_comes_292, e_X7_comes_294, tand, true_and, and_true, nl1_int, nl1_ref, nl1_null, nl1_ra, cat1_int, cat1_ref, cat1_null, stbs_nil, stbs_cons, stb_int, stb_long, stb_ref, stb_null, stb_ra, alv_nil, alv_cons, alv1_int, alv1_ref, alv1_null, alv1_ra, List.length_nil, List.length_cons, Nat.reduceAdd, Nat.reduceLeDiff, Nat.zero_le, Option.toList_some, Option.toList_none, List.cons_append, List.nil_append, or_true, true_or, or_false, false_or, Nat.reduceEqDiff, not_true_eq_false, not_false_eq_true, false_and, and_false, false_implies, true_implies, implies_true, ne_eq, and_self, ok1, nI_le0]
  refine ⟨fun hL0 => give h8 (Or.inl hL0), fun hL0 => ?_⟩
  have hcn := R.cnt N hi (by omega)
  simp (disch := omega) only [e_X7_comes_297, e_X7_comes_298, e_X7_comes_301, e_X7_comes_303, e_X7_comes_304, e_X7_comes_306, tand, true_and, and_true, nl1_int, nl1_ref, nl1_null, nl1_ra, cat1_int, cat1_ref, cat1_null, stbs_nil, stbs_cons, stb_int, stb_long, stb_ref, stb_null, stb_ra, alv_nil, alv_cons, alv1_int, alv1_ref, alv1_null, alv1_ra, List.length_nil, List.length_cons, Nat.reduceAdd, Nat.reduceLeDiff, Nat.zero_le, Option.toList_some, Option.toList_none, List.cons_append, List.nil_append, or_true, true_or, or_false, false_or, Nat.reduceEqDiff, not_true_eq_false, not_false_eq_true, false_and, and_false, false_implies, true_implies, implies_true, ne_eq, and_self, ok1, M5.k40, M5.r40, z41, M5.k41, M5.n41, isIA, vpT, nI_clamp, nI_add, M5.rd, gK_pI, gN_pI, gR_pI, gI_same, gI_diff, u1_eq, u1_ne, a11, nI_leE]
  refine ⟨fun h16 => give h8 (Or.inr (by omega)), fun h16 => ?_⟩
  have hst := opEnd_stay (w := w) (i := i) (by omega)
  rw [hst] at q
  generalize hx : a 11 = x at *
  simp (disch := omega) only [e_X7_comes_309, e_X7_comes_310, e_X7_comes_313, e_X7_comes_315, e_X7_comes_316, e_X7_comes_318, e_X7_comes_319, e_X7_comes_322, e_X7_comes_324, e_X7_comes_326, e_X7_comes_327, e_X7_comes_329, e_X7_comes_330, e_X7_comes_331, e_X7_comes_334, e_X7_comes_336, e_X7_comes_338, e_X7_comes_339, e_X7_comes_340, e_X7_comes_341, e_X7_comes_342, e_X7_comes_345, e_X7_comes_347, e_X7_comes_349, e_X7_comes_350, e_X7_comes_351, e_X7_comes_352, e_X7_comes_353, e_X7_comes_356, e_X7_comes_358, e_X7_comes_360, e_X7_comes_361, e_X7_comes_363, e_X7_comes_364, e_X7_comes_365, e_X7_comes_368, e_X7_comes_371, e_X7_comes_373, e_X7_comes_374, e_X7_comes_376, tand, true_and, and_true, nl1_int, nl1_ref, nl1_null, nl1_ra, cat1_int, cat1_ref, cat1_null, stbs_nil, stbs_cons, stb_int, stb_long, stb_ref, stb_null, stb_ra, alv_nil, alv_cons, alv1_int, alv1_ref, alv1_null, alv1_ra, List.length_nil, List.length_cons, Nat.reduceAdd, Nat.reduceLeDiff, Nat.zero_le, Option.toList_some, Option.toList_none, List.cons_append, List.nil_append, or_true, true_or, or_false, false_or, Nat.reduceEqDiff, not_true_eq_false, not_false_eq_true, false_and, and_false, false_implies, true_implies, implies_true, ne_eq, and_self, ok1, M5.k40, M5.r40, z41, M5.k41, M5.n41, isIA, vpT, nI_clamp, nI_add, M5.rd, gK_pI, gN_pI, gR_pI, gI_same, gI_diff, u1_eq, u1_ne, a11]
  have M6 := ((((M5.set (64 + x) (a 2)).set (80 + x) k).set (96 + x) b).set (112 + x) (wF w i 3)).set (128 + x) p
  have u0 : ∀ c, c ≠ 64 + x → c ≠ 80 + x → c ≠ 96 + x → c ≠ 112 + x → c ≠ 128 + x → u1 (u1 (u1 (u1 (u1 a5 (64 + x) (a 2)) (80 + x) k) (96 + x) b) (112 + x) (wF w i 3)) (128 + x) p c = a5 c := fun c n1 n2 n3 n4 n5 => by rw [u1_ne n5, u1_ne n4, u1_ne n3, u1_ne n2, u1_ne n1]
  have v0 : u1 (u1 (u1 (u1 (u1 a5 (64 + x) (a 2)) (80 + x) k) (96 + x) b) (112 + x) (wF w i 3)) (128 + x) p (64 + x) = a 2 := by rw [u1_ne (by omega), u1_ne (by omega), u1_ne (by omega), u1_ne (by omega), u1_eq]
  have v1 : u1 (u1 (u1 (u1 (u1 a5 (64 + x) (a 2)) (80 + x) k) (96 + x) b) (112 + x) (wF w i 3)) (128 + x) p (80 + x) = k := by rw [u1_ne (by omega), u1_ne (by omega), u1_ne (by omega), u1_eq]
  have v2 : u1 (u1 (u1 (u1 (u1 a5 (64 + x) (a 2)) (80 + x) k) (96 + x) b) (112 + x) (wF w i 3)) (128 + x) p (96 + x) = b := by rw [u1_ne (by omega), u1_ne (by omega), u1_eq]
  have v3 : u1 (u1 (u1 (u1 (u1 a5 (64 + x) (a 2)) (80 + x) k) (96 + x) b) (112 + x) (wF w i 3)) (128 + x) p (112 + x) = wF w i 3 := by rw [u1_ne (by omega), u1_eq]
  have v4 : u1 (u1 (u1 (u1 (u1 a5 (64 + x) (a 2)) (80 + x) k) (96 + x) b) (112 + x) (wF w i 3)) (128 + x) p (128 + x) = p := u1_eq
  generalize pI (pI (pI (pI (pI g5 41 (64 + x) (nI (a 2))) 41 (80 + x) (nI k)) 41 (96 + x) (nI b)) 41 (112 + x) (nI (wF w i 3))) 41 (128 + x) (nI p) = g6 at *
  generalize u1 (u1 (u1 (u1 (u1 a5 (64 + x) (a 2)) (80 + x) k) (96 + x) b) (112 + x) (wF w i 3)) (128 + x) p = a6 at *
  have s11 : a6 11 = x := by rw [u0 11 (by omega) (by omega) (by omega) (by omega) (by omega)]; exact a11
  have s0 : a6 0 = wS w 0 := by rw [u0 0 (by omega) (by omega) (by omega) (by omega) (by omega)]; exact y0
  have zr : ∀ y, y < 1000 → a5 (6144 + 1000 * x + y) = 0 := fun y hy => R5.2.2.2.1 x (by omega) (by omega) y hy
  -- the last write
  have last : ∀ {g7 : mG} {a7 : Nat → Nat}, MT g0 g7 A0 a7 → a7 11 = x → (∀ y, y < 1000 → a7 (6144 + 1000 * x + y) = wO w i y) → (∀ y, y < 1000 → a7 (22144 + y) = 0) → (∀ c, c < 22144 → (c < 6144 + 1000 * x ∨ 6144 + 1000 * x + 1000 ≤ c) → a7 c = a6 c) → WP m_X7_comes Q 397 [.ref 40, .int (nI b), .int (nI k), .int (nI n), .int (nI p), .int (nI (wF w i 3)), l6, .int (nI (a 2)), .int (nI x)] [] g7 := fun {g7 a7} M7 e11 er e0 eq => by
    simp (disch := omega) only [e_X7_comes_397, e_X7_comes_398, e_X7_comes_401, e_X7_comes_403, e_X7_comes_404, e_X7_comes_405, e_X7_comes_406, e_X7_comes_407, tand, true_and, and_true, nl1_int, nl1_ref, nl1_null, nl1_ra, cat1_int, cat1_ref, cat1_null, stbs_nil, stbs_cons, stb_int, stb_long, stb_ref, stb_null, stb_ra, alv_nil, alv_cons, alv1_int, alv1_ref, alv1_null, alv1_ra, List.length_nil, List.length_cons, Nat.reduceAdd, Nat.reduceLeDiff, Nat.zero_le, Option.toList_some, Option.toList_none, List.cons_append, List.nil_append, or_true, true_or, or_false, false_or, Nat.reduceEqDiff, not_true_eq_false, not_false_eq_true, false_and, and_false, false_implies, true_implies, implies_true, ne_eq, and_self, ok1, M7.k40, M7.r40, z41, M7.k41, M7.n41, isIA, vpT, nI_clamp, nI_add, M7.rd, gK_pI, gN_pI, gR_pI, gI_same, gI_diff, u1_eq, u1_ne, e11]
    refine M7.wp fun g8 M8 => ?_
    simp only [e_X7_comes_408, tand, true_and, and_true, nl1_int, nl1_ref, nl1_null, nl1_ra, cat1_int, cat1_ref, cat1_null, stbs_nil, stbs_cons, stb_int, stb_long, stb_ref, stb_null, stb_ra, alv_nil, alv_cons, alv1_int, alv1_ref, alv1_null, alv1_ra, List.length_nil, List.length_cons, Nat.reduceAdd, Nat.reduceLeDiff, Nat.zero_le, Option.toList_some, Option.toList_none, List.cons_append, List.nil_append, or_true, true_or, or_false, false_or, Nat.reduceEqDiff, not_true_eq_false, not_false_eq_true, false_and, and_false, false_implies, true_implies, implies_true, ne_eq, and_self, ok1]
    have w0 : ∀ c, c ≠ 11 → u1 a7 11 (x + 1) c = a7 c := fun c hc => u1_ne hc
    refine ret (q g8 _ M8 ⟨psS pos x i, R5.stand hi a11 (by omega) (fun j hj j6 => (u1_ne j6).symm) a2'.symm (fun _ _ => ⟨fun _ _ => rfl, fun _ _ => rfl⟩) (fun _ _ => ⟨fun _ _ => rfl, fun _ _ => rfl⟩) u1_eq ⟨⟨?_, ?_, ?_, ?_, ?_⟩, fun y hy => ?_⟩ (fun y hy => ?_) (fun c c1 c2 c3 c4 c5 c6 c7 c8 => ?_), fun z hz => ?_⟩)
    · rw [w0 _ (by omega), eq _ (by omega) (by omega), v0]; exact eN.symm
    · rw [w0 _ (by omega), eq _ (by omega) (by omega), v1]; exact hc2.symm
    · rw [w0 _ (by omega), eq _ (by omega) (by omega), v2]; exact hc1.symm
    · rw [w0 _ (by omega), eq _ (by omega) (by omega), v3]; rfl
    · rw [w0 _ (by omega), eq _ (by omega) (by omega), v4]; exact hc3.symm
    · rw [w0 _ (by omega)]; exact er y hy
    · rw [w0 _ (by omega)]; exact e0 y hy
    · rw [w0 _ c2, eq c c1 c8, u0 c c3 c4 c5 c6 c7]
    · have e12 : u1 a7 11 (x + 1) 11 = x + 1 := u1_eq
      rw [e12] at hz
      unfold psS
      by_cases ez : z = x
      · rw [if_pos ez]; omega
      · rw [if_neg ez]; exact N z (by omega)
  have hbb : b = 1 ∨ b = 0 := by omega
  rcases hbb with hb1 | hb0
  · subst hb1
    have r0 : rt (wO w i) = 0 := by rw [hrt, if_neg (by omega)]
    simp (disch := omega) only [e_X7_comes_377, e_X7_comes_378, tand, true_and, and_true, nl1_int, nl1_ref, nl1_null, nl1_ra, cat1_int, cat1_ref, cat1_null, stbs_nil, stbs_cons, stb_int, stb_long, stb_ref, stb_null, stb_ra, alv_nil, alv_cons, alv1_int, alv1_ref, alv1_null, alv1_ra, List.length_nil, List.length_cons, Nat.reduceAdd, Nat.reduceLeDiff, Nat.zero_le, Option.toList_some, Option.toList_none, List.cons_append, List.nil_append, or_true, true_or, or_false, false_or, Nat.reduceEqDiff, not_true_eq_false, not_false_eq_true, false_and, and_false, false_implies, true_implies, implies_true, ne_eq, and_self, ok1, n1z]
    refine last M6 s11 (fun y hy => ?_) (fun y hy => ?_) fun _ _ _ => rfl
    · rw [u0 _ (by omega) (by omega) (by omega) (by omega) (by omega), zr y hy]
      exact (rt_0 r0 (by omega)).symm
    · rw [u0 _ (by omega) (by omega) (by omega) (by omega) (by omega), ro y hy]
      exact rt_0 r0 (by omega)
  · subst hb0
    rw [if_pos hc1] at hrt
    simp (disch := omega) only [e_X7_comes_377, e_X7_comes_378, e_X7_comes_381, e_X7_comes_382, e_X7_comes_384, tand, true_and, and_true, nl1_int, nl1_ref, nl1_null, nl1_ra, cat1_int, cat1_ref, cat1_null, stbs_nil, stbs_cons, stb_int, stb_long, stb_ref, stb_null, stb_ra, alv_nil, alv_cons, alv1_int, alv1_ref, alv1_null, alv1_ra, List.length_nil, List.length_cons, Nat.reduceAdd, Nat.reduceLeDiff, Nat.zero_le, Option.toList_some, Option.toList_none, List.cons_append, List.nil_append, or_true, true_or, or_false, false_or, Nat.reduceEqDiff, not_true_eq_false, not_false_eq_true, false_and, and_false, false_implies, true_implies, implies_true, ne_eq, and_self, ok1, M6.k40, M6.r40, z41, M6.k41, M6.n41, isIA, vpT, nI_clamp, nI_add, M6.rd, gK_pI, gN_pI, gR_pI, gI_same, gI_diff, u1_eq, u1_ne, n0z, h6.2]
    refine c_X7_offer16 ?_
    simp (disch := omega) only [e_X7_comes_387, e_X7_comes_389, tand, true_and, and_true, nl1_int, nl1_ref, nl1_null, nl1_ra, cat1_int, cat1_ref, cat1_null, stbs_nil, stbs_cons, stb_int, stb_long, stb_ref, stb_null, stb_ra, alv_nil, alv_cons, alv1_int, alv1_ref, alv1_null, alv1_ra, List.length_nil, List.length_cons, Nat.reduceAdd, Nat.reduceLeDiff, Nat.zero_le, Option.toList_some, Option.toList_none, List.cons_append, List.nil_append, or_true, true_or, or_false, false_or, Nat.reduceEqDiff, not_true_eq_false, not_false_eq_true, false_and, and_false, false_implies, true_implies, implies_true, ne_eq, and_self, ok1, M6.k40, M6.r40, z41, M6.k41, M6.n41, isIA, vpT, nI_clamp, nI_add, M6.rd, gK_pI, gN_pI, gR_pI, gI_same, gI_diff, u1_eq, u1_ne, h6.2]
    refine c_X7_offer ?_
    simp (disch := omega) only [e_X7_comes_392, e_X7_comes_394, tand, true_and, and_true, nl1_int, nl1_ref, nl1_null, nl1_ra, cat1_int, cat1_ref, cat1_null, stbs_nil, stbs_cons, stb_int, stb_long, stb_ref, stb_null, stb_ra, alv_nil, alv_cons, alv1_int, alv1_ref, alv1_null, alv1_ra, List.length_nil, List.length_cons, Nat.reduceAdd, Nat.reduceLeDiff, Nat.zero_le, Option.toList_some, Option.toList_none, List.cons_append, List.nil_append, or_true, true_or, or_false, false_or, Nat.reduceEqDiff, not_true_eq_false, not_false_eq_true, false_and, and_false, false_implies, true_implies, implies_true, ne_eq, and_self, ok1, M6.k40, M6.r40, z41, M6.k41, M6.n41, isIA, vpT, nI_clamp, nI_add, M6.rd, gK_pI, gN_pI, gR_pI, gI_same, gI_diff, u1_eq, u1_ne, h6.2]
    have ro6 : ∀ y, y < 1000 → a6 (22144 + y) = wO w i y := fun y hy => by rw [u0 _ (by omega) (by omega) (by omega) (by omega) (by omega)]; exact ro y hy
    refine c_X7_moves M6 f3 s0 hY (by omega) (by omega) (by omega) (fun y hy => by rw [ro6 y (by omega)]; exact rb y (by omega)) fun g7 a7 M7 hM7 => ?_
    have ey := yrw_eq ro6 (hA.1.2.2 i hi) hY
    refine last M7 ?_ (fun y hy => ?_) (fun y hy => ?_) fun c c1 c2 => ?_
    · rw [hM7, mv_n (by omega) (by omega)]; exact s11
    · rw [hM7, mv_t (b := fun _ => 0) ey hy (by omega) (by rw [u0 _ (by omega) (by omega) (by omega) (by omega) (by omega)]; exact zr y hy), ← hrt]
      show 0 + tk (wO w i) (rt (wO w i)) y = wO w i y
      have := rsu_all (r := wO w i) (y := y) (by omega)
      have t1 := tk_le (r := wO w i) (m := rt (wO w i)) (y := y)
      unfold rsu at this
      omega
    · rw [hM7, mv_f ey hy (ro6 y hy), ← hrt]
      exact rsu_all (by omega)
    · rw [hM7, mv_n (by omega) (by omega)]
theorem c_X7_comes {I : Rw → Prop} (hI : mInv I) (hIA : ∀ w, I w → InvA w) {g : mG} {a pos : Nat → Nat} {w : Rw} {b k n p i : Nat} (M : MT g0 g A0 a) (R : RelB w a pos) (hA : InvA w) (hB : TB w) (hb : b ≤ 1) (hk : k < 6) (hn : n ≤ 999) (hp : p ≤ 500) (hc : b = 1 → n * p ≤ wK w k 0) (hi : i < 17) (h0 : wF w i 3 = 0) (hput : I (opPut w i b k n p))
    (q : ∀ g' a', MT g0 g' A0 a' → RelN (opCome w i b k n p) a' → Q (some (.int (nI (n - wF (meetF i 17 (opPut w i b k n p)) i 3)))) g') : w_X7_comes [.ref 40, .int (nI b), .int (nI k), .int (nI n), .int (nI p)] g Q := by
  refine wm_at rfl ⟨trivial, trivial, trivial, trivial, trivial, trivial⟩ (show WP m_X7_comes Q 0 [.ref 40, .int (nI b), .int (nI k), .int (nI n), .int (nI p), .retAddr 0, .retAddr 0, .retAddr 0, .retAddr 0] [] g from ?_)
  have hO : ∀ y, y < 1000 → wO w i y = 0 := fun y hy => by
    refine rt_0 ?_ (show y < 2000 by omega)
    rw [(hA.2.1 i hi).2.2, h0]
    split <;> rfl
  have RO := (((((R.opn hi h0 hO).setE 0 (wS w 6)).setE 1 b).setE 2 k).setE 3 n).setE 4 p
  obtain ⟨⟨o0, o1, o2, o3, o4⟩, oc, o6, oY⟩ := opPut_F (w := w) (i := i) (b := b) (k := k) (l := n) (p := p)
  have hY := hA.1.1
  have s1b : nI 1 - nI b = nI (1 - b) := pk_sub hb
  have K := meetF_keeps hI hi 17 hput (by rw [o1]; exact hb)
  have go : ∀ {g1 : mG} {a1 : Nat → Nat}, MT g0 g1 A0 a1 → RelG (opPut w i b k n p) a1 pos i → a1 11 = a 11 → WP m_X7_comes Q 41 [.ref 40, .int (nI b), .int (nI k), .int (nI n), .int (nI p), .int (nI n), .retAddr 0, .retAddr 0, .retAddr 0] [] g1 := fun {g1 a1} M1 R1 e11 => by
    have hA1 := hIA _ hput
    have hL := R1.lb (hI.1 _ hput).1 fun c hc => (hA1.2.1 c hc).1
    have N1 : RlN (opPut w i b k n p) a1 pos := fun x hx => by
      rw [e11] at hx
      rw [oc _ _ (R1.o (by rw [e11]; exact hx)).1.2]
      exact R.2 x hx
    simp only [e_X7_comes_41, e_X7_comes_42, e_X7_comes_43, e_X7_comes_44, e_X7_comes_45, tand, true_and, and_true, nl1_int, nl1_ref, nl1_null, nl1_ra, cat1_int, cat1_ref, cat1_null, stbs_nil, stbs_cons, stb_int, stb_long, stb_ref, stb_null, stb_ra, alv_nil, alv_cons, alv1_int, alv1_ref, alv1_null, alv1_ra, List.length_nil, List.length_cons, Nat.reduceAdd, Nat.reduceLeDiff, Nat.zero_le, Option.toList_some, Option.toList_none, List.cons_append, List.nil_append, or_true, true_or, or_false, false_or, Nat.reduceEqDiff, not_true_eq_false, not_false_eq_true, false_and, and_false, false_implies, true_implies, implies_true, ne_eq, and_self, ok1, M1.k40, s1b]
    refine c_X7_best M1 hL (by omega) ?_
    simp only [e_X7_comes_48, tand, true_and, and_true, nl1_int, nl1_ref, nl1_null, nl1_ra, cat1_int, cat1_ref, cat1_null, stbs_nil, stbs_cons, stb_int, stb_long, stb_ref, stb_null, stb_ra, alv_nil, alv_cons, alv1_int, alv1_ref, alv1_null, alv1_ra, List.length_nil, List.length_cons, Nat.reduceAdd, Nat.reduceLeDiff, Nat.zero_le, Option.toList_some, Option.toList_none, List.cons_append, List.nil_append, or_true, true_or, or_false, false_or, Nat.reduceEqDiff, not_true_eq_false, not_false_eq_true, false_and, and_false, false_implies, true_implies, implies_true, ne_eq, and_self, ok1]
    have := comes_loop (Q := Q) (n0 := n) hI hIA hb hk hi hp 17 (l7 := .retAddr 0) (l8 := .retAddr 0) ⟨trivial, fun _ => rfl⟩ ⟨trivial, fun _ => rfl⟩ M1 R1 N1 hput ⟨o1, o2, o4, by rw [o0, o6]⟩ (Or.inl (by have := R1.2.2.1.1; omega)) fun g' a' pos' l6 l7 l8 h6 h7 h8 M' R' N' hw' hC' => comes_end hI hIA hb hk hi hp h6 h8 M' R' N' hw' hC' (by have := K.2.1; rw [o3] at this; exact this) q
    rw [o3] at this
    exact this
  have hbb : b = 1 ∨ b = 0 := by omega
  rcases hbb with hb1 | hb0
  · subst hb1
    have hcc := hc rfl
    have k0 : a (20 + k) = wK w k 0 := R.1.k hk 0 (by decide)
    simp (disch := omega) only [e_X7_comes_0, e_X7_comes_1, e_X7_comes_3, e_X7_comes_4, e_X7_comes_5, e_X7_comes_8, e_X7_comes_9, e_X7_comes_12, e_X7_comes_14, e_X7_comes_15, e_X7_comes_16, e_X7_comes_17, e_X7_comes_18, e_X7_comes_19, e_X7_comes_21, e_X7_comes_22, e_X7_comes_23, tand, true_and, and_true, nl1_int, nl1_ref, nl1_null, nl1_ra, cat1_int, cat1_ref, cat1_null, stbs_nil, stbs_cons, stb_int, stb_long, stb_ref, stb_null, stb_ra, alv_nil, alv_cons, alv1_int, alv1_ref, alv1_null, alv1_ra, List.length_nil, List.length_cons, Nat.reduceAdd, Nat.reduceLeDiff, Nat.zero_le, Option.toList_some, Option.toList_none, List.cons_append, List.nil_append, or_true, true_or, or_false, false_or, Nat.reduceEqDiff, not_true_eq_false, not_false_eq_true, false_and, and_false, false_implies, true_implies, implies_true, ne_eq, and_self, ok1, M.k40, M.r40, z41, M.k41, M.n41, isIA, vpT, nI_clamp, nI_add, M.rd, gK_pI, gN_pI, gR_pI, gI_same, gI_diff, u1_eq, u1_ne, k0, pk_mul, pk_sub hcc]
    refine M.wp fun g1 M1 => ?_
    simp only [e_X7_comes_24, tand, true_and, and_true, nl1_int, nl1_ref, nl1_null, nl1_ra, cat1_int, cat1_ref, cat1_null, stbs_nil, stbs_cons, stb_int, stb_long, stb_ref, stb_null, stb_ra, alv_nil, alv_cons, alv1_int, alv1_ref, alv1_null, alv1_ra, List.length_nil, List.length_cons, Nat.reduceAdd, Nat.reduceLeDiff, Nat.zero_le, Option.toList_some, Option.toList_none, List.cons_append, List.nil_append, or_true, true_or, or_false, false_or, Nat.reduceEqDiff, not_true_eq_false, not_false_eq_true, false_and, and_false, false_implies, true_implies, implies_true, ne_eq, and_self, ok1]
    refine go M1 ?_ (u1_ne (by omega))
    have R1 := RO.setK hk (f := 0) (by decide) (wK w k 0 - n * p)
    unfold opPut
    rw [if_pos rfl]
    exact R1
  · subst hb0
    have e0 : a 0 = wS w 0 := R.1.s 0 (by decide) (by decide)
    simp (disch := omega) only [e_X7_comes_0, e_X7_comes_1, e_X7_comes_3, e_X7_comes_4, e_X7_comes_5, e_X7_comes_27, e_X7_comes_28, e_X7_comes_29, tand, true_and, and_true, nl1_int, nl1_ref, nl1_null, nl1_ra, cat1_int, cat1_ref, cat1_null, stbs_nil, stbs_cons, stb_int, stb_long, stb_ref, stb_null, stb_ra, alv_nil, alv_cons, alv1_int, alv1_ref, alv1_null, alv1_ra, List.length_nil, List.length_cons, Nat.reduceAdd, Nat.reduceLeDiff, Nat.zero_le, Option.toList_some, Option.toList_none, List.cons_append, List.nil_append, or_true, true_or, or_false, false_or, Nat.reduceEqDiff, not_true_eq_false, not_false_eq_true, false_and, and_false, false_implies, true_implies, implies_true, ne_eq, and_self, ok1, M.k40, M.r40, z41, M.k41, M.n41, isIA, vpT, nI_clamp, nI_add, M.rd, gK_pI, gN_pI, gR_pI, gI_same, gI_diff, u1_eq, u1_ne, nI_eqE]
    refine c_X7_own ?_
    simp (disch := omega) only [e_X7_comes_32, e_X7_comes_34, tand, true_and, and_true, nl1_int, nl1_ref, nl1_null, nl1_ra, cat1_int, cat1_ref, cat1_null, stbs_nil, stbs_cons, stb_int, stb_long, stb_ref, stb_null, stb_ra, alv_nil, alv_cons, alv1_int, alv1_ref, alv1_null, alv1_ra, List.length_nil, List.length_cons, Nat.reduceAdd, Nat.reduceLeDiff, Nat.zero_le, Option.toList_some, Option.toList_none, List.cons_append, List.nil_append, or_true, true_or, or_false, false_or, Nat.reduceEqDiff, not_true_eq_false, not_false_eq_true, false_and, and_false, false_implies, true_implies, implies_true, ne_eq, and_self, ok1, M.k40, M.r40, z41, M.k41, M.n41, isIA, vpT, nI_clamp, nI_add, M.rd, gK_pI, gN_pI, gR_pI, gI_same, gI_diff, u1_eq, u1_ne]
    refine c_X7_offer16 ?_
    simp (disch := omega) only [e_X7_comes_37, e_X7_comes_38, tand, true_and, and_true, nl1_int, nl1_ref, nl1_null, nl1_ra, cat1_int, cat1_ref, cat1_null, stbs_nil, stbs_cons, stb_int, stb_long, stb_ref, stb_null, stb_ra, alv_nil, alv_cons, alv1_int, alv1_ref, alv1_null, alv1_ra, List.length_nil, List.length_cons, Nat.reduceAdd, Nat.reduceLeDiff, Nat.zero_le, Option.toList_some, Option.toList_none, List.cons_append, List.nil_append, or_true, true_or, or_false, false_or, Nat.reduceEqDiff, not_true_eq_false, not_false_eq_true, false_and, and_false, false_implies, true_implies, implies_true, ne_eq, and_self, ok1, M.k40, M.r40, z41, M.k41, M.n41, isIA, vpT, nI_clamp, nI_add, M.rd, gK_pI, gN_pI, gR_pI, gI_same, gI_diff, u1_eq, u1_ne]
    refine c_X7_moves M (by omega) e0 hY (by omega) (by omega) (by omega) (fun y hy => ?_) fun g1 a1 M1' hM1 => ?_
    · rw [R.1.p hk (by omega)]
      have := rt_ge (r := wP w k) (y := y) (by omega)
      have := (hB.2.1 k hk).2
      omega
    · have M1 := M1'.ext (b := mvN a (144 + 1000 * k) 22144 n (wS w 0) 1000) fun c _ => (hM1 c).symm
      refine go M1 ?_ (mv_n (by omega) (by omega))
      have R1 := RO.mvKI (k := k) (m := n) (Y := wS w 0) hi hk hY (hA.1.2.1 k hk)
      unfold opPut
      rw [if_neg (by decide)]
      exact R1
end Mc2
