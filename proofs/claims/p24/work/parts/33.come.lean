/-! ===== an order comes ===== -/
def stP (w : Rw) (i n b k l p : Nat) : Rw := sF (sF (sF (sF (sF w i 0 n) i 1 b) i 2 k) i 3 l) i 4 p
def opPut (w : Rw) (i b k l p : Nat) : Rw :=
  let w1 := sS (stP w i (wS w 6) b k l p) 6 (wS w 6 + 1)
  if b = 1 then sK w1 k 0 (wK w k 0 - l * p) else sO (sP w1 k (rsu (wP w k) l)) i (rgo (wO w i) (wP w k) l)
def cntN (w : Rw) : Nat := sm (fun i => nB (decide (0 < wF w i 3))) 17
def opEnd (w : Rw) (i : Nat) : Rw := if 0 < wF w i 3 ∧ 16 < cntN w then opGive w i else w
def opCome (w : Rw) (i b k l p : Nat) : Rw := opEnd (meetF i 17 (opPut w i b k l p)) i
theorem opTrade_L {w : Rw} {i j p a : Nat} : wF (opTrade w i j p) a 3 ≤ wF w a 3 := by
  show u2 (u2 w.2.2.2.1 i 3 (wF w i 3 - min (wF w i 3) (wF w j 3))) j 3 (wF w j 3 - min (wF w i 3) (wF w j 3)) a 3 ≤ _
  unfold u2
  by_cases h1 : a = j
  · rw [if_pos h1, u1_eq, h1]; omega
  · rw [if_neg h1]
    by_cases h2 : a = i
    · rw [if_pos h2, u1_eq, h2]; omega
    · rw [if_neg h2]; exact Nat.le_refl _
theorem meetF_keeps {I : Rw → Prop} (hI : mInv I) {i : Nat} (hi : i < 17) : ∀ (k : Nat) {w : Rw}, I w → wF w i 1 ≤ 1 → I (meetF i k w) ∧ wF (meetF i k w) i 3 ≤ wF w i 3 ∧ (∀ a f, f ≠ 3 → wF (meetF i k w) a f = wF w a f) := by
  intro k
  induction k with
  | zero => exact fun {w} h _ => ⟨h, Nat.le_refl _, fun _ _ _ => rfl⟩
  | succ k ih =>
    intro w hw hb
    unfold meetF
    by_cases h0 : wF w i 3 = 0
    · rw [if_pos h0]; exact ⟨hw, Nat.le_refl _, fun _ _ _ => rfl⟩
    · rw [if_neg h0]
      cases hbs : bsF w (1 - wF w i 1) 17 with
      | none => exact ⟨hw, Nat.le_refl _, fun _ _ _ => rfl⟩
      | some j =>
        obtain ⟨hj, hst⟩ := bsF_lt _ hbs
        obtain ⟨hst1, hst2⟩ := stF_spec hst
        show _ ∧ wF (if meF w j (wF w i 4) then meetF i k (if wF w i 1 = 1 then opTrade w i j (wF w j 4) else opTrade w j i (wF w j 4)) else w) i 3 ≤ _ ∧ _
        by_cases hme : meF w j (wF w i 4) = true
        · have meq := hme
          unfold meF at meq
          have gen : ∀ w1, (w1 = opTrade w i j (wF w j 4) ∨ w1 = opTrade w j i (wF w j 4)) → I w1 → I (meetF i k w1) ∧ wF (meetF i k w1) i 3 ≤ wF w i 3 ∧ (∀ a f, f ≠ 3 → wF (meetF i k w1) a f = wF w a f) := fun w1 e h1 => by
            have e1 : ∀ a f, f ≠ 3 → wF w1 a f = wF w a f := fun a f hf => by
              rcases e with e | e
              · rw [e]; exact opTrade_F hf
              · rw [e]; exact opTrade_F hf
            have e3 : wF w1 i 3 ≤ wF w i 3 := by
              rcases e with e | e
              · rw [e]; exact opTrade_L
              · rw [e]; exact opTrade_L
            obtain ⟨q1, q2, q3⟩ := ih h1 (by rw [e1 i 1 (by decide)]; exact hb)
            exact ⟨q1, Nat.le_trans q2 e3, fun a f hf => (q3 a f hf).trans (e1 a f hf)⟩
          by_cases hbid : wF w i 1 = 1
          · rw [if_pos (by omega), decide_eq_true_eq] at meq
            simp only [hme, if_true]
            rw [if_pos hbid]
            exact gen _ (Or.inl rfl) (hI.2 w i j _ hw hi hj hbid (by omega) (by omega) hst1 meq (Nat.le_refl _) (Or.inr rfl))
          · rw [if_neg (by omega), decide_eq_true_eq] at meq
            simp only [hme, if_true]
            rw [if_neg hbid]
            exact gen _ (Or.inr rfl) (hI.2 w j i _ hw hj hi (by omega) (by omega) hst1 (by omega) (Nat.le_refl _) meq (Or.inl rfl))
        · simp only [hme]
          exact ⟨hw, Nat.le_refl _, fun _ _ _ => rfl⟩
section Com
variable {T : Nat} {Q : mQ}
/-- the first free place -/
def fstF (w : Rw) (i : Nat) : Prop := wF w i 3 = 0 ∧ ∀ j, j < i → wF w j 3 ≠ 0
theorem c_comes {I : Rw → Prop} (hI : mInv I) {g : mG} {w : Rw} {b k n p : Nat} (hT : isT T) (h : TRw g T w) (hB : TB w) (hb : b ≤ 1) (hk : k < 6) (hn : n < 2 ^ 28) (hfree : ∃ i, i < 17 ∧ wF w i 3 = 0) (hc : b = 1 → n * p ≤ wK w k 0) (ha : b = 0 → n ≤ rt (wP w k)) (hput : ∀ i, i < 17 → wF w i 3 = 0 → I (opPut w i b k n p)) (hS : Scr g) (hJ : JR g)
    (q : ∀ i g', i < 17 → fstF w i → CG (XT T) g g' T (opCome w i b k n p) → Q (some (.int (nI (n - wF (meetF i 17 (opPut w i b k n p)) i 3)))) g') : w_X5_comes [.ref T, .int (nI b), .int (nI k), .int (nI n), .int (nI p)] g Q := by
  refine wm_at rfl ⟨trivial, trivial, trivial, trivial, trivial, trivial⟩ (show WP m_X5_comes Q 0 [.ref T, .int (nI b), .int (nI k), .int (nI n), .int (nI p), .retAddr 0, .retAddr 0, .retAddr 0] [] g from ?_)
  obtain ⟨⟨a1, a2, a3, a4⟩, ⟨b1, b2⟩, ⟨c1, c2⟩, ⟨d1, d2⟩⟩ := h.pl
  simp (disch := omega) only [e_X5_comes_0, e_X5_comes_1, tand, true_and, and_true, nl1_int, nl1_ref, nl1_null, nl1_ra, cat1_int, cat1_ref, cat1_null, stbs_nil, stbs_cons, stb_int, stb_long, stb_ref, stb_null, stb_ra, alv_nil, alv_cons, alv1_int, alv1_ref, alv1_null, alv1_ra, List.length_nil, List.length_cons, Nat.reduceAdd, Nat.reduceLeDiff, Nat.zero_le, Option.toList_some, Option.toList_none, List.cons_append, List.nil_append, or_true, true_or, or_false, false_or, Nat.reduceEqDiff, not_true_eq_false, not_false_eq_true, false_and, and_false, false_implies, true_implies, implies_true, ne_eq, and_self, ok1, a1]
  refine c_freePlace h hB (fun i hi h0 hbf => ?_) (fun hno => ?_)
  · have hI1 := hput i hi h0
    have q' := fun g' (hi' : i < 17) (h0' : wF w i 3 = 0) => q i g' hi' ⟨h0', hbf⟩
    clear q hput
    obtain ⟨⟨o1, o2⟩, ⟨o3, o4⟩, o5⟩ := h.o hi
    obtain ⟨⟨p1, p2⟩, ⟨p3, p4⟩, p5⟩ := h.k hk
    have s6 := h.2.1 6 (by decide)
    simp (disch := omega) only [e_X5_comes_4, e_X5_comes_4n, e_X5_comes_6, e_X5_comes_7, e_X5_comes_8, tand, true_and, and_true, nl1_int, nl1_ref, nl1_null, nl1_ra, cat1_int, cat1_ref, cat1_null, stbs_nil, stbs_cons, stb_int, stb_long, stb_ref, stb_null, stb_ra, alv_nil, alv_cons, alv1_int, alv1_ref, alv1_null, alv1_ra, List.length_nil, List.length_cons, Nat.reduceAdd, Nat.reduceLeDiff, Nat.zero_le, Option.toList_some, Option.toList_none, List.cons_append, List.nil_append, or_true, true_or, or_false, false_or, Nat.reduceEqDiff, not_true_eq_false, not_false_eq_true, false_and, and_false, false_implies, true_implies, implies_true, ne_eq, and_self, ok1, a1, o1]
    refine c_kilnAtN h hk ?_
    simp (disch := omega) only [e_X5_comes_11, e_X5_comes_11n, e_X5_comes_13, e_X5_comes_13n, e_X5_comes_15, e_X5_comes_15n, e_X5_comes_18, e_X5_comes_18n, e_X5_comes_20, e_X5_comes_20n, e_X5_comes_23, e_X5_comes_24, e_X5_comes_25, e_X5_comes_25n, e_X5_comes_27, e_X5_comes_28, e_X5_comes_31, e_X5_comes_32, e_X5_comes_33, e_X5_comes_34, e_X5_comes_36, tand, true_and, and_true, nl1_int, nl1_ref, nl1_null, nl1_ra, cat1_int, cat1_ref, cat1_null, stbs_nil, stbs_cons, stb_int, stb_long, stb_ref, stb_null, stb_ra, alv_nil, alv_cons, alv1_int, alv1_ref, alv1_null, alv1_ra, List.length_nil, List.length_cons, Nat.reduceAdd, Nat.reduceLeDiff, Nat.zero_le, Option.toList_some, Option.toList_none, List.cons_append, List.nil_append, or_true, true_or, or_false, false_or, Nat.reduceEqDiff, not_true_eq_false, not_false_eq_true, false_and, and_false, false_implies, true_implies, implies_true, ne_eq, and_self, ok1, a1, o1, p1, s6]
    refine c_start hT.big h hi hb hJ fun g1 C1 => ?_
    have t1 := C1.2.2.pl.1.1
    have s6' : gI g1 T 6 = nI (wS w 6) := C1.2.2.2.1 6 (by decide)
    obtain ⟨⟨o1', o2'⟩, ⟨o3', o4'⟩, _⟩ := C1.2.2.o hi
    obtain ⟨⟨p1', p2'⟩, ⟨p3', p4'⟩, p5'⟩ := C1.2.2.k hk
    have k0 : gI g1 (T + 4 + 3 * k) 0 = nI (wK w k 0) := p5' 0 (by decide)
    have C2 := C1.setS hT.big (XT_in (by omega) (by omega)) 6 (wS w 6 + 1) (by decide)
    have zx : T + 4 + 3 * k ≠ T := by omega
    have z1 : T + 23 + 3 * i ≠ 0 := by omega
    have z2 : T + 5 + 3 * k ≠ 0 := by omega
    -- what follows once the order stands
    have fin : ∀ {g2 : mG}, CG (XT T) g g2 T (opPut w i b k n p) → WP m_X5_comes Q 84 [.ref T, .int (nI b), .int (nI k), .int (nI n), .int (nI p), .ref (T + 22 + 3 * i), .ref (T + 4 + 3 * k), .retAddr 0] [] g2 := fun {g2} C3 => by
      have t2 := C3.2.2.pl.1.1
      have u1' := (C3.2.2.o hi).1.1
      have v1' := (C3.2.2.k hk).1.1
      simp (disch := omega) only [e_X5_comes_84, e_X5_comes_85, e_X5_comes_85n, e_X5_comes_87, tand, true_and, and_true, nl1_int, nl1_ref, nl1_null, nl1_ra, cat1_int, cat1_ref, cat1_null, stbs_nil, stbs_cons, stb_int, stb_long, stb_ref, stb_null, stb_ra, alv_nil, alv_cons, alv1_int, alv1_ref, alv1_null, alv1_ra, List.length_nil, List.length_cons, Nat.reduceAdd, Nat.reduceLeDiff, Nat.zero_le, Option.toList_some, Option.toList_none, List.cons_append, List.nil_append, or_true, true_or, or_false, false_or, Nat.reduceEqDiff, not_true_eq_false, not_false_eq_true, false_and, and_false, false_implies, true_implies, implies_true, ne_eq, and_self, ok1, t2, u1', v1']
      have hS3 := hS.fr C3.1
      have hbi : wF (opPut w i b k n p) i 1 ≤ 1 := C3.2.2.b1 hi
      have hli : wF (opPut w i b k n p) i 3 = n := by
        unfold opPut
        have e : u2 (u2 (u2 (u2 (u2 w.2.2.2.1 i 0 (wS w 6)) i 1 b) i 2 k) i 3 n) i 4 p i 3 = n := by
          simp only [u2_eq, u1_ne (show (3 : Nat) ≠ 4 by decide), u1_eq]
        by_cases hb1 : b = 1
        · rw [if_pos hb1]; exact e
        · rw [if_neg hb1]; exact e
      obtain ⟨K1, K2, K3⟩ := meetF_keeps hI hi 17 hI1 hbi
      refine c_meetOthers hI hT hi C3.2.2 hI1 hS3 C3.2.1 fun g4 C4' => ?_
      have C4 := C3.tr C4' fun _ z => z
      unfold opCome opEnd at q'
      rw [hli] at K2
      generalize meetF i 17 (opPut w i b k n p) = w4 at *
      have B4 := (hI.1 w4 K1).1
      have t4 := C4.2.2.pl.1.1
      obtain ⟨⟨x1, _⟩, _, x5⟩ := C4.2.2.o hi
      have v4 := (C4.2.2.k hk).1.1
      have x3 := x5 3 (by decide)
      simp (disch := omega) only [e_X5_comes_90, e_X5_comes_91, e_X5_comes_91n, e_X5_comes_93, e_X5_comes_96, e_X5_comes_97, e_X5_comes_99, e_X5_comes_99n, e_X5_comes_101, e_X5_comes_104, tand, true_and, and_true, nl1_int, nl1_ref, nl1_null, nl1_ra, cat1_int, cat1_ref, cat1_null, stbs_nil, stbs_cons, stb_int, stb_long, stb_ref, stb_null, stb_ra, alv_nil, alv_cons, alv1_int, alv1_ref, alv1_null, alv1_ra, List.length_nil, List.length_cons, Nat.reduceAdd, Nat.reduceLeDiff, Nat.zero_le, Option.toList_some, Option.toList_none, List.cons_append, List.nil_append, or_true, true_or, or_false, false_or, Nat.reduceEqDiff, not_true_eq_false, not_false_eq_true, false_and, and_false, false_implies, true_implies, implies_true, ne_eq, and_self, ok1, x1, x3, pk_sub K2, nI_le0]
      refine ⟨fun hl => ?_, fun hl => ?_⟩
      · simp only [e_X5_comes_122, e_X5_comes_124, tand, true_and, and_true, nl1_int, nl1_ref, nl1_null, nl1_ra, cat1_int, cat1_ref, cat1_null, stbs_nil, stbs_cons, stb_int, stb_long, stb_ref, stb_null, stb_ra, alv_nil, alv_cons, alv1_int, alv1_ref, alv1_null, alv1_ra, List.length_nil, List.length_cons, Nat.reduceAdd, Nat.reduceLeDiff, Nat.zero_le, Option.toList_some, Option.toList_none, List.cons_append, List.nil_append, or_true, true_or, or_false, false_or, Nat.reduceEqDiff, not_true_eq_false, not_false_eq_true, false_and, and_false, false_implies, true_implies, implies_true, ne_eq, and_self, ok1]
        rw [if_neg (by omega)] at q'
        exact q' g4 hi h0 C4
      · simp (disch := omega) only [e_X5_comes_107, e_X5_comes_108, tand, true_and, and_true, nl1_int, nl1_ref, nl1_null, nl1_ra, cat1_int, cat1_ref, cat1_null, stbs_nil, stbs_cons, stb_int, stb_long, stb_ref, stb_null, stb_ra, alv_nil, alv_cons, alv1_int, alv1_ref, alv1_null, alv1_ra, List.length_nil, List.length_cons, Nat.reduceAdd, Nat.reduceLeDiff, Nat.zero_le, Option.toList_some, Option.toList_none, List.cons_append, List.nil_append, or_true, true_or, or_false, false_or, Nat.reduceEqDiff, not_true_eq_false, not_false_eq_true, false_and, and_false, false_implies, true_implies, implies_true, ne_eq, and_self, ok1, t4, x1, v4]
        refine c_standingCount C4.2.2 B4 ?_
        have hcn : cntN w4 ≤ 17 := by
          have := sm_le (f := fun i => nB (decide (0 < wF w4 i 3))) (g := fun _ => 1) 17 (fun i _ => by
            show nB _ ≤ 1
            unfold nB
            split <;> omega)
          unfold cntN
          have e : sm (fun _ => 1) 17 = 17 := by simp only [sm]
          omega
        show WP m_X5_comes Q 111 _ [.int (nI (cntN w4))] g4
        simp (disch := omega) only [e_X5_comes_111, e_X5_comes_113, e_X5_comes_116, e_X5_comes_117, e_X5_comes_117n, e_X5_comes_119, tand, true_and, and_true, nl1_int, nl1_ref, nl1_null, nl1_ra, cat1_int, cat1_ref, cat1_null, stbs_nil, stbs_cons, stb_int, stb_long, stb_ref, stb_null, stb_ra, alv_nil, alv_cons, alv1_int, alv1_ref, alv1_null, alv1_ra, List.length_nil, List.length_cons, Nat.reduceAdd, Nat.reduceLeDiff, Nat.zero_le, Option.toList_some, Option.toList_none, List.cons_append, List.nil_append, or_true, true_or, or_false, false_or, Nat.reduceEqDiff, not_true_eq_false, not_false_eq_true, false_and, and_false, false_implies, true_implies, implies_true, ne_eq, and_self, ok1, nI_leE, t4, x1, v4]
        refine ⟨fun hl2 => ?_, fun hl2 => ?_⟩
        · simp only [e_X5_comes_122, e_X5_comes_124, tand, true_and, and_true, nl1_int, nl1_ref, nl1_null, nl1_ra, cat1_int, cat1_ref, cat1_null, stbs_nil, stbs_cons, stb_int, stb_long, stb_ref, stb_null, stb_ra, alv_nil, alv_cons, alv1_int, alv1_ref, alv1_null, alv1_ra, List.length_nil, List.length_cons, Nat.reduceAdd, Nat.reduceLeDiff, Nat.zero_le, Option.toList_some, Option.toList_none, List.cons_append, List.nil_append, or_true, true_or, or_false, false_or, Nat.reduceEqDiff, not_true_eq_false, not_false_eq_true, false_and, and_false, false_implies, true_implies, implies_true, ne_eq, and_self, ok1]
          rw [if_neg (by omega)] at q'
          exact q' g4 hi h0 C4
        · rw [if_pos (by omega)] at q'
          refine c_giveBack hT C4.2.2 B4 hi (hS.fr C4.1) C4.2.1 fun g5 C5 => ?_
          simp only [e_X5_comes_122, e_X5_comes_124, tand, true_and, and_true, nl1_int, nl1_ref, nl1_null, nl1_ra, cat1_int, cat1_ref, cat1_null, stbs_nil, stbs_cons, stb_int, stb_long, stb_ref, stb_null, stb_ra, alv_nil, alv_cons, alv1_int, alv1_ref, alv1_null, alv1_ra, List.length_nil, List.length_cons, Nat.reduceAdd, Nat.reduceLeDiff, Nat.zero_le, Option.toList_some, Option.toList_none, List.cons_append, List.nil_append, or_true, true_or, or_false, false_or, Nat.reduceEqDiff, not_true_eq_false, not_false_eq_true, false_and, and_false, false_implies, true_implies, implies_true, ne_eq, and_self, ok1]
          exact q' g5 hi h0 (C4.tr C5 fun _ z => z)
    simp (disch := omega) only [e_X5_comes_39, e_X5_comes_40, e_X5_comes_41, e_X5_comes_44, e_X5_comes_45, e_X5_comes_46, e_X5_comes_49, e_X5_comes_50, tand, true_and, and_true, nl1_int, nl1_ref, nl1_null, nl1_ra, cat1_int, cat1_ref, cat1_null, stbs_nil, stbs_cons, stb_int, stb_long, stb_ref, stb_null, stb_ra, alv_nil, alv_cons, alv1_int, alv1_ref, alv1_null, alv1_ra, List.length_nil, List.length_cons, Nat.reduceAdd, Nat.reduceLeDiff, Nat.zero_le, Option.toList_some, Option.toList_none, List.cons_append, List.nil_append, or_true, true_or, or_false, false_or, Nat.reduceEqDiff, not_true_eq_false, not_false_eq_true, false_and, and_false, false_implies, true_implies, implies_true, ne_eq, and_self, ok1, t1, s6', nI_add, nI_eq0]
    refine ⟨fun hb0 => ?_, fun hb1 => ?_⟩
    · simp (disch := omega) only [e_X5_comes_70, e_X5_comes_70n, e_X5_comes_72, e_X5_comes_75, e_X5_comes_76, e_X5_comes_76n, e_X5_comes_78, e_X5_comes_81, tand, true_and, and_true, nl1_int, nl1_ref, nl1_null, nl1_ra, cat1_int, cat1_ref, cat1_null, stbs_nil, stbs_cons, stb_int, stb_long, stb_ref, stb_null, stb_ra, alv_nil, alv_cons, alv1_int, alv1_ref, alv1_null, alv1_ra, List.length_nil, List.length_cons, Nat.reduceAdd, Nat.reduceLeDiff, Nat.zero_le, Option.toList_some, Option.toList_none, List.cons_append, List.nil_append, or_true, true_or, or_false, false_or, Nat.reduceEqDiff, not_true_eq_false, not_false_eq_true, false_and, and_false, false_implies, true_implies, implies_true, ne_eq, and_self, ok1, gK_pI, gR_pI, p1', p2', p3', o1', o2', o3', z1, z2, t1]
      refine C2.giveKO hT hk hi (hS.fr C2.1) (ha hb0) (hB.2.1 k hk).2 fun g3 C3 => ?_
      refine fin ?_
      unfold opPut
      rw [if_neg (by omega)]
      exact C3
    · have hb1' : b = 1 := by omega
      have hcc := hc hb1'
      simp (disch := omega) only [e_X5_comes_53, e_X5_comes_53n, e_X5_comes_55, e_X5_comes_56, e_X5_comes_59, e_X5_comes_60, e_X5_comes_62, e_X5_comes_63, e_X5_comes_64, e_X5_comes_67, tand, true_and, and_true, nl1_int, nl1_ref, nl1_null, nl1_ra, cat1_int, cat1_ref, cat1_null, stbs_nil, stbs_cons, stb_int, stb_long, stb_ref, stb_null, stb_ra, alv_nil, alv_cons, alv1_int, alv1_ref, alv1_null, alv1_ra, List.length_nil, List.length_cons, Nat.reduceAdd, Nat.reduceLeDiff, Nat.zero_le, Option.toList_some, Option.toList_none, List.cons_append, List.nil_append, or_true, true_or, or_false, false_or, Nat.reduceEqDiff, not_true_eq_false, not_false_eq_true, false_and, and_false, false_implies, true_implies, implies_true, ne_eq, and_self, ok1, gK_pI, gI_pI_ne zx, p1', k0, pk_mul, pk_sub hcc]
      refine fin ?_
      unfold opPut
      rw [if_pos hb1']
      exact C2.setK hT.big hk (XT_in (by omega) (by omega)) 0 (wK w k 0 - n * p)
  · obtain ⟨i, hi, h0⟩ := hfree
    exact absurd h0 (hno i hi)
end Com
