/-! ===== the model: an order is met ===== -/
theorem opTrade_f3 {w : Rw} {i j p c : Nat} : wF (opTrade w i j p) c 3 = if c = j then wF w j 3 - min (wF w i 3) (wF w j 3) else if c = i then wF w i 3 - min (wF w i 3) (wF w j 3) else wF w c 3 := by
  show u2 (u2 w.2.2.2.1 i 3 _) j 3 _ c 3 = _
  unfold u2
  by_cases h1 : c = j
  · rw [if_pos h1, if_pos h1, u1_eq]
  · rw [if_neg h1, if_neg h1]
    by_cases h2 : c = i
    · rw [if_pos h2, if_pos h2, u1_eq]
    · rw [if_neg h2, if_neg h2]; rfl
theorem opTrade_S6 {w : Rw} {i j p : Nat} : wS (opTrade w i j p) 6 = wS w 6 := rfl
theorem opTrade_S0 {w : Rw} {i j p : Nat} : wS (opTrade w i j p) 0 = wS w 0 := rfl
/-- the order at i is that which comes -/
def CmI (i b k p : Nat) (w : Rw) : Prop := wF w i 1 = b ∧ wF w i 2 = k ∧ wF w i 4 = p ∧ wF w i 0 + 1 = wS w 6
theorem CmI.tr {i b k p u v r : Nat} {w : Rw} (h : CmI i b k p w) : CmI i b k p (opTrade w u v r) := by
  obtain ⟨h1, h2, h3, h4⟩ := h
  exact ⟨by rw [opTrade_F (by decide)]; exact h1, by rw [opTrade_F (by decide)]; exact h2, by rw [opTrade_F (by decide)]; exact h3, by rw [opTrade_F (by decide), opTrade_S6]; exact h4⟩
section Mme
variable {g0 : mG} {Q : mQ} {A0 : Nat → Nat → Nat}
theorem trade_tail {I : Rw → Prop} (hI : mInv I) (hIA : ∀ w, I w → InvA w) {g : mG} {a pos : Nat → Nat} {w1 : Rw} {i b k n0 p L LJ n x : Nat} {l8 : Value} (hb : b ≤ 1) (hl8 : okl l8) (M : MT g0 g A0 a) (hx : x < a 11) (ha : a (112 + x) = LJ) (n1 : n ≤ L) (n2 : n ≤ LJ) (hnm : n = min L LJ) (hLJ : LJ < 2 ^ 28) (R : RelG w1 (u1 a (112 + x) (LJ - n)) pos i) (hw : I w1) (e3i : wF w1 i 3 = L - n) (e3j : wF w1 (pos x) 3 = LJ - n) (hN : ∀ z, z < a 11 → z ≠ x → 0 < wF w1 (pos z) 3)
    (next : ∀ g' a' pos' l8, okl l8 → MT g0 g' A0 a' → RelG w1 a' pos' i → RlN w1 a' pos' → (a' 11 < a 11 ∨ wF w1 i 3 = 0) → WP m_X7_comes Q 50 [.ref 40, .int (nI b), .int (nI k), .int (nI n0), .int (nI p), .int (nI (wF w1 i 3)), .int (bV (bsM a' (1 - b) (a' 11))), .int (nI n), l8] [] g') :
    WP m_X7_comes Q 221 [.ref 40, .int (nI b), .int (nI k), .int (nI n0), .int (nI p), .int (nI L), .int (nI x), .int (nI n), l8] [] g := by
  have hA := hIA w1 hw
  have hm : a 11 ≤ 16 := by
    have := R.2.2.1.1
    rw [u1_ne (by omega)] at this
    exact this
  obtain ⟨hB, _⟩ := hI.1 w1 hw
  have s1b : nI 1 - nI b = nI (1 - b) := pk_sub hb
  simp (disch := omega) only [e_X7_comes_221, e_X7_comes_223, e_X7_comes_225, e_X7_comes_226, e_X7_comes_228, e_X7_comes_229, e_X7_comes_232, e_X7_comes_234, e_X7_comes_236, e_X7_comes_237, e_X7_comes_238, e_X7_comes_239, e_X7_comes_241, e_X7_comes_242, tand, true_and, and_true, nl1_int, nl1_ref, nl1_null, nl1_ra, cat1_int, cat1_ref, cat1_null, stbs_nil, stbs_cons, stb_int, stb_long, stb_ref, stb_null, stb_ra, alv_nil, alv_cons, alv1_int, alv1_ref, alv1_null, alv1_ra, List.length_nil, List.length_cons, Nat.reduceAdd, Nat.reduceLeDiff, Nat.zero_le, Option.toList_some, Option.toList_none, List.cons_append, List.nil_append, or_true, true_or, or_false, false_or, Nat.reduceEqDiff, not_true_eq_false, not_false_eq_true, false_and, and_false, false_implies, true_implies, implies_true, ne_eq, and_self, ok1, M.k40, M.r40, z41, M.k41, M.n41, isIA, vpT, nI_clamp, nI_add, M.rd, gK_pI, gN_pI, gR_pI, gI_same, gI_diff, u1_eq, u1_ne, ha, pk_sub n1, pk_sub n2]
  refine M.wp fun g1 M1 => ?_
  have R11 : u1 a (112 + x) (LJ - n) 11 = a 11 := u1_ne (by omega)
  have e6 : u1 a (112 + x) (LJ - n) (112 + x) = LJ - n := u1_eq
  generalize u1 a (112 + x) (LJ - n) = a6 at *
  have tail : ∀ {g2 : mG} {a2 pos2 : Nat → Nat}, MT g0 g2 A0 a2 → RelG w1 a2 pos2 i → RlN w1 a2 pos2 → (a2 11 < a 11 ∨ wF w1 i 3 = 0) → WP m_X7_comes Q 262 [.ref 40, .int (nI b), .int (nI k), .int (nI n0), .int (nI p), .int (nI (L - n)), .int (nI x), .int (nI n), l8] [] g2 := fun {g2 a2 pos2} M2 R2 N2 hf => by
    have hL2 := R2.lb hB fun c hc => (hA.2.1 c hc).1
    simp only [e_X7_comes_262, e_X7_comes_263, e_X7_comes_264, e_X7_comes_265, e_X7_comes_266, tand, true_and, and_true, nl1_int, nl1_ref, nl1_null, nl1_ra, cat1_int, cat1_ref, cat1_null, stbs_nil, stbs_cons, stb_int, stb_long, stb_ref, stb_null, stb_ra, alv_nil, alv_cons, alv1_int, alv1_ref, alv1_null, alv1_ra, List.length_nil, List.length_cons, Nat.reduceAdd, Nat.reduceLeDiff, Nat.zero_le, Option.toList_some, Option.toList_none, List.cons_append, List.nil_append, or_true, true_or, or_false, false_or, Nat.reduceEqDiff, not_true_eq_false, not_false_eq_true, false_and, and_false, false_implies, true_implies, implies_true, ne_eq, and_self, ok1, M2.k40, s1b, hl8.2]
    refine c_X7_best M2 hL2 (by omega) ?_
    simp only [e_X7_comes_269, tand, true_and, and_true, nl1_int, nl1_ref, nl1_null, nl1_ra, cat1_int, cat1_ref, cat1_null, stbs_nil, stbs_cons, stb_int, stb_long, stb_ref, stb_null, stb_ra, alv_nil, alv_cons, alv1_int, alv1_ref, alv1_null, alv1_ra, List.length_nil, List.length_cons, Nat.reduceAdd, Nat.reduceLeDiff, Nat.zero_le, Option.toList_some, Option.toList_none, List.cons_append, List.nil_append, or_true, true_or, or_false, false_or, Nat.reduceEqDiff, not_true_eq_false, not_false_eq_true, false_and, and_false, false_implies, true_implies, implies_true, ne_eq, and_self, ok1]
    simp only [e_X7_comes_271, tand, true_and, and_true, nl1_int, nl1_ref, nl1_null, nl1_ra, cat1_int, cat1_ref, cat1_null, stbs_nil, stbs_cons, stb_int, stb_long, stb_ref, stb_null, stb_ra, alv_nil, alv_cons, alv1_int, alv1_ref, alv1_null, alv1_ra, List.length_nil, List.length_cons, Nat.reduceAdd, Nat.reduceLeDiff, Nat.zero_le, Option.toList_some, Option.toList_none, List.cons_append, List.nil_append, or_true, true_or, or_false, false_or, Nat.reduceEqDiff, not_true_eq_false, not_false_eq_true, false_and, and_false, false_implies, true_implies, implies_true, ne_eq, and_self, ok1]
    have := next g2 a2 pos2 l8 hl8 M2 R2 N2 hf
    rw [e3i] at this
    exact this
  simp (disch := omega) only [e_X7_comes_243, e_X7_comes_244, e_X7_comes_247, e_X7_comes_249, e_X7_comes_251, e_X7_comes_252, e_X7_comes_253, tand, true_and, and_true, nl1_int, nl1_ref, nl1_null, nl1_ra, cat1_int, cat1_ref, cat1_null, stbs_nil, stbs_cons, stb_int, stb_long, stb_ref, stb_null, stb_ra, alv_nil, alv_cons, alv1_int, alv1_ref, alv1_null, alv1_ra, List.length_nil, List.length_cons, Nat.reduceAdd, Nat.reduceLeDiff, Nat.zero_le, Option.toList_some, Option.toList_none, List.cons_append, List.nil_append, or_true, true_or, or_false, false_or, Nat.reduceEqDiff, not_true_eq_false, not_false_eq_true, false_and, and_false, false_implies, true_implies, implies_true, ne_eq, and_self, ok1, M1.k40, M1.r40, z41, M1.k41, M1.n41, isIA, vpT, nI_clamp, nI_add, M1.rd, gK_pI, gN_pI, gR_pI, gI_same, gI_diff, u1_eq, u1_ne, e6, nI_eq0]
  refine ⟨fun h1 => ?_, fun h1 => ?_⟩
  · refine tail M1 R (fun z hz => ?_) (Or.inr (by omega))
    rw [R11] at hz
    by_cases ez : z = x
    · rw [ez, e3j]; omega
    · exact hN z hz ez
  · have h1' : LJ - n = 0 := Decidable.not_not.mp h1
    have e0 : a6 0 = wS w1 0 := R.s 0 (by decide) (by decide)
    simp only [e_X7_comes_256, e_X7_comes_257, e_X7_comes_259, tand, true_and, and_true, nl1_int, nl1_ref, nl1_null, nl1_ra, cat1_int, cat1_ref, cat1_null, stbs_nil, stbs_cons, stb_int, stb_long, stb_ref, stb_null, stb_ra, alv_nil, alv_cons, alv1_int, alv1_ref, alv1_null, alv1_ra, List.length_nil, List.length_cons, Nat.reduceAdd, Nat.reduceLeDiff, Nat.zero_le, Option.toList_some, Option.toList_none, List.cons_append, List.nil_append, or_true, true_or, or_false, false_or, Nat.reduceEqDiff, not_true_eq_false, not_false_eq_true, false_and, and_false, false_implies, true_implies, implies_true, ne_eq, and_self, ok1, M1.k40, hl8.2]
    refine c_X7_leaves M1 R11 hx hm hA.1.1 e0 fun g2 a2 M2 hM2 => ?_
    obtain ⟨R2, e11⟩ := R.lv hx R11 hA.1.1 (by rw [e3j]; exact h1') hA.1.2.2 fun i hi _ => hM2 i hi
    exact tail M2 R2 (RlN.lv hx hN e11) (Or.inl (by rw [e11]; omega))
theorem comes_loop {I : Rw → Prop} (hI : mInv I) (hIA : ∀ w, I w → InvA w) {b k n0 p i : Nat} (hb : b ≤ 1) (hk : k < 6) (hi : i < 17) (hp : p ≤ 500) :
    ∀ (f : Nat) {g : mG} {a pos : Nat → Nat} {w : Rw} {l7 l8 : Value}, okl l7 → okl l8 → MT g0 g A0 a → RelG w a pos i → RlN w a pos → I w → CmI i b k p w → (a 11 < f ∨ wF w i 3 = 0) →
    (∀ g' a' pos' l6 l7 l8, okl l6 → okl l7 → okl l8 → MT g0 g' A0 a' → RelG (meetF i f w) a' pos' i → RlN (meetF i f w) a' pos' → I (meetF i f w) → CmI i b k p (meetF i f w) → WP m_X7_comes Q 274 [.ref 40, .int (nI b), .int (nI k), .int (nI n0), .int (nI p), .int (nI (wF (meetF i f w) i 3)), l6, l7, l8] [] g') →
    WP m_X7_comes Q 50 [.ref 40, .int (nI b), .int (nI k), .int (nI n0), .int (nI p), .int (nI (wF w i 3)), .int (bV (bsM a (1 - b) (a 11))), l7, l8] [] g := by
  intro f
  induction f with
  | zero =>
    intro g a pos w l7 l8 h7 h8 M R N hw hc hf q
    have h0 : wF w i 3 = 0 := by omega
    have z := q g a pos (.int (bV (bsM a (1 - b) (a 11)))) l7 l8 ⟨trivial, fun _ => rfl⟩ h7 h8 M R N hw hc
    rw [show meetF i 0 w = w from rfl, h0] at z
    rw [h0]
    simp (disch := omega) only [e_X7_comes_50, e_X7_comes_52, tand, true_and, and_true, nl1_int, nl1_ref, nl1_null, nl1_ra, cat1_int, cat1_ref, cat1_null, stbs_nil, stbs_cons, stb_int, stb_long, stb_ref, stb_null, stb_ra, alv_nil, alv_cons, alv1_int, alv1_ref, alv1_null, alv1_ra, List.length_nil, List.length_cons, Nat.reduceAdd, Nat.reduceLeDiff, Nat.zero_le, Option.toList_some, Option.toList_none, List.cons_append, List.nil_append, or_true, true_or, or_false, false_or, Nat.reduceEqDiff, not_true_eq_false, not_false_eq_true, false_and, and_false, false_implies, true_implies, implies_true, ne_eq, and_self, ok1, nI_le0]
    exact z
  | succ f ih =>
    intro g a pos w l7 l8 h7 h8 M R N hw hc hf q
    obtain ⟨hB, hrt⟩ := hI.1 w hw
    have hA := hIA w hw
    have f3 := (hB.2.2 i hi).1 3 (by decide)
    have stay : meetF i (f + 1) w = w → ∀ l6, okl l6 → WP m_X7_comes Q 274 [.ref 40, .int (nI b), .int (nI k), .int (nI n0), .int (nI p), .int (nI (wF w i 3)), l6, l7, l8] [] g := fun e l6 h6 => by
      rw [e] at q
      exact q g a pos l6 l7 l8 h6 h7 h8 M R N hw hc
    by_cases hL : wF w i 3 = 0
    · have em : meetF i (f + 1) w = w := by unfold meetF; rw [if_pos hL]
      have z := stay em (.int (bV (bsM a (1 - b) (a 11)))) ⟨trivial, fun _ => rfl⟩
      rw [hL] at z ⊢
      simp (disch := omega) only [e_X7_comes_50, e_X7_comes_52, tand, true_and, and_true, nl1_int, nl1_ref, nl1_null, nl1_ra, cat1_int, cat1_ref, cat1_null, stbs_nil, stbs_cons, stb_int, stb_long, stb_ref, stb_null, stb_ra, alv_nil, alv_cons, alv1_int, alv1_ref, alv1_null, alv1_ra, List.length_nil, List.length_cons, Nat.reduceAdd, Nat.reduceLeDiff, Nat.zero_le, Option.toList_some, Option.toList_none, List.cons_append, List.nil_append, or_true, true_or, or_false, false_or, Nat.reduceEqDiff, not_true_eq_false, not_false_eq_true, false_and, and_false, false_implies, true_implies, implies_true, ne_eq, and_self, ok1, nI_le0]
      exact z
    · have hex : i < 17 → wF w i 1 ≠ 1 - b := fun _ => by rw [hc.1]; omega
      cases hbs : bsM a (1 - b) (a 11) with
      | none =>
        have hF := best_none R hex hbs
        have em : meetF i (f + 1) w = w := by
          unfold meetF
          rw [if_neg hL, hc.1, hF]
        have m1 : ((-1 : Int32) < 0) = True := by simp [show (-1 : Int32) < 0 by decide]
        simp (disch := omega) only [e_X7_comes_50, e_X7_comes_52, e_X7_comes_55, e_X7_comes_57, tand, true_and, and_true, nl1_int, nl1_ref, nl1_null, nl1_ra, cat1_int, cat1_ref, cat1_null, stbs_nil, stbs_cons, stb_int, stb_long, stb_ref, stb_null, stb_ra, alv_nil, alv_cons, alv1_int, alv1_ref, alv1_null, alv1_ra, List.length_nil, List.length_cons, Nat.reduceAdd, Nat.reduceLeDiff, Nat.zero_le, Option.toList_some, Option.toList_none, List.cons_append, List.nil_append, or_true, true_or, or_false, false_or, Nat.reduceEqDiff, not_true_eq_false, not_false_eq_true, false_and, and_false, false_implies, true_implies, implies_true, ne_eq, and_self, ok1, nI_le0, hL, bV, m1]
        exact stay em (.int (-1)) ⟨trivial, fun _ => rfl⟩
      | some x =>
        have hF := best_some R N hA.2.2.1 hex hbs
        have hx := bsM_lt _ hbs
        obtain ⟨⟨pj, pne⟩, ⟨c0, c1, c2, c3, c4⟩, c5⟩ := R.o hx
        have kj : wF w (pos x) 1 = 1 - b := (stF_spec (bsF_lt _ hF).2).2
        have m16 := R.2.2.1.1
        obtain ⟨bj1, bj2, bj3⟩ := hB.2.2 _ pj
        have g3 := bj1 3 (by decide)
        have g4 := bj1 4 (by decide)
        have hu : meetF i (f + 1) w = if meF w (pos x) (wF w i 4) then meetF i f (if wF w i 1 = 1 then opTrade w i (pos x) (wF w (pos x) 4) else opTrade w (pos x) i (wF w (pos x) 4)) else w := by
          conv => lhs; unfold meetF
          rw [if_neg hL, hc.1, hF]
        obtain ⟨hc1, hc2, hc3, hc4⟩ := id hc
        have e0 : a 0 = wS w 0 := R.s 0 (by decide) (by decide)
        have e7 : a 7 = wS w 7 := R.s 7 (by decide) (by decide)
        have hY := hA.1.1
        have hLj := N x hx
        have hbb : b = 1 ∨ b = 0 := by omega
        rcases hbb with hb1 | hb0
        · subst hb1
          have met0 : meF w (pos x) (wF w i 4) = decide (wF w (pos x) 4 ≤ p) := by
            unfold meF
            rw [if_pos (by omega), hc3]
          simp (disch := omega) only [e_X7_comes_50, e_X7_comes_52, e_X7_comes_55, e_X7_comes_57, e_X7_comes_60, e_X7_comes_61, e_X7_comes_62, e_X7_comes_65, e_X7_comes_66, e_X7_comes_69, e_X7_comes_72, e_X7_comes_74, e_X7_comes_75, e_X7_comes_76, e_X7_comes_78, tand, true_and, and_true, nl1_int, nl1_ref, nl1_null, nl1_ra, cat1_int, cat1_ref, cat1_null, stbs_nil, stbs_cons, stb_int, stb_long, stb_ref, stb_null, stb_ra, alv_nil, alv_cons, alv1_int, alv1_ref, alv1_null, alv1_ra, List.length_nil, List.length_cons, Nat.reduceAdd, Nat.reduceLeDiff, Nat.zero_le, Option.toList_some, Option.toList_none, List.cons_append, List.nil_append, or_true, true_or, or_false, false_or, Nat.reduceEqDiff, not_true_eq_false, not_false_eq_true, false_and, and_false, false_implies, true_implies, implies_true, ne_eq, and_self, ok1, M.k40, M.r40, z41, M.k41, M.n41, isIA, vpT, nI_clamp, nI_add, M.rd, gK_pI, gN_pI, gR_pI, gI_same, gI_diff, u1_eq, u1_ne, nI_le0, hL, bV, nI_lt0, c4, nI_ltE]
          refine ⟨fun h1 => stay (by rw [hu, met0, decide_eq_false (by omega)]; rfl) (.int (nI x)) ⟨trivial, fun _ => rfl⟩, fun h1 => ?_⟩
          rw [met0, decide_eq_true (by omega), if_pos rfl, if_pos hc1] at hu
          have hw1 : I (opTrade w i (pos x) (wF w (pos x) 4)) := hI.2 w i (pos x) _ hw hi pj hc1 (by omega) (by omega) hLj (by omega) (Nat.le_refl _) (Or.inr rfl)
          -- the trade
          have go : WP m_X7_comes Q 130 [.ref 40, .int (nI 1), .int (nI k), .int (nI n0), .int (nI p), .int (nI (wF w i 3)), .int (nI x), l7, l8] [.int (nI (min (wF w i 3) (wF w (pos x) 3)))] g := by
            generalize hn : min (wF w i 3) (wF w (pos x) 3) = n at *
            have k0 : a (20 + wF w (pos x) 2) = wK w (wF w (pos x) 2) 0 := R.k bj3 0 (by decide)
            simp (disch := omega) only [e_X7_comes_130, e_X7_comes_132, e_X7_comes_133, e_X7_comes_136, e_X7_comes_139, e_X7_comes_141, e_X7_comes_142, e_X7_comes_143, e_X7_comes_145, e_X7_comes_146, e_X7_comes_147, e_X7_comes_150, e_X7_comes_151, e_X7_comes_152, e_X7_comes_153, e_X7_comes_156, e_X7_comes_158, e_X7_comes_160, e_X7_comes_161, e_X7_comes_162, e_X7_comes_164, e_X7_comes_166, e_X7_comes_168, tand, true_and, and_true, nl1_int, nl1_ref, nl1_null, nl1_ra, cat1_int, cat1_ref, cat1_null, stbs_nil, stbs_cons, stb_int, stb_long, stb_ref, stb_null, stb_ra, alv_nil, alv_cons, alv1_int, alv1_ref, alv1_null, alv1_ra, List.length_nil, List.length_cons, Nat.reduceAdd, Nat.reduceLeDiff, Nat.zero_le, Option.toList_some, Option.toList_none, List.cons_append, List.nil_append, or_true, true_or, or_false, false_or, Nat.reduceEqDiff, not_true_eq_false, not_false_eq_true, false_and, and_false, false_implies, true_implies, implies_true, ne_eq, and_self, ok1, M.k40, M.r40, z41, M.k41, M.n41, isIA, vpT, nI_clamp, nI_add, M.rd, gK_pI, gN_pI, gR_pI, gI_same, gI_diff, u1_eq, u1_ne, c4, c1, h7.1, c1s_nil, c1s_cons]
            refine c_X7_offer ?_
            simp (disch := omega) only [e_X7_comes_171, tand, true_and, and_true, nl1_int, nl1_ref, nl1_null, nl1_ra, cat1_int, cat1_ref, cat1_null, stbs_nil, stbs_cons, stb_int, stb_long, stb_ref, stb_null, stb_ra, alv_nil, alv_cons, alv1_int, alv1_ref, alv1_null, alv1_ra, List.length_nil, List.length_cons, Nat.reduceAdd, Nat.reduceLeDiff, Nat.zero_le, Option.toList_some, Option.toList_none, List.cons_append, List.nil_append, or_true, true_or, or_false, false_or, Nat.reduceEqDiff, not_true_eq_false, not_false_eq_true, false_and, and_false, false_implies, true_implies, implies_true, ne_eq, and_self, ok1, M.k40, M.r40, z41, M.k41, M.n41, isIA, vpT, nI_clamp, nI_add, M.rd, gK_pI, gN_pI, gR_pI, gI_same, gI_diff, u1_eq, u1_ne]
            refine c_X7_trades M hk bj3 e0 hY (by omega) (by omega) (fun y hy => ?_) fun g1 M1 => ?_
            · rw [c5 y (by omega)]
              have := rt_ge (r := wO w (pos x)) (y := y) (by omega)
              omega
            rw [k0, e7] at M1
            have T := R.tr1 (n := n) (p := wF w (pos x) 4) hx hY (hA.1.2.2 _ pj) hi (by omega) bj3 hn.symm
            rw [hc2, hc3] at T
            have eK : u1 a (20 + wF w (pos x) 2) (wK w (wF w (pos x) 2) 0 + n * wF w (pos x) 4) (20 + k) = wK (sK w (wF w (pos x) 2) 0 (wK w (wF w (pos x) 2) 0 + n * wF w (pos x) 4)) k 0 := (R.setK bj3 (f := 0) (by decide) (wK w (wF w (pos x) 2) 0 + n * wF w (pos x) 4)).k hk 0 (by decide)
            have eL : u1 a (20 + wF w (pos x) 2) (wK w (wF w (pos x) 2) 0 + n * wF w (pos x) 4) (112 + x) = wF w (pos x) 3 := by rw [u1_ne (by omega)]; exact c3
            have eM : u1 a (20 + wF w (pos x) 2) (wK w (wF w (pos x) 2) 0 + n * wF w (pos x) 4) 11 = a 11 := u1_ne (by omega)
            generalize u1 a (20 + wF w (pos x) 2) (wK w (wF w (pos x) 2) 0 + n * wF w (pos x) 4) = a1 at *
            have fK : mvN a1 (6144 + 1000 * x) (144 + 1000 * k) n (wS w 0) 1000 (20 + k) = wK (sK w (wF w (pos x) 2) 0 (wK w (wF w (pos x) 2) 0 + n * wF w (pos x) 4)) k 0 := by rw [mv_n (by omega) (by omega)]; exact eK
            have fL : mvN a1 (6144 + 1000 * x) (144 + 1000 * k) n (wS w 0) 1000 (112 + x) = wF w (pos x) 3 := by rw [mv_n (by omega) (by omega)]; exact eL
            have fM : mvN a1 (6144 + 1000 * x) (144 + 1000 * k) n (wS w 0) 1000 11 = a 11 := by rw [mv_n (by omega) (by omega)]; exact eM
            generalize mvN a1 (6144 + 1000 * x) (144 + 1000 * k) n (wS w 0) 1000 = a2 at *
            generalize hKK : wK (sK w (wF w (pos x) 2) 0 (wK w (wF w (pos x) 2) 0 + n * wF w (pos x) 4)) k 0 = KK at *
            have hpp : wF w (pos x) 4 ≤ p := by omega
            simp (disch := omega) only [e_X7_comes_174, e_X7_comes_175, e_X7_comes_178, e_X7_comes_180, e_X7_comes_181, e_X7_comes_182, e_X7_comes_183, e_X7_comes_184, e_X7_comes_186, e_X7_comes_188, e_X7_comes_190, e_X7_comes_191, e_X7_comes_192, e_X7_comes_193, tand, true_and, and_true, nl1_int, nl1_ref, nl1_null, nl1_ra, cat1_int, cat1_ref, cat1_null, stbs_nil, stbs_cons, stb_int, stb_long, stb_ref, stb_null, stb_ra, alv_nil, alv_cons, alv1_int, alv1_ref, alv1_null, alv1_ra, List.length_nil, List.length_cons, Nat.reduceAdd, Nat.reduceLeDiff, Nat.zero_le, Option.toList_some, Option.toList_none, List.cons_append, List.nil_append, or_true, true_or, or_false, false_or, Nat.reduceEqDiff, not_true_eq_false, not_false_eq_true, false_and, and_false, false_implies, true_implies, implies_true, ne_eq, and_self, ok1, M1.k40, M1.r40, z41, M1.k41, M1.n41, isIA, vpT, nI_clamp, nI_add, M1.rd, gK_pI, gN_pI, gR_pI, gI_same, gI_diff, u1_eq, u1_ne, fK, pk_sub hpp, pk_mul]
            refine M1.wp fun g2 M2 => ?_
            simp only [e_X7_comes_194, tand, true_and, and_true, nl1_int, nl1_ref, nl1_null, nl1_ra, cat1_int, cat1_ref, cat1_null, stbs_nil, stbs_cons, stb_int, stb_long, stb_ref, stb_null, stb_ra, alv_nil, alv_cons, alv1_int, alv1_ref, alv1_null, alv1_ra, List.length_nil, List.length_cons, Nat.reduceAdd, Nat.reduceLeDiff, Nat.zero_le, Option.toList_some, Option.toList_none, List.cons_append, List.nil_append, or_true, true_or, or_false, false_or, Nat.reduceEqDiff, not_true_eq_false, not_false_eq_true, false_and, and_false, false_implies, true_implies, implies_true, ne_eq, and_self, ok1]
            have ex2 : ∀ q, q ≠ 7 → q ≠ 8 → q ≠ 20 + k → u1 (u1 (u1 a2 7 (wS w 7 + n)) 8 (wF w (pos x) 4)) (20 + k) (KK + n * (p - wF w (pos x) 4)) q = a2 q := fun q q7 q8 qk => by rw [u1_ne qk, u1_ne q8, u1_ne q7]
            have gL := (ex2 (112 + x) (by omega) (by omega) (by omega)).trans fL
            have gM := (ex2 11 (by omega) (by omega) (by omega)).trans fM
            generalize u1 (u1 (u1 a2 7 (wS w 7 + n)) 8 (wF w (pos x) 4)) (20 + k) (KK + n * (p - wF w (pos x) 4)) = a3 at *
            have t3 : ∀ c, wF (opTrade w i (pos x) (wF w (pos x) 4)) c 3 = if c = pos x then wF w (pos x) 3 - n else if c = i then wF w i 3 - n else wF w c 3 := fun c => by rw [opTrade_f3, hn]
            refine trade_tail hI hIA (by decide) ⟨trivial, fun _ => rfl⟩ M2 (by rw [gM]; exact hx) gL (by omega) (by omega) hn.symm g3 T hw1 (by rw [t3, if_neg (Ne.symm pne), if_pos rfl]) (by rw [t3, if_pos rfl]) (fun z hz hzx => ?_) fun g' a' pos' l8 hl8 M' R' N' hf' => ?_
            · rw [gM] at hz
              have z1 : pos z ≠ pos x := fun e => hzx (R.2.2.1.2.2.1 z x hz hx e)
              rw [t3, if_neg z1, if_neg (R.o hz).1.2]
              exact N z hz
            · rw [hu] at q
              refine ih ⟨trivial, fun _ => rfl⟩ hl8 M' R' N' hw1 hc.tr ?_ q
              rw [gM] at hf'
              omega
          simp (disch := omega) only [e_X7_comes_81, e_X7_comes_100, e_X7_comes_101, e_X7_comes_104, e_X7_comes_106, e_X7_comes_108, e_X7_comes_109, e_X7_comes_110, e_X7_comes_112, tand, true_and, and_true, nl1_int, nl1_ref, nl1_null, nl1_ra, cat1_int, cat1_ref, cat1_null, stbs_nil, stbs_cons, stb_int, stb_long, stb_ref, stb_null, stb_ra, alv_nil, alv_cons, alv1_int, alv1_ref, alv1_null, alv1_ra, List.length_nil, List.length_cons, Nat.reduceAdd, Nat.reduceLeDiff, Nat.zero_le, Option.toList_some, Option.toList_none, List.cons_append, List.nil_append, or_true, true_or, or_false, false_or, Nat.reduceEqDiff, not_true_eq_false, not_false_eq_true, false_and, and_false, false_implies, true_implies, implies_true, ne_eq, and_self, ok1, M.k40, M.r40, z41, M.k41, M.n41, isIA, vpT, nI_clamp, nI_add, M.rd, gK_pI, gN_pI, gR_pI, gI_same, gI_diff, u1_eq, u1_ne, c3, nI_leE]
          refine ⟨fun h2 => ?_, fun h2 => ?_⟩
          · simp only [e_X7_comes_128, tand, true_and, and_true, nl1_int, nl1_ref, nl1_null, nl1_ra, cat1_int, cat1_ref, cat1_null, stbs_nil, stbs_cons, stb_int, stb_long, stb_ref, stb_null, stb_ra, alv_nil, alv_cons, alv1_int, alv1_ref, alv1_null, alv1_ra, List.length_nil, List.length_cons, Nat.reduceAdd, Nat.reduceLeDiff, Nat.zero_le, Option.toList_some, Option.toList_none, List.cons_append, List.nil_append, or_true, true_or, or_false, false_or, Nat.reduceEqDiff, not_true_eq_false, not_false_eq_true, false_and, and_false, false_implies, true_implies, implies_true, ne_eq, and_self, ok1]
            rw [Nat.min_eq_left h2] at go
            exact go
          · simp (disch := omega) only [e_X7_comes_115, e_X7_comes_116, e_X7_comes_119, e_X7_comes_121, e_X7_comes_123, e_X7_comes_124, e_X7_comes_125, tand, true_and, and_true, nl1_int, nl1_ref, nl1_null, nl1_ra, cat1_int, cat1_ref, cat1_null, stbs_nil, stbs_cons, stb_int, stb_long, stb_ref, stb_null, stb_ra, alv_nil, alv_cons, alv1_int, alv1_ref, alv1_null, alv1_ra, List.length_nil, List.length_cons, Nat.reduceAdd, Nat.reduceLeDiff, Nat.zero_le, Option.toList_some, Option.toList_none, List.cons_append, List.nil_append, or_true, true_or, or_false, false_or, Nat.reduceEqDiff, not_true_eq_false, not_false_eq_true, false_and, and_false, false_implies, true_implies, implies_true, ne_eq, and_self, ok1, M.k40, M.r40, z41, M.k41, M.n41, isIA, vpT, nI_clamp, nI_add, M.rd, gK_pI, gN_pI, gR_pI, gI_same, gI_diff, u1_eq, u1_ne, c3]
            rw [Nat.min_eq_right (by omega)] at go
            exact go
        · subst hb0
          have met0 : meF w (pos x) (wF w i 4) = decide (p ≤ wF w (pos x) 4) := by
            unfold meF
            rw [if_neg (by omega), hc3]
          simp (disch := omega) only [e_X7_comes_50, e_X7_comes_52, e_X7_comes_55, e_X7_comes_57, e_X7_comes_60, e_X7_comes_61, e_X7_comes_62, e_X7_comes_84, e_X7_comes_85, e_X7_comes_88, e_X7_comes_91, e_X7_comes_93, e_X7_comes_94, e_X7_comes_95, e_X7_comes_97, tand, true_and, and_true, nl1_int, nl1_ref, nl1_null, nl1_ra, cat1_int, cat1_ref, cat1_null, stbs_nil, stbs_cons, stb_int, stb_long, stb_ref, stb_null, stb_ra, alv_nil, alv_cons, alv1_int, alv1_ref, alv1_null, alv1_ra, List.length_nil, List.length_cons, Nat.reduceAdd, Nat.reduceLeDiff, Nat.zero_le, Option.toList_some, Option.toList_none, List.cons_append, List.nil_append, or_true, true_or, or_false, false_or, Nat.reduceEqDiff, not_true_eq_false, not_false_eq_true, false_and, and_false, false_implies, true_implies, implies_true, ne_eq, and_self, ok1, M.k40, M.r40, z41, M.k41, M.n41, isIA, vpT, nI_clamp, nI_add, M.rd, gK_pI, gN_pI, gR_pI, gI_same, gI_diff, u1_eq, u1_ne, nI_le0, hL, bV, nI_lt0, c4, nI_ltE, nI_eqE]
          refine ⟨fun h1 => stay (by rw [hu, met0, decide_eq_false (by omega)]; rfl) (.int (nI x)) ⟨trivial, fun _ => rfl⟩, fun h1 => ?_⟩
          rw [met0, decide_eq_true (by omega), if_pos rfl, if_neg (by omega)] at hu
          have hw1 : I (opTrade w (pos x) i (wF w (pos x) 4)) := hI.2 w (pos x) i _ hw pj hi (by omega) hc1 hLj (by omega) (Nat.le_refl _) (by omega) (Or.inl rfl)
          have go : WP m_X7_comes Q 130 [.ref 40, .int (nI 0), .int (nI k), .int (nI n0), .int (nI p), .int (nI (wF w i 3)), .int (nI x), l7, l8] [.int (nI (min (wF w i 3) (wF w (pos x) 3)))] g := by
            have hn' : min (wF w (pos x) 3) (wF w i 3) = min (wF w i 3) (wF w (pos x) 3) := Nat.min_comm _ _
            generalize hn : min (wF w i 3) (wF w (pos x) 3) = n at *
            have k0 : a (20 + k) = wK w k 0 := R.k hk 0 (by decide)
            simp (disch := omega) only [e_X7_comes_130, e_X7_comes_132, e_X7_comes_133, e_X7_comes_136, e_X7_comes_139, e_X7_comes_141, e_X7_comes_142, e_X7_comes_143, e_X7_comes_145, e_X7_comes_146, e_X7_comes_147, e_X7_comes_197, e_X7_comes_198, e_X7_comes_199, e_X7_comes_202, e_X7_comes_204, e_X7_comes_206, e_X7_comes_207, e_X7_comes_208, e_X7_comes_209, e_X7_comes_211, e_X7_comes_213, e_X7_comes_215, tand, true_and, and_true, nl1_int, nl1_ref, nl1_null, nl1_ra, cat1_int, cat1_ref, cat1_null, stbs_nil, stbs_cons, stb_int, stb_long, stb_ref, stb_null, stb_ra, alv_nil, alv_cons, alv1_int, alv1_ref, alv1_null, alv1_ra, List.length_nil, List.length_cons, Nat.reduceAdd, Nat.reduceLeDiff, Nat.zero_le, Option.toList_some, Option.toList_none, List.cons_append, List.nil_append, or_true, true_or, or_false, false_or, Nat.reduceEqDiff, not_true_eq_false, not_false_eq_true, false_and, and_false, false_implies, true_implies, implies_true, ne_eq, and_self, ok1, M.k40, M.r40, z41, M.k41, M.n41, isIA, vpT, nI_clamp, nI_add, M.rd, gK_pI, gN_pI, gR_pI, gI_same, gI_diff, u1_eq, u1_ne, c4, c1, h7.1, nI_eqE, c1s_nil, c1s_cons]
            refine c_X7_offer16 ?_
            simp (disch := omega) only [e_X7_comes_218, tand, true_and, and_true, nl1_int, nl1_ref, nl1_null, nl1_ra, cat1_int, cat1_ref, cat1_null, stbs_nil, stbs_cons, stb_int, stb_long, stb_ref, stb_null, stb_ra, alv_nil, alv_cons, alv1_int, alv1_ref, alv1_null, alv1_ra, List.length_nil, List.length_cons, Nat.reduceAdd, Nat.reduceLeDiff, Nat.zero_le, Option.toList_some, Option.toList_none, List.cons_append, List.nil_append, or_true, true_or, or_false, false_or, Nat.reduceEqDiff, not_true_eq_false, not_false_eq_true, false_and, and_false, false_implies, true_implies, implies_true, ne_eq, and_self, ok1, M.k40, M.r40, z41, M.k41, M.n41, isIA, vpT, nI_clamp, nI_add, M.rd, gK_pI, gN_pI, gR_pI, gI_same, gI_diff, u1_eq, u1_ne]
            have ro : ∀ y, y ≤ wS w 0 → a (22144 + y) = wO w i y := fun y hy => by rw [R.2.2.2.2 y (by omega)]; exact if_pos hi
            refine c_X7_trades M bj3 hk e0 hY (by omega) (by omega) (fun y hy => ?_) fun g1 M1 => ?_
            · rw [ro y hy]
              have := rt_ge (r := wO w i) (y := y) (by omega)
              have := (hB.2.2 i hi).2.1
              omega
            rw [k0, e7] at M1
            have T := R.tr0 (n := n) (p := wF w (pos x) 4) hx hY (hA.1.2.2 _ hi) hi (by omega) bj3 hn'.symm rfl
            rw [hc2] at T
            have ex2 : ∀ q, q < 144 → q ≠ 7 → q ≠ 8 → q ≠ 20 + k → u1 (u1 (mvN (u1 a (20 + k) (wK w k 0 + n * wF w (pos x) 4)) 22144 (144 + 1000 * wF w (pos x) 2) n (wS w 0) 1000) 7 (wS w 7 + n)) 8 (wF w (pos x) 4) q = a q := fun q ql q7 q8 qk => by rw [u1_ne q8, u1_ne q7, mv_n (by omega) (by omega), u1_ne qk]
            have gL := (ex2 (112 + x) (by omega) (by omega) (by omega) (by omega)).trans c3
            have gM := ex2 11 (by omega) (by omega) (by omega) (by omega)
            generalize u1 (u1 (mvN (u1 a (20 + k) (wK w k 0 + n * wF w (pos x) 4)) 22144 (144 + 1000 * wF w (pos x) 2) n (wS w 0) 1000) 7 (wS w 7 + n)) 8 (wF w (pos x) 4) = a3 at *
            have t3 : ∀ c, wF (opTrade w (pos x) i (wF w (pos x) 4)) c 3 = if c = i then wF w i 3 - n else if c = pos x then wF w (pos x) 3 - n else wF w c 3 := fun c => by rw [opTrade_f3, hn']
            refine trade_tail hI hIA (by decide) ⟨trivial, fun _ => rfl⟩ M1 (by rw [gM]; exact hx) gL (by omega) (by omega) hn.symm g3 T hw1 (by rw [t3, if_pos rfl]) (by rw [t3, if_neg pne, if_pos rfl]) (fun z hz hzx => ?_) fun g' a' pos' l8 hl8 M' R' N' hf' => ?_
            · rw [gM] at hz
              have z1 : pos z ≠ pos x := fun e => hzx (R.2.2.1.2.2.1 z x hz hx e)
              rw [t3, if_neg (R.o hz).1.2, if_neg z1]
              exact N z hz
            · rw [hu] at q
              refine ih ⟨trivial, fun _ => rfl⟩ hl8 M' R' N' hw1 hc.tr ?_ q
              rw [gM] at hf'
              omega
          simp (disch := omega) only [e_X7_comes_100, e_X7_comes_101, e_X7_comes_104, e_X7_comes_106, e_X7_comes_108, e_X7_comes_109, e_X7_comes_110, e_X7_comes_112, tand, true_and, and_true, nl1_int, nl1_ref, nl1_null, nl1_ra, cat1_int, cat1_ref, cat1_null, stbs_nil, stbs_cons, stb_int, stb_long, stb_ref, stb_null, stb_ra, alv_nil, alv_cons, alv1_int, alv1_ref, alv1_null, alv1_ra, List.length_nil, List.length_cons, Nat.reduceAdd, Nat.reduceLeDiff, Nat.zero_le, Option.toList_some, Option.toList_none, List.cons_append, List.nil_append, or_true, true_or, or_false, false_or, Nat.reduceEqDiff, not_true_eq_false, not_false_eq_true, false_and, and_false, false_implies, true_implies, implies_true, ne_eq, and_self, ok1, M.k40, M.r40, z41, M.k41, M.n41, isIA, vpT, nI_clamp, nI_add, M.rd, gK_pI, gN_pI, gR_pI, gI_same, gI_diff, u1_eq, u1_ne, c3, nI_leE]
          refine ⟨fun h2 => ?_, fun h2 => ?_⟩
          · simp only [e_X7_comes_128, tand, true_and, and_true, nl1_int, nl1_ref, nl1_null, nl1_ra, cat1_int, cat1_ref, cat1_null, stbs_nil, stbs_cons, stb_int, stb_long, stb_ref, stb_null, stb_ra, alv_nil, alv_cons, alv1_int, alv1_ref, alv1_null, alv1_ra, List.length_nil, List.length_cons, Nat.reduceAdd, Nat.reduceLeDiff, Nat.zero_le, Option.toList_some, Option.toList_none, List.cons_append, List.nil_append, or_true, true_or, or_false, false_or, Nat.reduceEqDiff, not_true_eq_false, not_false_eq_true, false_and, and_false, false_implies, true_implies, implies_true, ne_eq, and_self, ok1]
            rw [Nat.min_eq_left h2] at go
            exact go
          · simp (disch := omega) only [e_X7_comes_115, e_X7_comes_116, e_X7_comes_119, e_X7_comes_121, e_X7_comes_123, e_X7_comes_124, e_X7_comes_125, tand, true_and, and_true, nl1_int, nl1_ref, nl1_null, nl1_ra, cat1_int, cat1_ref, cat1_null, stbs_nil, stbs_cons, stb_int, stb_long, stb_ref, stb_null, stb_ra, alv_nil, alv_cons, alv1_int, alv1_ref, alv1_null, alv1_ra, List.length_nil, List.length_cons, Nat.reduceAdd, Nat.reduceLeDiff, Nat.zero_le, Option.toList_some, Option.toList_none, List.cons_append, List.nil_append, or_true, true_or, or_false, false_or, Nat.reduceEqDiff, not_true_eq_false, not_false_eq_true, false_and, and_false, false_implies, true_implies, implies_true, ne_eq, and_self, ok1, M.k40, M.r40, z41, M.k41, M.n41, isIA, vpT, nI_clamp, nI_add, M.rd, gK_pI, gN_pI, gR_pI, gI_same, gI_diff, u1_eq, u1_ne, c3]
            rw [Nat.min_eq_right (by omega)] at go
            exact go
end Mme
