/-! ===== what a town does: orders come ===== -/
def meetF (i : Nat) : Nat → Rw → Rw
  | 0, w => w
  | f + 1, w => if wF w i 3 = 0 then w else match bsF w (1 - wF w i 1) 17 with
    | none => w
    | some j => if meF w j (wF w i 4) then meetF i f (if wF w i 1 = 1 then opTrade w i j (wF w j 4) else opTrade w j i (wF w j 4)) else w
/-- an invariant of trades that keeps all small -/
def mInv (I : Rw → Prop) : Prop := (∀ w, I w → TB w ∧ ∀ i, i < 17 → wF w i 1 = 0 → rt (wO w i) = wF w i 3) ∧
  ∀ w i j p, I w → i < 17 → j < 17 → wF w i 1 = 1 → wF w j 1 = 0 → 0 < wF w i 3 → 0 < wF w j 3 → p ≤ wF w i 4 → wF w j 4 ≤ p → (p = wF w i 4 ∨ p = wF w j 4) → I (opTrade w i j p)
theorem stF_spec {w : Rw} {b i : Nat} (h : stF w b i = true) : 0 < wF w i 3 ∧ wF w i 1 = b := by
  simpa [stF] using h
theorem opTrade_F {w : Rw} {i j p a f : Nat} (hf : f ≠ 3) : wF (opTrade w i j p) a f = wF w a f := by
  show u2 (u2 w.2.2.2.1 i 3 _) j 3 _ a f = _
  unfold u2
  by_cases h1 : a = j
  · rw [if_pos h1, u1_ne hf]
    by_cases h2 : a = i
    · rw [if_pos h2, u1_ne hf]; rfl
    · rw [if_neg h2]; rfl
  · rw [if_neg h1]
    by_cases h2 : a = i
    · rw [if_pos h2, u1_ne hf]; rfl
    · rw [if_neg h2]; rfl
section Mee
variable {T : Nat} {Q : mQ}
theorem meet_loop {I : Rw → Prop} (hI : mInv I) {g0 : mG} {i : Nat} (hT : isT T) (hi : i < 17) {wZ : Rw} (q : ∀ g', CG (XT T) g0 g' T wZ → Q none g') : ∀ (k m : Nat) {g : mG} {w : Rw} {l3 : Value}, m + k = 17 → (l3 = .null ∨ stb g l3 = True) → Scr g → CG (XT T) g0 g T w → I w → meetF i k w = wZ → WP m_X5_meetOthers Q 2 [.ref T, .ref (T + 22 + 3 * i), .int (nI m), l3] [] g := by
  intro k
  induction k with
  | zero =>
    intro m g w l3 hm hl3 hS C hw e
    obtain ⟨⟨a1, a2, a3, a4⟩, ⟨b1, b2⟩, ⟨c1, c2⟩, ⟨d1, d2⟩⟩ := C.2.2.pl
    have hi2 : m = 17 := by omega
    subst hi2
    have z : T + 3 ≠ 0 := by omega
    simp (disch := omega) only [e_X5_meetOthers_2, e_X5_meetOthers_3, e_X5_meetOthers_4, e_X5_meetOthers_7, e_X5_meetOthers_8, e_X5_meetOthers_87, tand, true_and, and_true, nl1_int, nl1_ref, nl1_null, nl1_ra, cat1_int, cat1_ref, cat1_null, stbs_nil, stbs_cons, stb_int, stb_long, stb_ref, stb_null, stb_ra, alv_nil, alv_cons, alv1_int, alv1_ref, alv1_null, alv1_ra, List.length_nil, List.length_cons, Nat.reduceAdd, Nat.reduceLeDiff, Nat.zero_le, Option.toList_some, Option.toList_none, List.cons_append, List.nil_append, or_true, true_or, or_false, false_or, Nat.reduceEqDiff, not_true_eq_false, not_false_eq_true, false_and, and_false, false_implies, true_implies, implies_true, ne_eq, and_self, ok1, a1, a4, d1, d2, nI_leE, z]
    have e' : w = wZ := e
    rw [← e'] at q
    exact q g C
  | succ k ih =>
    intro m g w l3 hm hl3 hS C hw e
    obtain ⟨⟨a1, a2, a3, a4⟩, ⟨b1, b2⟩, ⟨c1, c2⟩, ⟨d1, d2⟩⟩ := C.2.2.pl
    obtain ⟨hB, hA⟩ := hI.1 w hw
    obtain ⟨⟨o1, o2⟩, ⟨o3, o4⟩, o5⟩ := C.2.2.o hi
    have f3 := (hB.2.2 i hi).1 3 (by decide)
    have f4 := (hB.2.2 i hi).1 4 (by decide)
    have z : T + 3 ≠ 0 := by omega
    have hlt : ¬ 17 ≤ m := by omega
    have hl3' : stb g l3 = True := by
      rcases hl3 with e | e
      · rw [e]; rfl
      · exact e
    simp (disch := omega) only [e_X5_meetOthers_2, e_X5_meetOthers_3, e_X5_meetOthers_4, e_X5_meetOthers_7, e_X5_meetOthers_8, e_X5_meetOthers_11, e_X5_meetOthers_11n, e_X5_meetOthers_12, e_X5_meetOthers_15, tand, true_and, and_true, nl1_int, nl1_ref, nl1_null, nl1_ra, cat1_int, cat1_ref, cat1_null, stbs_nil, stbs_cons, stb_int, stb_long, stb_ref, stb_null, stb_ra, alv_nil, alv_cons, alv1_int, alv1_ref, alv1_null, alv1_ra, List.length_nil, List.length_cons, Nat.reduceAdd, Nat.reduceLeDiff, Nat.zero_le, Option.toList_some, Option.toList_none, List.cons_append, List.nil_append, or_true, true_or, or_false, false_or, Nat.reduceEqDiff, not_true_eq_false, not_false_eq_true, false_and, and_false, false_implies, true_implies, implies_true, ne_eq, and_self, ok1, a1, a4, d1, d2, nI_leE, z, hlt, o1, o5 3 (by decide), nI_le0]
    unfold meetF at e
    refine ⟨fun h0 => ?_, fun h0 => ?_⟩
    · simp only [e_X5_meetOthers_87, tand, true_and, and_true, nl1_int, nl1_ref, nl1_null, nl1_ra, cat1_int, cat1_ref, cat1_null, stbs_nil, stbs_cons, stb_int, stb_long, stb_ref, stb_null, stb_ra, alv_nil, alv_cons, alv1_int, alv1_ref, alv1_null, alv1_ra, List.length_nil, List.length_cons, Nat.reduceAdd, Nat.reduceLeDiff, Nat.zero_le, Option.toList_some, Option.toList_none, List.cons_append, List.nil_append, or_true, true_or, or_false, false_or, Nat.reduceEqDiff, not_true_eq_false, not_false_eq_true, false_and, and_false, false_implies, true_implies, implies_true, ne_eq, and_self, ok1]
      rw [if_pos h0] at e
      rw [← e] at q
      exact q g C
    · rw [if_neg h0] at e
      have bb := C.2.2.b1 hi
      have go : w_X5_bestOf [.ref T, .int (nI (1 - wF w i 1))] g (fun v g' => WP m_X5_meetOthers Q 34 [.ref T, .ref (T + 22 + 3 * i), .int (nI m), l3] (v.toList ++ []) g') := by
        refine c_bestOf (by omega) C.2.2 hB ?_
        cases hb : bsF w (1 - wF w i 1) 17 with
        | none =>
          rw [hb] at e
          simp only [oV]
          simp only [e_X5_meetOthers_34, e_X5_meetOthers_34n, e_X5_meetOthers_35, e_X5_meetOthers_35n, e_X5_meetOthers_36, e_X5_meetOthers_36n, e_X5_meetOthers_50, tand, true_and, and_true, nl1_int, nl1_ref, nl1_null, nl1_ra, cat1_int, cat1_ref, cat1_null, stbs_nil, stbs_cons, stb_int, stb_long, stb_ref, stb_null, stb_ra, alv_nil, alv_cons, alv1_int, alv1_ref, alv1_null, alv1_ra, List.length_nil, List.length_cons, Nat.reduceAdd, Nat.reduceLeDiff, Nat.zero_le, Option.toList_some, Option.toList_none, List.cons_append, List.nil_append, or_true, true_or, or_false, false_or, Nat.reduceEqDiff, not_true_eq_false, not_false_eq_true, false_and, and_false, false_implies, true_implies, implies_true, ne_eq, and_self, ok1]
          have e' : w = wZ := e
          rw [← e'] at q
          exact q g C
        | some j =>
          rw [hb] at e
          obtain ⟨hj, hst⟩ := bsF_lt _ hb
          obtain ⟨hst1, hst2⟩ := stF_spec hst
          obtain ⟨⟨u1', u2'⟩, ⟨u3, u4⟩, u5⟩ := C.2.2.o hj
          have f4' := (hB.2.2 j hj).1 4 (by decide)
          simp only [oV]
          simp only [e_X5_meetOthers_34, e_X5_meetOthers_34n, e_X5_meetOthers_35, e_X5_meetOthers_35n, e_X5_meetOthers_36, e_X5_meetOthers_36n, e_X5_meetOthers_39, e_X5_meetOthers_39n, e_X5_meetOthers_40, e_X5_meetOthers_40n, e_X5_meetOthers_41, e_X5_meetOthers_44, tand, true_and, and_true, nl1_int, nl1_ref, nl1_null, nl1_ra, cat1_int, cat1_ref, cat1_null, stbs_nil, stbs_cons, stb_int, stb_long, stb_ref, stb_null, stb_ra, alv_nil, alv_cons, alv1_int, alv1_ref, alv1_null, alv1_ra, List.length_nil, List.length_cons, Nat.reduceAdd, Nat.reduceLeDiff, Nat.zero_le, Option.toList_some, Option.toList_none, List.cons_append, List.nil_append, or_true, true_or, or_false, false_or, Nat.reduceEqDiff, not_true_eq_false, not_false_eq_true, false_and, and_false, false_implies, true_implies, implies_true, ne_eq, and_self, ok1, a1, o1, u1', o5 4 (by decide)]
          refine c_isMetAt C.2.2 hj hB (by omega) ?_
          have e1 : (if meF w j (wF w i 4) then meetF i k (if wF w i 1 = 1 then opTrade w i j (wF w j 4) else opTrade w j i (wF w j 4)) else w) = wZ := e
          by_cases hme : meF w j (wF w i 4) = true
          · rw [if_pos hme] at e1
            rw [hme]
            have hij : i ≠ j := by
              intro z
              rw [← z] at hst2
              omega
            have meq := hme
            unfold meF at meq
            have nx : ∀ {g1 : mG} {w1 : Rw}, CG (XT T) g g1 T w1 → I w1 → meetF i k w1 = wZ → WP m_X5_meetOthers Q 81 [.ref T, .ref (T + 22 + 3 * i), .int (nI m), .ref (T + 22 + 3 * j)] [] g1 := fun {g1 w1} C1 hw1 e2 => by
              simp only [e_X5_meetOthers_81, e_X5_meetOthers_84, tand, true_and, and_true, nl1_int, nl1_ref, nl1_null, nl1_ra, cat1_int, cat1_ref, cat1_null, stbs_nil, stbs_cons, stb_int, stb_long, stb_ref, stb_null, stb_ra, alv_nil, alv_cons, alv1_int, alv1_ref, alv1_null, alv1_ra, List.length_nil, List.length_cons, Nat.reduceAdd, Nat.reduceLeDiff, Nat.zero_le, Option.toList_some, Option.toList_none, List.cons_append, List.nil_append, or_true, true_or, or_false, false_or, Nat.reduceEqDiff, not_true_eq_false, not_false_eq_true, false_and, and_false, false_implies, true_implies, implies_true, ne_eq, and_self, ok1, nI_add]
              exact ih (m + 1) (by omega) (Or.inr (stb_k ((C1.1.1 _).trans u1') (by decide) (by decide))) (hS.fr C1.1) (C.tr C1 fun _ z => z) hw1 e2
            by_cases hbid : wF w i 1 = 1
            · rw [if_pos hbid] at e1
              rw [if_pos (by omega), decide_eq_true_eq] at meq
              have nb : (nI (wF w i 1) = 0) = False := by rw [hbid]; simp [show nI 1 ≠ 0 by decide]
              simp only [e_X5_meetOthers_47, e_X5_meetOthers_50, e_X5_meetOthers_51, e_X5_meetOthers_51n, e_X5_meetOthers_52, e_X5_meetOthers_55, e_X5_meetOthers_58, e_X5_meetOthers_59, e_X5_meetOthers_59n, e_X5_meetOthers_60, e_X5_meetOthers_60n, e_X5_meetOthers_61, e_X5_meetOthers_61n, e_X5_meetOthers_62, e_X5_meetOthers_65, tand, true_and, and_true, nl1_int, nl1_ref, nl1_null, nl1_ra, cat1_int, cat1_ref, cat1_null, stbs_nil, stbs_cons, stb_int, stb_long, stb_ref, stb_null, stb_ra, alv_nil, alv_cons, alv1_int, alv1_ref, alv1_null, alv1_ra, List.length_nil, List.length_cons, Nat.reduceAdd, Nat.reduceLeDiff, Nat.zero_le, Option.toList_some, Option.toList_none, List.cons_append, List.nil_append, or_true, true_or, or_false, false_or, Nat.reduceEqDiff, not_true_eq_false, not_false_eq_true, false_and, and_false, false_implies, true_implies, implies_true, ne_eq, and_self, ok1, nB1, a1, o1, u1', o5 1 (by decide), nb, u5 4 (by decide)]
              refine c_trade hT C.2.2 hB hi hj hij (by rw [hA j hj (by omega)]; exact Nat.min_le_right _ _) meq hS C.2.1 fun g1 C1 => ?_
              simp only [e_X5_meetOthers_68, tand, true_and, and_true, nl1_int, nl1_ref, nl1_null, nl1_ra, cat1_int, cat1_ref, cat1_null, stbs_nil, stbs_cons, stb_int, stb_long, stb_ref, stb_null, stb_ra, alv_nil, alv_cons, alv1_int, alv1_ref, alv1_null, alv1_ra, List.length_nil, List.length_cons, Nat.reduceAdd, Nat.reduceLeDiff, Nat.zero_le, Option.toList_some, Option.toList_none, List.cons_append, List.nil_append, or_true, true_or, or_false, false_or, Nat.reduceEqDiff, not_true_eq_false, not_false_eq_true, false_and, and_false, false_implies, true_implies, implies_true, ne_eq, and_self, ok1]
              exact nx C1 (hI.2 w i j _ hw hi hj hbid (by omega) (by omega) hst1 meq (Nat.le_refl _) (Or.inr rfl)) e1
            · have hbid0 : wF w i 1 = 0 := by omega
              rw [if_neg hbid] at e1
              rw [if_neg (by omega), decide_eq_true_eq] at meq
              have nb : (nI (wF w i 1) = 0) = True := by rw [hbid0]; simp [show nI 0 = 0 by decide]
              simp only [e_X5_meetOthers_47, e_X5_meetOthers_50, e_X5_meetOthers_51, e_X5_meetOthers_51n, e_X5_meetOthers_52, e_X5_meetOthers_55, e_X5_meetOthers_71, e_X5_meetOthers_72, e_X5_meetOthers_72n, e_X5_meetOthers_73, e_X5_meetOthers_73n, e_X5_meetOthers_74, e_X5_meetOthers_74n, e_X5_meetOthers_75, e_X5_meetOthers_78, tand, true_and, and_true, nl1_int, nl1_ref, nl1_null, nl1_ra, cat1_int, cat1_ref, cat1_null, stbs_nil, stbs_cons, stb_int, stb_long, stb_ref, stb_null, stb_ra, alv_nil, alv_cons, alv1_int, alv1_ref, alv1_null, alv1_ra, List.length_nil, List.length_cons, Nat.reduceAdd, Nat.reduceLeDiff, Nat.zero_le, Option.toList_some, Option.toList_none, List.cons_append, List.nil_append, or_true, true_or, or_false, false_or, Nat.reduceEqDiff, not_true_eq_false, not_false_eq_true, false_and, and_false, false_implies, true_implies, implies_true, ne_eq, and_self, ok1, nB1, a1, o1, u1', o5 1 (by decide), nb, u5 4 (by decide)]
              refine c_trade hT C.2.2 hB hj hi hij.symm (by rw [hA i hi hbid0]; exact Nat.min_le_right _ _) (Nat.le_refl _) hS C.2.1 fun g1 C1 => ?_
              exact nx C1 (hI.2 w j i _ hw hj hi (by omega) hbid0 hst1 (by omega) (Nat.le_refl _) meq (Or.inl rfl)) e1
          · rw [if_neg hme] at e1
            rw [show meF w j (wF w i 4) = false by simpa using hme]
            simp only [e_X5_meetOthers_47, e_X5_meetOthers_50, tand, true_and, and_true, nl1_int, nl1_ref, nl1_null, nl1_ra, cat1_int, cat1_ref, cat1_null, stbs_nil, stbs_cons, stb_int, stb_long, stb_ref, stb_null, stb_ra, alv_nil, alv_cons, alv1_int, alv1_ref, alv1_null, alv1_ra, List.length_nil, List.length_cons, Nat.reduceAdd, Nat.reduceLeDiff, Nat.zero_le, Option.toList_some, Option.toList_none, List.cons_append, List.nil_append, or_true, true_or, or_false, false_or, Nat.reduceEqDiff, not_true_eq_false, not_false_eq_true, false_and, and_false, false_implies, true_implies, implies_true, ne_eq, and_self, ok1, nB0]
            rw [← e1] at q
            exact q g C
      by_cases hbid : wF w i 1 = 1
      · have nb : (nI (wF w i 1) = 0) = False := by rw [hbid]; simp [show nI 1 ≠ 0 by decide]
        rw [hbid] at go
        simp (disch := omega) only [e_X5_meetOthers_18, e_X5_meetOthers_19, e_X5_meetOthers_19n, e_X5_meetOthers_20, e_X5_meetOthers_23, e_X5_meetOthers_26, e_X5_meetOthers_27, e_X5_meetOthers_30, e_X5_meetOthers_31, tand, true_and, and_true, nl1_int, nl1_ref, nl1_null, nl1_ra, cat1_int, cat1_ref, cat1_null, stbs_nil, stbs_cons, stb_int, stb_long, stb_ref, stb_null, stb_ra, alv_nil, alv_cons, alv1_int, alv1_ref, alv1_null, alv1_ra, List.length_nil, List.length_cons, Nat.reduceAdd, Nat.reduceLeDiff, Nat.zero_le, Option.toList_some, Option.toList_none, List.cons_append, List.nil_append, or_true, true_or, or_false, false_or, Nat.reduceEqDiff, not_true_eq_false, not_false_eq_true, false_and, and_false, false_implies, true_implies, implies_true, ne_eq, and_self, ok1, a1, o1, o5 1 (by decide), nb, hl3']
        exact go
      · have hbid0 : wF w i 1 = 0 := by omega
        have nb : (nI (wF w i 1) = 0) = True := by rw [hbid0]; simp [show nI 0 = 0 by decide]
        rw [hbid0] at go
        simp (disch := omega) only [e_X5_meetOthers_18, e_X5_meetOthers_19, e_X5_meetOthers_19n, e_X5_meetOthers_20, e_X5_meetOthers_23, e_X5_meetOthers_26, e_X5_meetOthers_27, e_X5_meetOthers_30, e_X5_meetOthers_31, tand, true_and, and_true, nl1_int, nl1_ref, nl1_null, nl1_ra, cat1_int, cat1_ref, cat1_null, stbs_nil, stbs_cons, stb_int, stb_long, stb_ref, stb_null, stb_ra, alv_nil, alv_cons, alv1_int, alv1_ref, alv1_null, alv1_ra, List.length_nil, List.length_cons, Nat.reduceAdd, Nat.reduceLeDiff, Nat.zero_le, Option.toList_some, Option.toList_none, List.cons_append, List.nil_append, or_true, true_or, or_false, false_or, Nat.reduceEqDiff, not_true_eq_false, not_false_eq_true, false_and, and_false, false_implies, true_implies, implies_true, ne_eq, and_self, ok1, a1, o1, o5 1 (by decide), nb, hl3']
        exact go
theorem c_meetOthers {I : Rw → Prop} (hI : mInv I) {g : mG} {i : Nat} {w : Rw} (hT : isT T) (hi : i < 17) (h : TRw g T w) (hw : I w) (hS : Scr g) (hJ : JR g) (q : ∀ g', CG (XT T) g g' T (meetF i 17 w) → Q none g') : w_X5_meetOthers [.ref T, .ref (T + 22 + 3 * i)] g Q := by
  refine wm_at rfl ⟨trivial, trivial, trivial⟩ (show WP m_X5_meetOthers Q 0 [.ref T, .ref (T + 22 + 3 * i), .retAddr 0, .retAddr 0] [] g from ?_)
  simp only [e_X5_meetOthers_0, e_X5_meetOthers_1, tand, true_and, and_true, nl1_int, nl1_ref, nl1_null, nl1_ra, cat1_int, cat1_ref, cat1_null, stbs_nil, stbs_cons, stb_int, stb_long, stb_ref, stb_null, stb_ra, alv_nil, alv_cons, alv1_int, alv1_ref, alv1_null, alv1_ra, List.length_nil, List.length_cons, Nat.reduceAdd, Nat.reduceLeDiff, Nat.zero_le, Option.toList_some, Option.toList_none, List.cons_append, List.nil_append, or_true, true_or, or_false, false_or, Nat.reduceEqDiff, not_true_eq_false, not_false_eq_true, false_and, and_false, false_implies, true_implies, implies_true, ne_eq, and_self, ok1]
  exact meet_loop hI hT hi q 17 0 rfl (Or.inr rfl) hS (CG.rf hJ h) hw rfl
end Mee
