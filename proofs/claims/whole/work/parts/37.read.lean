/-! ===== the text of orders: all lines ===== -/
abbrev Ln : Type := Nat × Nat × Nat × Nat
def rdA (t : Nat → Nat) (n : Nat) : Nat → Nat → Option Nat × List Ln
  | 0, p => (some p, [])
  | f + 1, p => if (rdL t n p).1 = true then (if (rdL t n p).2.1 = n then (none, [(rdL t n p).2.2]) else
      if (rdL t n p).2.1 < n ∧ t (rdL t n p).2.1 = 59 then ((rdA t n f ((rdL t n p).2.1 + 1)).1, (rdL t n p).2.2 :: (rdA t n f ((rdL t n p).2.1 + 1)).2) else (some (rdL t n p).2.1, []))
    else (some (rdL t n p).2.1, [])
def rdV : Option Nat → Int32
  | none => -1
  | some p => nI p
def LnR (g : mG) : Nat → List Ln → Prop
  | _, [] => True
  | i, x :: L => (gI g (25 + i) 0 = nI x.1 ∧ gI g (25 + i) 1 = nI x.2.1 ∧ gI g (25 + i) 2 = nI x.2.2.1 ∧ gI g (25 + i) 3 = nI x.2.2.2) ∧ LnR g (i + 1) L
theorem rdL_le {t : Nat → Nat} {n p : Nat} (h : p ≤ n) : p ≤ (rdL t n p).2.1 ∧ (rdL t n p).2.1 ≤ n := by
  unfold rdL
  by_cases h1 : p < n ∧ (t p = 98 ∨ t p = 97)
  · rw [if_pos h1]
    cases hd : rdD t n (p + 1) with
    | none => exact ⟨Nat.le_succ p, by show p + 1 ≤ n; omega⟩
    | some d =>
      have hl := (rdD_lt hd).1
      by_cases h2 : 5 < d
      · simp only [if_pos h2]; omega
      · simp only [if_neg h2]
        by_cases h3 : p + 2 < n ∧ t (p + 2) = 58
        · simp only [if_pos h3]
          have r := rdN_le (t := t) (n := n) (most := 999) 60 (p + 3) 0 (by omega) (by omega)
          by_cases h4 : (rdN t n 999 60 (p + 3) 0).2 ≠ 0 ∧ (rdN t n 999 60 (p + 3) 0).1 < n ∧ t (rdN t n 999 60 (p + 3) 0).1 = 64
          · simp only [if_pos h4]
            have r2 := rdN_le (t := t) (n := n) (most := 500) 60 ((rdN t n 999 60 (p + 3) 0).1 + 1) 0 (by omega) (by omega)
            omega
          · simp only [if_neg h4]
            omega
        · simp only [if_neg h3]; omega
  · rw [if_neg h1]
    exact ⟨Nat.le_refl _, h⟩
section Rea
variable {t : Nat → Nat} {n : Nat} {Q : mQ}
theorem read_loop : ∀ (k i : Nat) {g : mG} {p : Nat}, i + k = 9 → TxR g t n → JR g → gI g 22 4 = nI p → p ≤ n → gI g 22 3 = nI i →
    (∀ g', TG g g' t n → (∀ b, b ≠ 22 → b < 25 + i → gI g' b = gI g b) → ((rdA t n k p).1 = none → gI g' 22 3 = nI (i + (rdA t n k p).2.length) ∧ LnR g' i (rdA t n k p).2) → Q (some (.int (rdV (rdA t n k p).1))) g') → WP m_X3_read Q 12 [.ref 22, .int (nI i)] [] g := by
  intro k
  induction k with
  | zero =>
    intro i g p hi h hJ hp hpn hc q
    obtain ⟨⟨a1, a2, a3⟩, ⟨b1, b2⟩, ⟨c1, c2⟩, d, e, f, z⟩ := id h
    have hi2 : i = 9 := by omega
    subst hi2
    have z0 : (24 : Nat) ≠ 0 := by decide
    simp (disch := omega) only [e_X3_read_12, e_X3_read_13, e_X3_read_14, e_X3_read_17, e_X3_read_18, e_X3_read_82, e_X3_read_83, e_X3_read_86, tand, true_and, and_true, nl1_int, nl1_ref, nl1_null, nl1_ra, cat1_int, cat1_ref, cat1_null, stbs_nil, stbs_cons, stb_int, stb_long, stb_ref, stb_null, stb_ra, alv_nil, alv_cons, alv1_int, alv1_ref, alv1_null, alv1_ra, List.length_nil, List.length_cons, Nat.reduceAdd, Nat.reduceLeDiff, Nat.zero_le, Option.toList_some, Option.toList_none, List.cons_append, List.nil_append, or_true, true_or, or_false, false_or, Nat.reduceEqDiff, not_true_eq_false, not_false_eq_true, false_and, and_false, false_implies, true_implies, implies_true, ne_eq, and_self, ok1, a1, a3, c1, c2, z0, nI_leE, hp]
    exact q g (TG.rf h hJ) (fun _ _ _ => rfl) (fun e => by simp [rdA] at e)
  | succ k ih =>
    intro i g p hi h hJ hp hpn hc q
    obtain ⟨⟨a1, a2, a3⟩, ⟨b1, b2⟩, ⟨c1, c2⟩, d, e, f, z⟩ := id h
    have hlt : i < 9 := by omega
    have hlt2 : ¬ 9 ≤ i := by omega
    have z0 : (24 : Nat) ≠ 0 := by decide
    have z1 : 25 + i ≠ 0 := by omega
    have n1 : (nI 1 = 0) = False := by simp [show nI 1 ≠ 0 by decide]
    have n0 : (nI 0 = 0) = True := by simp [show nI 0 = 0 by decide]
    obtain ⟨d1, d2⟩ := d i hlt
    have hrl := rdL_le (t := t) hpn
    unfold rdA at q
    simp (disch := omega) only [e_X3_read_12, e_X3_read_13, e_X3_read_14, e_X3_read_17, e_X3_read_18, e_X3_read_21, e_X3_read_22, e_X3_read_23, e_X3_read_26, e_X3_read_27, e_X3_read_28, tand, true_and, and_true, nl1_int, nl1_ref, nl1_null, nl1_ra, cat1_int, cat1_ref, cat1_null, stbs_nil, stbs_cons, stb_int, stb_long, stb_ref, stb_null, stb_ra, alv_nil, alv_cons, alv1_int, alv1_ref, alv1_null, alv1_ra, List.length_nil, List.length_cons, Nat.reduceAdd, Nat.reduceLeDiff, Nat.zero_le, Option.toList_some, Option.toList_none, List.cons_append, List.nil_append, or_true, true_or, or_false, false_or, Nat.reduceEqDiff, not_true_eq_false, not_false_eq_true, false_and, and_false, false_implies, true_implies, implies_true, ne_eq, and_self, ok1, a1, a3, c1, c2, z0, z1, nI_leE, hlt2, hlt, nI_vp, nI_clamp, d1]
    refine c_readLine hlt h hJ hp hpn (fun hok g1 L1 hp1 v0 v1 v2 v3 => ?_) (fun hno g1 L1 hp1 => ?_)
    · rw [if_pos hok] at q
      generalize rdL t n p = r at *
      have a1' := (L1.1.1.1 22).trans a1
      have hc1 : gI g1 22 3 = nI i := (L1.2.1 3 (by decide)).trans hc
      have hn1 : gI g1 22 1 = nI n := L1.1.2.2.2.2.2.2.1
      have T2 := L1.1.place 3 (nI (i + 1)) (by decide)
      have v0' : gI (pI g1 22 3 (nI (i + 1))) (25 + i) 0 = nI r.2.2.1 := by rw [gI_pI_ne (by omega)]; exact v0
      have v1' : gI (pI g1 22 3 (nI (i + 1))) (25 + i) 1 = nI r.2.2.2.1 := by rw [gI_pI_ne (by omega)]; exact v1
      have v2' : gI (pI g1 22 3 (nI (i + 1))) (25 + i) 2 = nI r.2.2.2.2.1 := by rw [gI_pI_ne (by omega)]; exact v2
      have v3' : gI (pI g1 22 3 (nI (i + 1))) (25 + i) 3 = nI r.2.2.2.2.2 := by rw [gI_pI_ne (by omega)]; exact v3
      have fr2 : ∀ b, b ≠ 22 → b < 25 + i → gI (pI g1 22 3 (nI (i + 1))) b = gI g b := fun b hb1 hb2 => by
        rw [gI_pI_ne hb1]; exact L1.2.2 b hb1 (by omega)
      simp (disch := omega) only [e_X3_read_31, e_X3_read_39, e_X3_read_40, e_X3_read_41, e_X3_read_44, e_X3_read_45, e_X3_read_46, e_X3_read_49, e_X3_read_50, e_X3_read_53, e_X3_read_54, e_X3_read_57, tand, true_and, and_true, nl1_int, nl1_ref, nl1_null, nl1_ra, cat1_int, cat1_ref, cat1_null, stbs_nil, stbs_cons, stb_int, stb_long, stb_ref, stb_null, stb_ra, alv_nil, alv_cons, alv1_int, alv1_ref, alv1_null, alv1_ra, List.length_nil, List.length_cons, Nat.reduceAdd, Nat.reduceLeDiff, Nat.zero_le, Option.toList_some, Option.toList_none, List.cons_append, List.nil_append, or_true, true_or, or_false, false_or, Nat.reduceEqDiff, not_true_eq_false, not_false_eq_true, false_and, and_false, false_implies, true_implies, implies_true, ne_eq, and_self, ok1, n1, a1', hc1, nI_add, gK_pI, gI_pI_eq, Nat.reduceEqDiff, if_false, hp1, hn1, nI_eqE]
      refine ⟨fun h1 => ?_, fun h1 => ?_⟩
      · rw [if_neg h1] at q
        have hp2 : gI (pI g1 22 3 (nI (i + 1))) 22 4 = nI r.2.1 := by rw [gI_pI_eq, if_neg (by decide)]; exact hp1
        simp (disch := omega) only [e_X3_read_62, e_X3_read_63, e_X3_read_65, tand, true_and, and_true, nl1_int, nl1_ref, nl1_null, nl1_ra, cat1_int, cat1_ref, cat1_null, stbs_nil, stbs_cons, stb_int, stb_long, stb_ref, stb_null, stb_ra, alv_nil, alv_cons, alv1_int, alv1_ref, alv1_null, alv1_ra, List.length_nil, List.length_cons, Nat.reduceAdd, Nat.reduceLeDiff, Nat.zero_le, Option.toList_some, Option.toList_none, List.cons_append, List.nil_append, or_true, true_or, or_false, false_or, Nat.reduceEqDiff, not_true_eq_false, not_false_eq_true, false_and, and_false, false_implies, true_implies, implies_true, ne_eq, and_self, ok1, a1', gK_pI]
        refine c_skip T2.2.2 hp2 (by omega) (by decide) (fun h2 h3 => ?_) (fun hn => ?_)
        · rw [if_pos ⟨h2, h3⟩] at q
          have T3 := T2.place 4 (nI (r.2.1 + 1)) (by decide)
          simp (disch := omega) only [e_X3_read_68, e_X3_read_76, e_X3_read_79, tand, true_and, and_true, nl1_int, nl1_ref, nl1_null, nl1_ra, cat1_int, cat1_ref, cat1_null, stbs_nil, stbs_cons, stb_int, stb_long, stb_ref, stb_null, stb_ra, alv_nil, alv_cons, alv1_int, alv1_ref, alv1_null, alv1_ra, List.length_nil, List.length_cons, Nat.reduceAdd, Nat.reduceLeDiff, Nat.zero_le, Option.toList_some, Option.toList_none, List.cons_append, List.nil_append, or_true, true_or, or_false, false_or, Nat.reduceEqDiff, not_true_eq_false, not_false_eq_true, false_and, and_false, false_implies, true_implies, implies_true, ne_eq, and_self, ok1, n1, nI_add]
          refine ih (i + 1) (by omega) T3.2.2 T3.2.1 (p := r.2.1 + 1) (by rw [gI_pI_eq, if_pos rfl]) (by omega) ?_ fun g4 T4 fr4 ln4 => ?_
          · rw [gI_pI_eq, if_neg (by decide), gI_pI_eq, if_pos rfl]
          · have fx : ∀ kk, gI g4 (25 + i) kk = gI (pI g1 22 3 (nI (i + 1))) (25 + i) kk := fun kk => by
              rw [fr4 (25 + i) (by omega) (by omega), gI_pI_ne (by omega)]
            refine q g4 (T3.tr T4) (fun b hb1 hb2 => ?_) (fun en => ?_)
            · rw [fr4 b hb1 (by omega), gI_pI_ne hb1]; exact fr2 b hb1 hb2
            · obtain ⟨l1, l2⟩ := ln4 en
              refine ⟨?_, ⟨(fx 0).trans v0', (fx 1).trans v1', (fx 2).trans v2', (fx 3).trans v3'⟩, l2⟩
              rw [l1, List.length_cons]
              congr 1
              omega
        · rw [if_neg hn] at q
          simp (disch := omega) only [e_X3_read_68, e_X3_read_71, e_X3_read_72, e_X3_read_75, tand, true_and, and_true, nl1_int, nl1_ref, nl1_null, nl1_ra, cat1_int, cat1_ref, cat1_null, stbs_nil, stbs_cons, stb_int, stb_long, stb_ref, stb_null, stb_ra, alv_nil, alv_cons, alv1_int, alv1_ref, alv1_null, alv1_ra, List.length_nil, List.length_cons, Nat.reduceAdd, Nat.reduceLeDiff, Nat.zero_le, Option.toList_some, Option.toList_none, List.cons_append, List.nil_append, or_true, true_or, or_false, false_or, Nat.reduceEqDiff, not_true_eq_false, not_false_eq_true, false_and, and_false, false_implies, true_implies, implies_true, ne_eq, and_self, ok1, n0, a1', gK_pI, hp2]
          exact q _ T2 fr2 (fun e => by simp at e)
      · rw [if_pos (show r.2.1 = n by omega)] at q
        simp only [e_X3_read_60, e_X3_read_61, tand, true_and, and_true, nl1_int, nl1_ref, nl1_null, nl1_ra, cat1_int, cat1_ref, cat1_null, stbs_nil, stbs_cons, stb_int, stb_long, stb_ref, stb_null, stb_ra, alv_nil, alv_cons, alv1_int, alv1_ref, alv1_null, alv1_ra, List.length_nil, List.length_cons, Nat.reduceAdd, Nat.reduceLeDiff, Nat.zero_le, Option.toList_some, Option.toList_none, List.cons_append, List.nil_append, or_true, true_or, or_false, false_or, Nat.reduceEqDiff, not_true_eq_false, not_false_eq_true, false_and, and_false, false_implies, true_implies, implies_true, ne_eq, and_self, ok1]
        exact q _ T2 fr2 (fun _ => ⟨by rw [gI_pI_eq, if_pos rfl]; rfl, ⟨v0', v1', v2', v3'⟩, trivial⟩)
    · rw [if_neg (by rw [hno]; decide)] at q
      have a1' := (L1.1.1.1 22).trans a1
      simp (disch := omega) only [e_X3_read_31, e_X3_read_34, e_X3_read_35, e_X3_read_38, tand, true_and, and_true, nl1_int, nl1_ref, nl1_null, nl1_ra, cat1_int, cat1_ref, cat1_null, stbs_nil, stbs_cons, stb_int, stb_long, stb_ref, stb_null, stb_ra, alv_nil, alv_cons, alv1_int, alv1_ref, alv1_null, alv1_ra, List.length_nil, List.length_cons, Nat.reduceAdd, Nat.reduceLeDiff, Nat.zero_le, Option.toList_some, Option.toList_none, List.cons_append, List.nil_append, or_true, true_or, or_false, false_or, Nat.reduceEqDiff, not_true_eq_false, not_false_eq_true, false_and, and_false, false_implies, true_implies, implies_true, ne_eq, and_self, ok1, n0, a1', hp1]
      exact q g1 L1.1 (fun b hb1 hb2 => L1.2.2 b hb1 (by omega)) (fun e => by simp at e)
theorem c_read {g : mG} (h : TxR g t n) (hJ : JR g) (q : ∀ g', TG g g' t n → ((rdA t n 9 0).1 = none → gI g' 22 3 = nI ((rdA t n 9 0).2.length) ∧ LnR g' 0 (rdA t n 9 0).2) → Q (some (.int (rdV (rdA t n 9 0).1))) g') : w_X3_read [.ref 22] g Q := by
  refine wm_at rfl ⟨trivial, trivial⟩ (show WP m_X3_read Q 0 [.ref 22, .retAddr 0] [] g from ?_)
  have a1 := h.1.1
  simp only [e_X3_read_0, e_X3_read_1, e_X3_read_2, e_X3_read_5, e_X3_read_6, e_X3_read_7, e_X3_read_10, e_X3_read_11, tand, true_and, and_true, nl1_int, nl1_ref, nl1_null, nl1_ra, cat1_int, cat1_ref, cat1_null, stbs_nil, stbs_cons, stb_int, stb_long, stb_ref, stb_null, stb_ra, alv_nil, alv_cons, alv1_int, alv1_ref, alv1_null, alv1_ra, List.length_nil, List.length_cons, Nat.reduceAdd, Nat.reduceLeDiff, Nat.zero_le, Option.toList_some, Option.toList_none, List.cons_append, List.nil_append, or_true, true_or, or_false, false_or, Nat.reduceEqDiff, not_true_eq_false, not_false_eq_true, false_and, and_false, false_implies, true_implies, implies_true, ne_eq, and_self, ok1, a1, gK_pI]
  have T2 := ((TG.rf h hJ).place 4 (nI 0) (by decide)).place 3 (nI 0) (by decide)
  refine read_loop 9 0 (p := 0) rfl T2.2.2 T2.2.1 ?_ (Nat.zero_le _) ?_ fun g' T3 _ ln => q g' (T2.tr T3) fun e => ?_
  · rw [gI_pI_eq, if_neg (by decide), gI_pI_eq, if_pos rfl]
  · rw [gI_pI_eq, if_pos rfl]
  · have := ln e
    rw [Nat.zero_add] at this
    exact this
end Rea
