/-! ===== the text of orders: lines ===== -/
def rdL (t : Nat → Nat) (n p : Nat) : Bool × Nat × (Nat × Nat × Nat × Nat) :=
  if p < n ∧ (t p = 98 ∨ t p = 97) then
    match rdD t n (p + 1) with
    | none => (false, p + 1, 0, 0, 0, 0)
    | some d => if 5 < d then (false, p + 1, 0, 0, 0, 0) else
      if p + 2 < n ∧ t (p + 2) = 58 then
        if (rdN t n 999 60 (p + 3) 0).2 ≠ 0 ∧ (rdN t n 999 60 (p + 3) 0).1 < n ∧ t (rdN t n 999 60 (p + 3) 0).1 = 64 then
          (decide ((rdN t n 500 60 ((rdN t n 999 60 (p + 3) 0).1 + 1) 0).2 ≠ 0), (rdN t n 500 60 ((rdN t n 999 60 (p + 3) 0).1 + 1) 0).1, nB (decide (t p = 98)), d, (rdN t n 999 60 (p + 3) 0).2, (rdN t n 500 60 ((rdN t n 999 60 (p + 3) 0).1 + 1) 0).2)
        else (false, (rdN t n 999 60 (p + 3) 0).1, 0, 0, 0, 0)
      else (false, p + 2, 0, 0, 0, 0)
  else (false, p, 0, 0, 0, 0)
theorem rdN_le {t : Nat → Nat} {n most : Nat} : ∀ (f p v : Nat), p ≤ n → v ≤ most → p ≤ (rdN t n most f p v).1 ∧ (rdN t n most f p v).1 ≤ n ∧ (rdN t n most f p v).2 ≤ most := by
  intro f
  induction f with
  | zero => exact fun p v h hv => ⟨Nat.le_refl _, h, hv⟩
  | succ f ih =>
    intro p v h hv
    unfold rdN
    cases hd : rdD t n p with
    | none => exact ⟨Nat.le_refl _, h, hv⟩
    | some d =>
      have := (rdD_lt hd).1
      by_cases h1 : (v = 0 ∧ d = 0) ∨ most < v * 10 + d
      · simp only [if_pos h1]
        exact ⟨Nat.le_refl _, h, hv⟩
      · simp only [if_neg h1]
        obtain ⟨q1, q2, q3⟩ := ih (p + 1) (v * 10 + d) (by omega) (by omega)
        exact ⟨by omega, q2, q3⟩
/-- a number that is one has a digit -/
theorem rdN_pos {t : Nat → Nat} {n most : Nat} : ∀ (f p : Nat), p ≤ n → (rdN t n most f p 0).2 ≠ 0 → p + 1 ≤ (rdN t n most f p 0).1 := by
  intro f
  cases f with
  | zero => exact fun p _ h => absurd rfl h
  | succ f =>
    intro p hp h
    unfold rdN at h ⊢
    cases hd : rdD t n p with
    | none => rw [hd] at h; exact absurd rfl h
    | some d =>
      rw [hd] at h
      have hlt := (rdD_lt hd).1
      have h' : (if (0 = 0 ∧ d = 0) ∨ most < 0 * 10 + d then (p, 0) else rdN t n most f (p + 1) (0 * 10 + d)).2 ≠ 0 := h
      show p + 1 ≤ (if (0 = 0 ∧ d = 0) ∨ most < 0 * 10 + d then (p, 0) else rdN t n most f (p + 1) (0 * 10 + d)).1
      by_cases h1 : (0 = 0 ∧ d = 0) ∨ most < 0 * 10 + d
      · rw [if_pos h1] at h'
        exact absurd rfl h'
      · rw [if_neg h1]
        exact (rdN_le f (p + 1) (0 * 10 + d) (by omega) (by omega)).1
section Lin
variable {t : Nat → Nat} {n : Nat} {Q : mQ}
/-- what reading line i keeps -/
def LG (g g' : mG) (t : Nat → Nat) (n i : Nat) : Prop := TG g g' t n ∧ (∀ k, k ≠ 4 → gI g' 22 k = gI g 22 k) ∧ ∀ b, b ≠ 22 → b ≠ 25 + i → gI g' b = gI g b
theorem LG.place {g g' : mG} {i : Nat} (h : LG g g' t n i) (v : Int32) : LG g (pI g' 22 4 v) t n i := ⟨h.1.place 4 v (by decide), fun k hk => by rw [gI_pI_eq, if_neg hk]; exact h.2.1 k hk, fun b h1 h2 => by rw [gI_pI_ne h1]; exact h.2.2 b h1 h2⟩
theorem LG.line {g g' : mG} {i : Nat} (h : LG g g' t n i) (hi : i < 9) (k : Nat) (v : Int32) : LG g (pI g' (25 + i) k v) t n i := ⟨h.1.line i k hi v, fun k hk => by rw [gI_pI_ne (by omega)]; exact h.2.1 k hk, fun b h1 h2 => by rw [gI_pI_ne h2]; exact h.2.2 b h1 h2⟩
theorem LG.num {g g' g2 : mG} {i : Nat} (h : LG g g' t n i) (h1 : TG g' g2 t n) (h2 : ∀ k, k ≠ 4 → gI g2 22 k = gI g' 22 k) (h3 : ∀ b, b ≠ 22 → gI g2 b = gI g' b) : LG g g2 t n i := ⟨h.1.tr h1, fun k hk => (h2 k hk).trans (h.2.1 k hk), fun b b1 b2 => (h3 b b1).trans (h.2.2 b b1 b2)⟩
theorem c_readLine {g : mG} {p i : Nat} (hi : i < 9) (h : TxR g t n) (hJ : JR g) (hp : gI g 22 4 = nI p) (hpn : p ≤ n)
    (q1 : (rdL t n p).1 = true → ∀ g', LG g g' t n i → gI g' 22 4 = nI (rdL t n p).2.1 → gI g' (25 + i) 0 = nI (rdL t n p).2.2.1 → gI g' (25 + i) 1 = nI (rdL t n p).2.2.2.1 → gI g' (25 + i) 2 = nI (rdL t n p).2.2.2.2.1 → gI g' (25 + i) 3 = nI (rdL t n p).2.2.2.2.2 → Q (some (.int (nI 1))) g')
    (q0 : (rdL t n p).1 = false → ∀ g', LG g g' t n i → gI g' 22 4 = nI (rdL t n p).2.1 → Q (some (.int (nI 0))) g') : w_X3_readLine [.ref 22, .ref (25 + i)] g Q := by
  refine wm_at rfl ⟨trivial, trivial, trivial⟩ (show WP m_X3_readLine Q 0 [.ref 22, .ref (25 + i)] [] g from ?_)
  obtain ⟨⟨a1, a2, a3⟩, ⟨b1, b2⟩, ⟨c1, c2⟩, d, e, f, z⟩ := id h
  have hl := (d i hi).2
  have hx : (22 : Nat) ≠ 25 + i := by omega
  have hx2 : 25 + i ≠ 22 := by omega
  have n1 : (nI 1 = 0) = False := by simp [show nI 1 ≠ 0 by decide]
  have n0 : (nI 0 = 0) = True := by simp [show nI 0 = 0 by decide]
  simp (disch := omega) only [e_X3_readLine_0, e_X3_readLine_0n, e_X3_readLine_1, e_X3_readLine_2, e_X3_readLine_4, tand, true_and, and_true, nl1_int, nl1_ref, nl1_null, nl1_ra, cat1_int, cat1_ref, cat1_null, stbs_nil, stbs_cons, stb_int, stb_long, stb_ref, stb_null, stb_ra, alv_nil, alv_cons, alv1_int, alv1_ref, alv1_null, alv1_ra, List.length_nil, List.length_cons, Nat.reduceAdd, Nat.reduceLeDiff, Nat.zero_le, Option.toList_some, Option.toList_none, List.cons_append, List.nil_append, or_true, true_or, or_false, false_or, Nat.reduceEqDiff, not_true_eq_false, not_false_eq_true, false_and, and_false, false_implies, true_implies, implies_true, ne_eq, and_self, ok1, a1, hl]
  refine c_isNext h hp (by omega) (by decide) ?_
  generalize hb : nB (decide (p < n ∧ t p = 98)) = b
  have hb01 : b ≤ 1 := by rw [← hb]; unfold nB; split <;> omega
  have bE : (nI b = 0 ∨ nI b = 1) = True := propext ⟨fun _ => trivial, fun _ => by
    rcases Nat.le_one_iff_eq_zero_or_eq_one.mp hb01 with e | e
    · left; rw [e]; rfl
    · right; rw [e]; rfl⟩
  have L0 : LG g g t n i := ⟨TG.rf h hJ, fun _ _ => rfl, fun _ _ _ => rfl⟩
  have L1 := L0.line hi 0 (nI b)
  simp (disch := omega) only [e_X3_readLine_7, e_X3_readLine_10, e_X3_readLine_11, e_X3_readLine_13, tand, true_and, and_true, nl1_int, nl1_ref, nl1_null, nl1_ra, cat1_int, cat1_ref, cat1_null, stbs_nil, stbs_cons, stb_int, stb_long, stb_ref, stb_null, stb_ra, alv_nil, alv_cons, alv1_int, alv1_ref, alv1_null, alv1_ra, List.length_nil, List.length_cons, Nat.reduceAdd, Nat.reduceLeDiff, Nat.zero_le, Option.toList_some, Option.toList_none, List.cons_append, List.nil_append, or_true, true_or, or_false, false_or, Nat.reduceEqDiff, not_true_eq_false, not_false_eq_true, false_and, and_false, false_implies, true_implies, implies_true, ne_eq, and_self, ok1, a1, hl, bE, gK_pI]
  have hp1 : gI (pI g (25 + i) 0 (nI b)) 22 4 = nI p := by rw [gI_pI_ne hx]; exact hp
  -- the first sign is taken
  have at30 : ∀ {g2 : mG}, LG g g2 t n i → gI g2 22 4 = nI (p + 1) → gI g2 (25 + i) 0 = nI b → p < n → (t p = 98 ∨ t p = 97) → WP m_X3_readLine Q 30 [.ref 22, .ref (25 + i)] [] g2 := fun {g2} L2 hp2 hb2 hlt hc => by
    have k2 : ∀ x, gK g2 x = gK g x := L2.1.1.1
    have a1' := (k2 22).trans a1
    have hl' := (k2 (25 + i)).trans hl
    have q1' := q1
    have q0' := q0
    unfold rdL at q1' q0'
    rw [if_pos ⟨hlt, hc⟩] at q1' q0'
    clear q1 q0
    simp (disch := omega) only [e_X3_readLine_30, e_X3_readLine_30n, e_X3_readLine_31, e_X3_readLine_32, tand, true_and, and_true, nl1_int, nl1_ref, nl1_null, nl1_ra, cat1_int, cat1_ref, cat1_null, stbs_nil, stbs_cons, stb_int, stb_long, stb_ref, stb_null, stb_ra, alv_nil, alv_cons, alv1_int, alv1_ref, alv1_null, alv1_ra, List.length_nil, List.length_cons, Nat.reduceAdd, Nat.reduceLeDiff, Nat.zero_le, Option.toList_some, Option.toList_none, List.cons_append, List.nil_append, or_true, true_or, or_false, false_or, Nat.reduceEqDiff, not_true_eq_false, not_false_eq_true, false_and, and_false, false_implies, true_implies, implies_true, ne_eq, and_self, ok1, a1', hl']
    refine c_digit L2.1.2.2 hp2 (by omega) (fun dd hd hd9 hpn2 => ?_) (fun hno => ?_)
    · rw [hd] at q1' q0'
      have L3 := L2.line hi 1 (nI dd)
      have hp3 : gI (pI g2 (25 + i) 1 (nI dd)) 22 4 = nI (p + 1) := by rw [gI_pI_ne hx]; exact hp2
      simp (disch := omega) only [e_X3_readLine_35, e_X3_readLine_38, e_X3_readLine_38n, e_X3_readLine_39, e_X3_readLine_42, e_X3_readLine_43, e_X3_readLine_44, tand, true_and, and_true, nl1_int, nl1_ref, nl1_null, nl1_ra, cat1_int, cat1_ref, cat1_null, stbs_nil, stbs_cons, stb_int, stb_long, stb_ref, stb_null, stb_ra, alv_nil, alv_cons, alv1_int, alv1_ref, alv1_null, alv1_ra, List.length_nil, List.length_cons, Nat.reduceAdd, Nat.reduceLeDiff, Nat.zero_le, Option.toList_some, Option.toList_none, List.cons_append, List.nil_append, or_true, true_or, or_false, false_or, Nat.reduceEqDiff, not_true_eq_false, not_false_eq_true, false_and, and_false, false_implies, true_implies, implies_true, ne_eq, and_self, ok1, a1', hl', gK_pI, gI_pI_eq, if_true]
      refine c_isWithin (fun _ h5 => ?_) (fun hn => ?_)
      · rw [nI_leE (by omega) (by omega)] at h5
        have h5' : ¬ 5 < dd := by omega
        simp only [if_neg h5'] at q1' q0'
        have L4 := L3.place (nI (p + 2))
        simp (disch := omega) only [e_X3_readLine_47, e_X3_readLine_52, e_X3_readLine_53, e_X3_readLine_54, e_X3_readLine_57, e_X3_readLine_58, e_X3_readLine_59, e_X3_readLine_62, e_X3_readLine_63, e_X3_readLine_65, tand, true_and, and_true, nl1_int, nl1_ref, nl1_null, nl1_ra, cat1_int, cat1_ref, cat1_null, stbs_nil, stbs_cons, stb_int, stb_long, stb_ref, stb_null, stb_ra, alv_nil, alv_cons, alv1_int, alv1_ref, alv1_null, alv1_ra, List.length_nil, List.length_cons, Nat.reduceAdd, Nat.reduceLeDiff, Nat.zero_le, Option.toList_some, Option.toList_none, List.cons_append, List.nil_append, or_true, true_or, or_false, false_or, Nat.reduceEqDiff, not_true_eq_false, not_false_eq_true, false_and, and_false, false_implies, true_implies, implies_true, ne_eq, and_self, ok1, n1, a1', hl', gK_pI, hp3, nI_add]
        refine c_skip L4.1.2.2 (p := p + 2) (by rw [gI_pI_eq, if_pos rfl]) (by omega) (by decide) (fun h6 h7 => ?_) (fun hn => ?_)
        · simp only [if_pos (show p + 2 < n ∧ t (p + 2) = 58 from ⟨h6, h7⟩)] at q1' q0'
          have L5 := L4.place (nI (p + 2 + 1))
          simp (disch := omega) only [e_X3_readLine_68, e_X3_readLine_73, e_X3_readLine_73n, e_X3_readLine_74, e_X3_readLine_75, e_X3_readLine_78, tand, true_and, and_true, nl1_int, nl1_ref, nl1_null, nl1_ra, cat1_int, cat1_ref, cat1_null, stbs_nil, stbs_cons, stb_int, stb_long, stb_ref, stb_null, stb_ra, alv_nil, alv_cons, alv1_int, alv1_ref, alv1_null, alv1_ra, List.length_nil, List.length_cons, Nat.reduceAdd, Nat.reduceLeDiff, Nat.zero_le, Option.toList_some, Option.toList_none, List.cons_append, List.nil_append, or_true, true_or, or_false, false_or, Nat.reduceEqDiff, not_true_eq_false, not_false_eq_true, false_and, and_false, false_implies, true_implies, implies_true, ne_eq, and_self, ok1, n1, a1', hl', gK_pI]
          refine c_readNumber (by decide) L5.1.2.2 L5.1.2.1 (p := p + 3) (by rw [gI_pI_eq, if_pos rfl]) (by omega) fun g6 T6 hp6 k6 b6 => ?_
          have L6 := L5.num T6 k6 b6
          have r6 := rdN_le (t := t) (n := n) (most := 999) 60 (p + 3) 0 (by omega) (by omega)
          have v60 : gI g6 (25 + i) 0 = nI b := by rw [b6 _ hx2, gI_pI_ne hx2, gI_pI_ne hx2, gI_pI_eq, if_neg (by decide)]; exact hb2
          have v61 : gI g6 (25 + i) 1 = nI dd := by rw [b6 _ hx2, gI_pI_ne hx2, gI_pI_ne hx2, gI_pI_eq, if_pos rfl]
          generalize rdN t n 999 60 (p + 3) 0 = pv at *
          have a16 := (L6.1.1.1 22).trans a1
          have hl6 := (L6.1.1.1 (25 + i)).trans hl
          have L7 := L6.line hi 2 (nI pv.2)
          have hp7 : gI (pI g6 (25 + i) 2 (nI pv.2)) 22 4 = nI pv.1 := by rw [gI_pI_ne hx]; exact hp6
          simp (disch := omega) only [e_X3_readLine_81, e_X3_readLine_84, e_X3_readLine_84n, e_X3_readLine_85, e_X3_readLine_88, tand, true_and, and_true, nl1_int, nl1_ref, nl1_null, nl1_ra, cat1_int, cat1_ref, cat1_null, stbs_nil, stbs_cons, stb_int, stb_long, stb_ref, stb_null, stb_ra, alv_nil, alv_cons, alv1_int, alv1_ref, alv1_null, alv1_ra, List.length_nil, List.length_cons, Nat.reduceAdd, Nat.reduceLeDiff, Nat.zero_le, Option.toList_some, Option.toList_none, List.cons_append, List.nil_append, or_true, true_or, or_false, false_or, Nat.reduceEqDiff, not_true_eq_false, not_false_eq_true, false_and, and_false, false_implies, true_implies, implies_true, ne_eq, and_self, ok1, a16, hl6, gK_pI, gI_pI_eq, if_true, nI_eq0]
          refine ⟨fun h8 => ?_, fun h8 => ?_⟩
          · simp only [if_neg (show ¬ (pv.2 ≠ 0 ∧ pv.1 < n ∧ t pv.1 = 64) from fun y => y.1 h8)] at q0'
            simp only [e_X3_readLine_100, e_X3_readLine_101, tand, true_and, and_true, nl1_int, nl1_ref, nl1_null, nl1_ra, cat1_int, cat1_ref, cat1_null, stbs_nil, stbs_cons, stb_int, stb_long, stb_ref, stb_null, stb_ra, alv_nil, alv_cons, alv1_int, alv1_ref, alv1_null, alv1_ra, List.length_nil, List.length_cons, Nat.reduceAdd, Nat.reduceLeDiff, Nat.zero_le, Option.toList_some, Option.toList_none, List.cons_append, List.nil_append, or_true, true_or, or_false, false_or, Nat.reduceEqDiff, not_true_eq_false, not_false_eq_true, false_and, and_false, false_implies, true_implies, implies_true, ne_eq, and_self, ok1, bE0]
            exact q0' (by trivial) _ L7 hp7
          · simp (disch := omega) only [e_X3_readLine_91, e_X3_readLine_92, e_X3_readLine_94, tand, true_and, and_true, nl1_int, nl1_ref, nl1_null, nl1_ra, cat1_int, cat1_ref, cat1_null, stbs_nil, stbs_cons, stb_int, stb_long, stb_ref, stb_null, stb_ra, alv_nil, alv_cons, alv1_int, alv1_ref, alv1_null, alv1_ra, List.length_nil, List.length_cons, Nat.reduceAdd, Nat.reduceLeDiff, Nat.zero_le, Option.toList_some, Option.toList_none, List.cons_append, List.nil_append, or_true, true_or, or_false, false_or, Nat.reduceEqDiff, not_true_eq_false, not_false_eq_true, false_and, and_false, false_implies, true_implies, implies_true, ne_eq, and_self, ok1, a16, hl6, gK_pI]
            refine c_skip L7.1.2.2 hp7 (by omega) (by decide) (fun h9 h10 => ?_) (fun hn => ?_)
            · simp only [if_pos (show pv.2 ≠ 0 ∧ pv.1 < n ∧ t pv.1 = 64 from ⟨h8, h9, h10⟩)] at q1' q0'
              have L8 := L7.place (nI (pv.1 + 1))
              simp (disch := omega) only [e_X3_readLine_97, e_X3_readLine_102, e_X3_readLine_102n, e_X3_readLine_103, e_X3_readLine_104, e_X3_readLine_107, tand, true_and, and_true, nl1_int, nl1_ref, nl1_null, nl1_ra, cat1_int, cat1_ref, cat1_null, stbs_nil, stbs_cons, stb_int, stb_long, stb_ref, stb_null, stb_ra, alv_nil, alv_cons, alv1_int, alv1_ref, alv1_null, alv1_ra, List.length_nil, List.length_cons, Nat.reduceAdd, Nat.reduceLeDiff, Nat.zero_le, Option.toList_some, Option.toList_none, List.cons_append, List.nil_append, or_true, true_or, or_false, false_or, Nat.reduceEqDiff, not_true_eq_false, not_false_eq_true, false_and, and_false, false_implies, true_implies, implies_true, ne_eq, and_self, ok1, n1, a16, hl6, gK_pI]
              refine c_readNumber (by decide) L8.1.2.2 L8.1.2.1 (p := pv.1 + 1) (by rw [gI_pI_eq, if_pos rfl]) (by omega) fun g9 T9 hp9 k9 b9 => ?_
              have L9 := L8.num T9 k9 b9
              have r9 := rdN_le (t := t) (n := n) (most := 500) 60 (pv.1 + 1) 0 (by omega) (by omega)
              have v90 : gI g9 (25 + i) 0 = nI b := by rw [b9 _ hx2, gI_pI_ne hx2, gI_pI_eq, if_neg (by decide)]; exact v60
              have v91 : gI g9 (25 + i) 1 = nI dd := by rw [b9 _ hx2, gI_pI_ne hx2, gI_pI_eq, if_neg (by decide)]; exact v61
              have v92 : gI g9 (25 + i) 2 = nI pv.2 := by rw [b9 _ hx2, gI_pI_ne hx2, gI_pI_eq, if_pos rfl]
              generalize rdN t n 500 60 (pv.1 + 1) 0 = pw at *
              have a19 := (L9.1.1.1 22).trans a1
              have hl9 := (L9.1.1.1 (25 + i)).trans hl
              have L10 := L9.line hi 3 (nI pw.2)
              have hp10 : gI (pI g9 (25 + i) 3 (nI pw.2)) 22 4 = nI pw.1 := by rw [gI_pI_ne hx]; exact hp9
              simp (disch := omega) only [e_X3_readLine_110, e_X3_readLine_113, e_X3_readLine_113n, e_X3_readLine_114, e_X3_readLine_117, tand, true_and, and_true, nl1_int, nl1_ref, nl1_null, nl1_ra, cat1_int, cat1_ref, cat1_null, stbs_nil, stbs_cons, stb_int, stb_long, stb_ref, stb_null, stb_ra, alv_nil, alv_cons, alv1_int, alv1_ref, alv1_null, alv1_ra, List.length_nil, List.length_cons, Nat.reduceAdd, Nat.reduceLeDiff, Nat.zero_le, Option.toList_some, Option.toList_none, List.cons_append, List.nil_append, or_true, true_or, or_false, false_or, Nat.reduceEqDiff, not_true_eq_false, not_false_eq_true, false_and, and_false, false_implies, true_implies, implies_true, ne_eq, and_self, ok1, a19, hl9, gK_pI, gI_pI_eq, if_true, nI_eq0]
              refine ⟨fun h11 => ?_, fun h11 => ?_⟩
              · simp only [e_X3_readLine_124, e_X3_readLine_125, tand, true_and, and_true, nl1_int, nl1_ref, nl1_null, nl1_ra, cat1_int, cat1_ref, cat1_null, stbs_nil, stbs_cons, stb_int, stb_long, stb_ref, stb_null, stb_ra, alv_nil, alv_cons, alv1_int, alv1_ref, alv1_null, alv1_ra, List.length_nil, List.length_cons, Nat.reduceAdd, Nat.reduceLeDiff, Nat.zero_le, Option.toList_some, Option.toList_none, List.cons_append, List.nil_append, or_true, true_or, or_false, false_or, Nat.reduceEqDiff, not_true_eq_false, not_false_eq_true, false_and, and_false, false_implies, true_implies, implies_true, ne_eq, and_self, ok1, bE0]
                exact q0' (by simp [h11]) _ L10 hp10
              · simp only [e_X3_readLine_120, e_X3_readLine_121, e_X3_readLine_124, e_X3_readLine_125, tand, true_and, and_true, nl1_int, nl1_ref, nl1_null, nl1_ra, cat1_int, cat1_ref, cat1_null, stbs_nil, stbs_cons, stb_int, stb_long, stb_ref, stb_null, stb_ra, alv_nil, alv_cons, alv1_int, alv1_ref, alv1_null, alv1_ra, List.length_nil, List.length_cons, Nat.reduceAdd, Nat.reduceLeDiff, Nat.zero_le, Option.toList_some, Option.toList_none, List.cons_append, List.nil_append, or_true, true_or, or_false, false_or, Nat.reduceEqDiff, not_true_eq_false, not_false_eq_true, false_and, and_false, false_implies, true_implies, implies_true, ne_eq, and_self, ok1, bE1]
                have hbb : nB (decide (t p = 98)) = b := by
                  rw [← hb]
                  congr 1
                  by_cases h12 : t p = 98
                  · rw [decide_eq_true h12, decide_eq_true ⟨hlt, h12⟩]
                  · rw [decide_eq_false h12, decide_eq_false (fun y => h12 y.2)]
                rw [hbb] at q1'
                refine q1' (by simp [h11]) _ L10 hp10 ?_ ?_ ?_ ?_
                · rw [gI_pI_eq, if_neg (by decide)]; exact v90
                · rw [gI_pI_eq, if_neg (by decide)]; exact v91
                · rw [gI_pI_eq, if_neg (by decide)]; exact v92
                · rw [gI_pI_eq, if_pos rfl]
            · simp only [if_neg (show ¬ (pv.2 ≠ 0 ∧ pv.1 < n ∧ t pv.1 = 64) from fun y => hn y.2)] at q0'
              simp only [e_X3_readLine_97, e_X3_readLine_100, e_X3_readLine_101, tand, true_and, and_true, nl1_int, nl1_ref, nl1_null, nl1_ra, cat1_int, cat1_ref, cat1_null, stbs_nil, stbs_cons, stb_int, stb_long, stb_ref, stb_null, stb_ra, alv_nil, alv_cons, alv1_int, alv1_ref, alv1_null, alv1_ra, List.length_nil, List.length_cons, Nat.reduceAdd, Nat.reduceLeDiff, Nat.zero_le, Option.toList_some, Option.toList_none, List.cons_append, List.nil_append, or_true, true_or, or_false, false_or, Nat.reduceEqDiff, not_true_eq_false, not_false_eq_true, false_and, and_false, false_implies, true_implies, implies_true, ne_eq, and_self, ok1, n0, bE0]
              exact q0' (by trivial) _ L7 hp7
        · simp only [if_neg hn] at q0'
          simp only [e_X3_readLine_68, e_X3_readLine_71, e_X3_readLine_72, tand, true_and, and_true, nl1_int, nl1_ref, nl1_null, nl1_ra, cat1_int, cat1_ref, cat1_null, stbs_nil, stbs_cons, stb_int, stb_long, stb_ref, stb_null, stb_ra, alv_nil, alv_cons, alv1_int, alv1_ref, alv1_null, alv1_ra, List.length_nil, List.length_cons, Nat.reduceAdd, Nat.reduceLeDiff, Nat.zero_le, Option.toList_some, Option.toList_none, List.cons_append, List.nil_append, or_true, true_or, or_false, false_or, Nat.reduceEqDiff, not_true_eq_false, not_false_eq_true, false_and, and_false, false_implies, true_implies, implies_true, ne_eq, and_self, ok1, n0, bE0]
          exact q0' (by trivial) _ L4 (by rw [gI_pI_eq, if_pos rfl])
      · have h5' : 5 < dd := by
          apply Classical.byContradiction
          intro h5
          apply hn
          rw [nI_leE (by omega) (by omega), nI_leE (by omega) (by omega)]
          omega
        simp only [if_pos h5'] at q0'
        simp only [e_X3_readLine_47, e_X3_readLine_50, e_X3_readLine_51, tand, true_and, and_true, nl1_int, nl1_ref, nl1_null, nl1_ra, cat1_int, cat1_ref, cat1_null, stbs_nil, stbs_cons, stb_int, stb_long, stb_ref, stb_null, stb_ra, alv_nil, alv_cons, alv1_int, alv1_ref, alv1_null, alv1_ra, List.length_nil, List.length_cons, Nat.reduceAdd, Nat.reduceLeDiff, Nat.zero_le, Option.toList_some, Option.toList_none, List.cons_append, List.nil_append, or_true, true_or, or_false, false_or, Nat.reduceEqDiff, not_true_eq_false, not_false_eq_true, false_and, and_false, false_implies, true_implies, implies_true, ne_eq, and_self, ok1, n0, bE0]
        exact q0' (by trivial) _ L3 hp3
    · rw [hno] at q0'
      have L3 := L2.line hi 1 (-1)
      simp (disch := omega) only [e_X3_readLine_35, e_X3_readLine_38, e_X3_readLine_38n, e_X3_readLine_39, e_X3_readLine_42, e_X3_readLine_43, e_X3_readLine_44, tand, true_and, and_true, nl1_int, nl1_ref, nl1_null, nl1_ra, cat1_int, cat1_ref, cat1_null, stbs_nil, stbs_cons, stb_int, stb_long, stb_ref, stb_null, stb_ra, alv_nil, alv_cons, alv1_int, alv1_ref, alv1_null, alv1_ra, List.length_nil, List.length_cons, Nat.reduceAdd, Nat.reduceLeDiff, Nat.zero_le, Option.toList_some, Option.toList_none, List.cons_append, List.nil_append, or_true, true_or, or_false, false_or, Nat.reduceEqDiff, not_true_eq_false, not_false_eq_true, false_and, and_false, false_implies, true_implies, implies_true, ne_eq, and_self, ok1, a1', hl', gK_pI, gI_pI_eq, if_true]
      refine c_isWithin (fun h4 _ => ?_) (fun hn => ?_)
      · exact absurd h4 (by decide)
      · simp only [e_X3_readLine_47, e_X3_readLine_50, e_X3_readLine_51, tand, true_and, and_true, nl1_int, nl1_ref, nl1_null, nl1_ra, cat1_int, cat1_ref, cat1_null, stbs_nil, stbs_cons, stb_int, stb_long, stb_ref, stb_null, stb_ra, alv_nil, alv_cons, alv1_int, alv1_ref, alv1_null, alv1_ra, List.length_nil, List.length_cons, Nat.reduceAdd, Nat.reduceLeDiff, Nat.zero_le, Option.toList_some, Option.toList_none, List.cons_append, List.nil_append, or_true, true_or, or_false, false_or, Nat.reduceEqDiff, not_true_eq_false, not_false_eq_true, false_and, and_false, false_implies, true_implies, implies_true, ne_eq, and_self, ok1, n0, bE0]
        exact q0' (by trivial) _ L3 (by rw [gI_pI_ne hx]; exact hp2)
  refine c_skip L1.1.2.2 hp1 (by omega) (by decide) (fun h1 h2 => ?_) (fun hn1 => ?_)
  · simp only [e_X3_readLine_16, tand, true_and, and_true, nl1_int, nl1_ref, nl1_null, nl1_ra, cat1_int, cat1_ref, cat1_null, stbs_nil, stbs_cons, stb_int, stb_long, stb_ref, stb_null, stb_ra, alv_nil, alv_cons, alv1_int, alv1_ref, alv1_null, alv1_ra, List.length_nil, List.length_cons, Nat.reduceAdd, Nat.reduceLeDiff, Nat.zero_le, Option.toList_some, Option.toList_none, List.cons_append, List.nil_append, or_true, true_or, or_false, false_or, Nat.reduceEqDiff, not_true_eq_false, not_false_eq_true, false_and, and_false, false_implies, true_implies, implies_true, ne_eq, and_self, ok1, n1]
    exact at30 (L1.place _) (by rw [gI_pI_eq, if_pos rfl]) (by rw [gI_pI_ne hx2, gI_pI_eq, if_pos rfl]) h1 (Or.inl h2)
  · simp (disch := omega) only [e_X3_readLine_16, e_X3_readLine_19, e_X3_readLine_20, e_X3_readLine_22, tand, true_and, and_true, nl1_int, nl1_ref, nl1_null, nl1_ra, cat1_int, cat1_ref, cat1_null, stbs_nil, stbs_cons, stb_int, stb_long, stb_ref, stb_null, stb_ra, alv_nil, alv_cons, alv1_int, alv1_ref, alv1_null, alv1_ra, List.length_nil, List.length_cons, Nat.reduceAdd, Nat.reduceLeDiff, Nat.zero_le, Option.toList_some, Option.toList_none, List.cons_append, List.nil_append, or_true, true_or, or_false, false_or, Nat.reduceEqDiff, not_true_eq_false, not_false_eq_true, false_and, and_false, false_implies, true_implies, implies_true, ne_eq, and_self, ok1, n0, a1, hl, gK_pI]
    refine c_skip L1.1.2.2 hp1 (by omega) (by decide) (fun h1 h2 => ?_) (fun hn2 => ?_)
    · simp only [e_X3_readLine_25, tand, true_and, and_true, nl1_int, nl1_ref, nl1_null, nl1_ra, cat1_int, cat1_ref, cat1_null, stbs_nil, stbs_cons, stb_int, stb_long, stb_ref, stb_null, stb_ra, alv_nil, alv_cons, alv1_int, alv1_ref, alv1_null, alv1_ra, List.length_nil, List.length_cons, Nat.reduceAdd, Nat.reduceLeDiff, Nat.zero_le, Option.toList_some, Option.toList_none, List.cons_append, List.nil_append, or_true, true_or, or_false, false_or, Nat.reduceEqDiff, not_true_eq_false, not_false_eq_true, false_and, and_false, false_implies, true_implies, implies_true, ne_eq, and_self, ok1, n1]
      exact at30 (L1.place _) (by rw [gI_pI_eq, if_pos rfl]) (by rw [gI_pI_ne hx2, gI_pI_eq, if_pos rfl]) h1 (Or.inr h2)
    · simp only [e_X3_readLine_25, e_X3_readLine_28, e_X3_readLine_29, tand, true_and, and_true, nl1_int, nl1_ref, nl1_null, nl1_ra, cat1_int, cat1_ref, cat1_null, stbs_nil, stbs_cons, stb_int, stb_long, stb_ref, stb_null, stb_ra, alv_nil, alv_cons, alv1_int, alv1_ref, alv1_null, alv1_ra, List.length_nil, List.length_cons, Nat.reduceAdd, Nat.reduceLeDiff, Nat.zero_le, Option.toList_some, Option.toList_none, List.cons_append, List.nil_append, or_true, true_or, or_false, false_or, Nat.reduceEqDiff, not_true_eq_false, not_false_eq_true, false_and, and_false, false_implies, true_implies, implies_true, ne_eq, and_self, ok1, n0, bE0]
      have hno : ¬ (p < n ∧ (t p = 98 ∨ t p = 97)) := fun y => by
        rcases y.2 with y2 | y2
        · exact hn1 ⟨y.1, y2⟩
        · exact hn2 ⟨y.1, y2⟩
      unfold rdL at q0
      rw [if_neg hno] at q0
      exact q0 (by trivial) _ L1 hp1
end Lin
