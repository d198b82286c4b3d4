/-! ===== sums over standing orders; who is ahead ===== -/
theorem sm_pos {pos : Nat → Nat} : ∀ (M : Nat) {f : Nat → Nat}, (∀ x z, x < M → z < M → pos x = pos z → x = z) → (∀ x, x < M → pos x < 17) → (∀ i, i < 17 → (∀ x, x < M → pos x ≠ i) → f i = 0) → sm (fun x => f (pos x)) M = sm f 17
  | 0, f, _, _, hz => by
    rw [sm_0 17 fun i hi => hz i hi fun x hx => absurd hx (Nat.not_lt_zero x)]
    rfl
  | M + 1, f, hi, hl, hz => by
    have ih := sm_pos (pos := pos) M (f := fun i => if i = pos M then 0 else f i) (fun x z hx hz2 e => hi x z (by omega) (by omega) e) (fun x hx => hl x (by omega)) (fun i h17 hno => by
      by_cases e : i = pos M
      · show (if i = pos M then 0 else f i) = 0
        rw [if_pos e]
      · show (if i = pos M then 0 else f i) = 0
        rw [if_neg e]
        refine hz i h17 fun x hx => ?_
        by_cases ex : x = M
        · rw [ex]; exact fun q => e q.symm
        · exact hno x (by omega))
    have e1 : sm (fun x => (fun i => if i = pos M then 0 else f i) (pos x)) M = sm (fun x => f (pos x)) M := sm_eq M fun x hx => by
      show (if pos x = pos M then 0 else f (pos x)) = _
      rw [if_neg]
      intro q
      have := hi x M (by omega) (by omega) q
      omega
    rw [e1] at ih
    have e2 := sm_upd (f := f) (g := fun i => if i = pos M then 0 else f i) (a := pos M) 17 (hl M (by omega)) (fun i _ hne => if_neg hne)
    simp only [if_true] at e2
    show sm (fun x => f (pos x)) M + f (pos M) = _
    omega
theorem sm_swap {f : Nat → Nat → Nat} {m : Nat} : ∀ (n : Nat), sm (fun k => sm (fun i => f k i) m) n = sm (fun i => sm (fun k => f k i) n) m
  | 0 => (sm_0 m fun _ _ => rfl).symm
  | n + 1 => by
    show sm (fun k => sm (fun i => f k i) m) n + sm (fun i => f n i) m = _
    rw [sm_swap n, ← sm_add]
    rfl
/-- what holds of a town whose orders are in order -/
def InvA (w : Rw) : Prop := (wS w 0 < 1000 ∧ (∀ k, k < 6 → ∀ y, wS w 0 < y → wP w k y = 0) ∧ ∀ i, i < 17 → ∀ y, wS w 0 < y → wO w i y = 0) ∧
  (∀ i, i < 17 → wF w i 1 ≤ 1 ∧ wF w i 2 < 6 ∧ rt (wO w i) = if wF w i 1 = 0 then wF w i 3 else 0) ∧
  (∀ i j, i < 17 → j < 17 → 0 < wF w i 3 → 0 < wF w j 3 → wF w i 0 = wF w j 0 → i = j) ∧ ∀ i, i < 17 → 0 < wF w i 3 → wF w i 0 < wS w 6
section Sms
variable {w : Rw} {a pos : Nat → Nat}
theorem RelG.o {ex x : Nat} (h : RelG w a pos ex) (hx : x < a 11) : (pos x < 17 ∧ pos x ≠ ex) ∧ RlF w a x (pos x) := h.2.2.1.2.1 x hx
theorem RelG.rtk {k : Nat} {ex : Nat} (h : RelG w a pos ex) (hk : k < 6) (hy : wS w 0 < 1000) (h0 : ∀ y, wS w 0 < y → wP w k y = 0) : sm (fun y => a (144 + 1000 * k + y)) (wS w 0 + 1) = rt (wP w k) := by
  have e1 : sm (fun y => a (144 + 1000 * k + y)) (wS w 0 + 1) = sm (wP w k) (wS w 0 + 1) := sm_eq _ fun y hy2 => h.p hk (by omega)
  rw [e1]
  unfold rt
  rw [sm_split 2000 (m := wS w 0 + 1) (by omega) fun i h1 _ => h0 i (by omega)]
/-- a sum over the orders of the model is one over the places -/
theorem RelB.sum (h : RelB w a pos) {f F : Nat → Nat} (e : ∀ x, x < a 11 → f x = F (pos x)) (hz : ∀ i, i < 17 → wF w i 3 = 0 → F i = 0) : sm f (a 11) = sm F 17 := by
  obtain ⟨b0, b1, b2, b3⟩ := h.1.2.2.1
  rw [← sm_pos (pos := pos) (a 11) (f := F) b2 (fun x hx => (b1 x hx).1.1) (fun i hi hno => ?_)]
  · exact sm_eq _ e
  · refine hz i hi ?_
    by_cases e0 : 0 < wF w i 3
    · obtain ⟨x, hx, ex⟩ := b3 i hi (by omega) e0
      exact absurd ex (hno x hx)
    · omega
theorem held0 (h : RelB w a pos) (hI : InvA w) {P : Nat → Bool} {P' : Nat → Bool} (hP : ∀ x, x < a 11 → P x = P' (pos x)) : sm (hlN a 0 P) (a 11) = sm (fun i => if P' i = true then rt (wO w i) else 0) 17 := by
  refine h.sum (fun x hx => ?_) (fun i hi h0 => ?_)
  · obtain ⟨⟨p1, _⟩, ⟨c0, c1, c2, c3, c4⟩, c5⟩ := h.1.o hx
    unfold hlN
    rw [c2, c3, hP x hx, (hI.2.1 _ p1).2.2]
    by_cases e1 : wF w (pos x) 1 = 0
    · by_cases e2 : P' (pos x) = true
      · rw [if_pos ⟨e1, e2⟩, if_neg (by omega), if_pos e2, if_pos e1]
      · rw [if_neg (fun z => e2 z.2), if_neg e2]
    · rw [if_neg (fun z => e1 z.1), if_neg e1]
      split <;> rfl
  · rw [(hI.2.1 i hi).2.2, h0]
    split
    · split <;> rfl
    · rfl
theorem held1 (h : RelB w a pos) (hI : InvA w) {P : Nat → Bool} {P' : Nat → Bool} (hP : ∀ x, x < a 11 → P x = P' (pos x)) : sm (hlN a 1 P) (a 11) = sm (fun i => if P' i = true then hbF w i else 0) 17 := by
  refine h.sum (fun x hx => ?_) (fun i hi h0 => ?_)
  · obtain ⟨⟨p1, _⟩, ⟨c0, c1, c2, c3, c4⟩, c5⟩ := h.1.o hx
    have hb := (hI.2.1 _ p1).1
    unfold hlN hbF
    rw [c2, c3, c4, hP x hx]
    by_cases e1 : wF w (pos x) 1 = 1
    · by_cases e2 : P' (pos x) = true
      · rw [if_pos ⟨e1, e2⟩, if_pos rfl, if_pos e2, if_neg (by omega)]
      · rw [if_neg (fun z => e2 z.2), if_neg e2]
    · rw [if_neg (fun z => e1 z.1), if_pos (show wF w (pos x) 1 = 0 by omega)]
      split <;> rfl
  · unfold hbF
    rw [h0, Nat.zero_mul]
    split
    · split <;> rfl
    · rfl
theorem sm_cls {f : Nat → Nat} (hI : InvA w) : sm (fun k => sm (fun i => if wF w i 2 = k then f i else 0) 17) 6 = sm f 17 := by
  rw [sm_swap]
  refine sm_eq _ fun i hi => ?_
  have e : (fun k => if wF w i 2 = k then f i else 0) = fun k => if k = wF w i 2 then f i else 0 := by
    funext k
    by_cases e : wF w i 2 = k
    · rw [if_pos e, if_pos e.symm]
    · rw [if_neg e, if_neg fun z => e z.symm]
  show sm (fun k => if wF w i 2 = k then f i else 0) 6 = _
  rw [e, sm_one, if_pos (hI.2.1 i hi).2.1]
end Sms
/-! who is ahead -/
theorem nI_sub_eq0 {x y : Nat} (hx : x < 2 ^ 30) (hy : y < 2 ^ 30) : (nI x - nI y = 0) = (x = y) := by
  have e := nI_subT hx hy
  have z : (0 : Int32).toInt = 0 := rfl
  refine propext ⟨fun h => ?_, fun h => ?_⟩
  · rw [h, z] at e; omega
  · rw [← Int32.toInt_inj, e, z]; omega
theorem nI_sub_le0 {x y : Nat} (hx : x < 2 ^ 30) (hy : y < 2 ^ 30) : (nI x - nI y ≤ 0) = (x ≤ y) := by
  have e := nI_subT hx hy
  have z : (0 : Int32).toInt = 0 := rfl
  rw [Int32.le_iff_toInt_le, e, z]
  exact propext ⟨fun h => by omega, fun h => by omega⟩
theorem nI_0le_sub {x y : Nat} (hx : x < 2 ^ 30) (hy : y < 2 ^ 30) : (0 ≤ nI x - nI y) = (y ≤ x) := by
  have e := nI_subT hx hy
  have z : (0 : Int32).toInt = 0 := rfl
  rw [Int32.le_iff_toInt_le, e, z]
  exact propext ⟨fun h => by omega, fun h => by omega⟩
/-- the numbers of the model's orders are small -/
def LB (a : Nat → Nat) : Prop := a 11 ≤ 16 ∧ ∀ x, x < a 11 → a (64 + x) < 2 ^ 28 ∧ a (80 + x) < 6 ∧ a (96 + x) ≤ 1 ∧ a (112 + x) < 2 ^ 28 ∧ a (128 + x) < 2 ^ 28
def ahB (a : Nat → Nat) (i j : Nat) : Bool := if a (128 + i) = a (128 + j) then decide (a (64 + i) < a (64 + j)) else if a (96 + i) = 0 then decide (a (128 + i) < a (128 + j)) else decide (a (128 + j) < a (128 + i))
section Ahd
variable {g : mG} {Q : mQ} {g0 : mG} {A0 : Nat → Nat → Nat} {w : Rw} {a pos : Nat → Nat}
theorem RelG.lb {ex : Nat} (h : RelG w a pos ex) (hB : TB w) (hI : ∀ i, i < 17 → wF w i 1 ≤ 1) : LB a := ⟨h.2.2.1.1, fun x hx => by
  obtain ⟨⟨p1, _⟩, ⟨c0, c1, c2, c3, c4⟩, c5⟩ := h.o hx
  obtain ⟨b1, _, b3⟩ := hB.2.2 _ p1
  rw [c0, c1, c2, c3, c4]
  exact ⟨b1 0 (by decide), b3, hI _ p1, b1 3 (by decide), b1 4 (by decide)⟩⟩
theorem RelG.ah {ex x z : Nat} (h : RelG w a pos ex) (hx : x < a 11) (hz : z < a 11) : ahB a x z = beF w (pos x) (pos z) := by
  obtain ⟨_, ⟨c0, c1, c2, c3, c4⟩, _⟩ := h.o hx
  obtain ⟨_, ⟨d0, d1, d2, d3, d4⟩, _⟩ := h.o hz
  unfold ahB beF
  rw [c0, c2, c4, d0, d4]
theorem c_X7_isAhead {i j : Nat} (M : MT g0 g A0 a) (hL : LB a) (hi : i < a 11) (hj : j < a 11) (q : Q (some (.int (nI (nB (ahB a i j))))) g) : w_X7_isAhead [.ref 40, .int (nI i), .int (nI j)] g Q := by
  refine wm_at rfl ⟨trivial, trivial, trivial, trivial⟩ (show WP m_X7_isAhead Q 0 [.ref 40, .int (nI i), .int (nI j), .retAddr 0] [] g from ?_)
  have hm := hL.1
  obtain ⟨b0, _, b2, _, b4⟩ := hL.2 i hi
  obtain ⟨d0, _, _, _, d4⟩ := hL.2 j hj
  unfold ahB at q
  simp (disch := omega) only [e_X7_isAhead_0, e_X7_isAhead_1, e_X7_isAhead_4, e_X7_isAhead_7, e_X7_isAhead_8, e_X7_isAhead_9, e_X7_isAhead_10, e_X7_isAhead_11, e_X7_isAhead_14, e_X7_isAhead_17, e_X7_isAhead_18, e_X7_isAhead_19, e_X7_isAhead_20, e_X7_isAhead_21, e_X7_isAhead_22, e_X7_isAhead_23, tand, true_and, and_true, nl1_int, nl1_ref, nl1_null, nl1_ra, cat1_int, cat1_ref, cat1_null, stbs_nil, stbs_cons, stb_int, stb_long, stb_ref, stb_null, stb_ra, alv_nil, alv_cons, alv1_int, alv1_ref, alv1_null, alv1_ra, List.length_nil, List.length_cons, Nat.reduceAdd, Nat.reduceLeDiff, Nat.zero_le, Option.toList_some, Option.toList_none, List.cons_append, List.nil_append, or_true, true_or, or_false, false_or, Nat.reduceEqDiff, not_true_eq_false, not_false_eq_true, false_and, and_false, false_implies, true_implies, implies_true, ne_eq, and_self, ok1, M.k40, M.r40, z41, M.k41, M.n41, isIA, vpT, nI_clamp, nI_add, M.rd, gK_pI, gN_pI, gR_pI, gI_same, gI_diff, u1_eq, u1_ne, nI_sub_eq0]
  refine ⟨fun h1 => ?_, fun h1 => ?_⟩
  · rw [if_pos h1] at q
    simp (disch := omega) only [e_X7_isAhead_61, e_X7_isAhead_62, e_X7_isAhead_65, e_X7_isAhead_67, e_X7_isAhead_68, e_X7_isAhead_69, e_X7_isAhead_70, e_X7_isAhead_71, e_X7_isAhead_74, e_X7_isAhead_76, e_X7_isAhead_77, e_X7_isAhead_78, e_X7_isAhead_79, e_X7_isAhead_82, e_X7_isAhead_83, e_X7_isAhead_86, e_X7_isAhead_87, tand, true_and, and_true, nl1_int, nl1_ref, nl1_null, nl1_ra, cat1_int, cat1_ref, cat1_null, stbs_nil, stbs_cons, stb_int, stb_long, stb_ref, stb_null, stb_ra, alv_nil, alv_cons, alv1_int, alv1_ref, alv1_null, alv1_ra, List.length_nil, List.length_cons, Nat.reduceAdd, Nat.reduceLeDiff, Nat.zero_le, Option.toList_some, Option.toList_none, List.cons_append, List.nil_append, or_true, true_or, or_false, false_or, Nat.reduceEqDiff, not_true_eq_false, not_false_eq_true, false_and, and_false, false_implies, true_implies, implies_true, ne_eq, and_self, ok1, M.k40, M.r40, z41, M.k41, M.n41, isIA, vpT, nI_clamp, nI_add, M.rd, gK_pI, gN_pI, gR_pI, gI_same, gI_diff, u1_eq, u1_ne, nI_leE, bE0, bE1]
    refine ⟨fun h2 => ?_, fun h2 => ?_⟩
    · rw [decide_eq_false (by omega)] at q; exact q
    · rw [decide_eq_true (by omega)] at q; exact q
  · rw [if_neg h1] at q
    simp (disch := omega) only [e_X7_isAhead_26, e_X7_isAhead_27, e_X7_isAhead_30, e_X7_isAhead_32, e_X7_isAhead_33, e_X7_isAhead_34, e_X7_isAhead_35, e_X7_isAhead_36, tand, true_and, and_true, nl1_int, nl1_ref, nl1_null, nl1_ra, cat1_int, cat1_ref, cat1_null, stbs_nil, stbs_cons, stb_int, stb_long, stb_ref, stb_null, stb_ra, alv_nil, alv_cons, alv1_int, alv1_ref, alv1_null, alv1_ra, List.length_nil, List.length_cons, Nat.reduceAdd, Nat.reduceLeDiff, Nat.zero_le, Option.toList_some, Option.toList_none, List.cons_append, List.nil_append, or_true, true_or, or_false, false_or, Nat.reduceEqDiff, not_true_eq_false, not_false_eq_true, false_and, and_false, false_implies, true_implies, implies_true, ne_eq, and_self, ok1, M.k40, M.r40, z41, M.k41, M.n41, isIA, vpT, nI_clamp, nI_add, M.rd, gK_pI, gN_pI, gR_pI, gI_same, gI_diff, u1_eq, u1_ne, nI_eqE]
    refine ⟨fun h2 => ?_, fun h2 => ?_⟩
    · rw [if_pos (by omega)] at q
      simp (disch := omega) only [e_X7_isAhead_51, e_X7_isAhead_52, e_X7_isAhead_55, e_X7_isAhead_56, e_X7_isAhead_59, e_X7_isAhead_60, tand, true_and, and_true, nl1_int, nl1_ref, nl1_null, nl1_ra, cat1_int, cat1_ref, cat1_null, stbs_nil, stbs_cons, stb_int, stb_long, stb_ref, stb_null, stb_ra, alv_nil, alv_cons, alv1_int, alv1_ref, alv1_null, alv1_ra, List.length_nil, List.length_cons, Nat.reduceAdd, Nat.reduceLeDiff, Nat.zero_le, Option.toList_some, Option.toList_none, List.cons_append, List.nil_append, or_true, true_or, or_false, false_or, Nat.reduceEqDiff, not_true_eq_false, not_false_eq_true, false_and, and_false, false_implies, true_implies, implies_true, ne_eq, and_self, ok1, nI_0le_sub, bE0, bE1]
      refine ⟨fun h3 => ?_, fun h3 => ?_⟩
      · rw [decide_eq_false (by omega)] at q; exact q
      · rw [decide_eq_true (by omega)] at q; exact q
    · rw [if_neg (by omega)] at q
      simp (disch := omega) only [e_X7_isAhead_39, e_X7_isAhead_40, e_X7_isAhead_43, e_X7_isAhead_44, e_X7_isAhead_47, e_X7_isAhead_48, e_X7_isAhead_60, tand, true_and, and_true, nl1_int, nl1_ref, nl1_null, nl1_ra, cat1_int, cat1_ref, cat1_null, stbs_nil, stbs_cons, stb_int, stb_long, stb_ref, stb_null, stb_ra, alv_nil, alv_cons, alv1_int, alv1_ref, alv1_null, alv1_ra, List.length_nil, List.length_cons, Nat.reduceAdd, Nat.reduceLeDiff, Nat.zero_le, Option.toList_some, Option.toList_none, List.cons_append, List.nil_append, or_true, true_or, or_false, false_or, Nat.reduceEqDiff, not_true_eq_false, not_false_eq_true, false_and, and_false, false_implies, true_implies, implies_true, ne_eq, and_self, ok1, nI_sub_le0, bE0, bE1]
      refine ⟨fun h3 => ?_, fun h3 => ?_⟩
      · rw [decide_eq_false (by omega)] at q; exact q
      · rw [decide_eq_true (by omega)] at q; exact q
/-- the best of the first n orders of the model of the side b -/
def bsM (a : Nat → Nat) (b : Nat) : Nat → Option Nat
  | 0 => none
  | n + 1 => if a (96 + n) = b then (match bsM a b n with
    | none => some n
    | some m => if ahB a n m then some n else some m) else bsM a b n
theorem bsM_lt {b : Nat} : ∀ (n : Nat) {m : Nat}, bsM a b n = some m → m < n
  | 0, m, h => by simp [bsM] at h
  | n + 1, m, h => by
    unfold bsM at h
    by_cases h1 : a (96 + n) = b
    · rw [if_pos h1] at h
      cases h2 : bsM a b n with
      | none =>
        rw [h2] at h
        have : n = m := by simpa using h
        omega
      | some m' =>
        rw [h2] at h
        have h3 := bsM_lt n h2
        by_cases h4 : ahB a n m' = true
        · have : n = m := by simpa [h4] using h
          omega
        · have : m' = m := by simpa [h4] using h
          omega
    · rw [if_neg h1] at h
      have h3 := bsM_lt n h
      omega
def bV : Option Nat → Int32
  | none => -1
  | some m => nI m
theorem bestM_loop {b : Nat} (M : MT g0 g A0 a) (hL : LB a) (hb : b ≤ 1) (q : Q (some (.int (bV (bsM a b (a 11))))) g) : ∀ (d x : Nat), x + d = a 11 → WP m_X7_best Q 4 [.ref 40, .int (nI b), .int (bV (bsM a b x)), .int (nI x)] [] g := by
  have hm := hL.1
  intro d
  induction d with
  | zero =>
    intro x hx
    have hle : a 11 ≤ x := by omega
    have e : x = a 11 := by omega
    simp (disch := omega) only [e_X7_best_4, e_X7_best_5, e_X7_best_6, e_X7_best_9, e_X7_best_11, e_X7_best_12, e_X7_best_50, e_X7_best_51, tand, true_and, and_true, nl1_int, nl1_ref, nl1_null, nl1_ra, cat1_int, cat1_ref, cat1_null, stbs_nil, stbs_cons, stb_int, stb_long, stb_ref, stb_null, stb_ra, alv_nil, alv_cons, alv1_int, alv1_ref, alv1_null, alv1_ra, List.length_nil, List.length_cons, Nat.reduceAdd, Nat.reduceLeDiff, Nat.zero_le, Option.toList_some, Option.toList_none, List.cons_append, List.nil_append, or_true, true_or, or_false, false_or, Nat.reduceEqDiff, not_true_eq_false, not_false_eq_true, false_and, and_false, false_implies, true_implies, implies_true, ne_eq, and_self, ok1, M.k40, M.r40, z41, M.k41, M.n41, isIA, vpT, nI_clamp, nI_add, M.rd, gK_pI, gN_pI, gR_pI, gI_same, gI_diff, u1_eq, u1_ne, nI_leE, hle]
    rw [← e] at q
    exact q
  | succ d ih =>
    intro x hx
    have hle : ¬ a 11 ≤ x := by omega
    obtain ⟨_, _, b2, _, _⟩ := hL.2 x (by omega)
    have ih1 := ih (x + 1) (by omega)
    have es : bsM a b (x + 1) = if a (96 + x) = b then (match bsM a b x with
      | none => some x
      | some m => if ahB a x m then some x else some m) else bsM a b x := rfl
    rw [es] at ih1
    simp (disch := omega) only [e_X7_best_4, e_X7_best_5, e_X7_best_6, e_X7_best_9, e_X7_best_11, e_X7_best_12, e_X7_best_15, e_X7_best_16, e_X7_best_19, e_X7_best_21, e_X7_best_22, e_X7_best_23, e_X7_best_24, e_X7_best_25, tand, true_and, and_true, nl1_int, nl1_ref, nl1_null, nl1_ra, cat1_int, cat1_ref, cat1_null, stbs_nil, stbs_cons, stb_int, stb_long, stb_ref, stb_null, stb_ra, alv_nil, alv_cons, alv1_int, alv1_ref, alv1_null, alv1_ra, List.length_nil, List.length_cons, Nat.reduceAdd, Nat.reduceLeDiff, Nat.zero_le, Option.toList_some, Option.toList_none, List.cons_append, List.nil_append, or_true, true_or, or_false, false_or, Nat.reduceEqDiff, not_true_eq_false, not_false_eq_true, false_and, and_false, false_implies, true_implies, implies_true, ne_eq, and_self, ok1, M.k40, M.r40, z41, M.k41, M.n41, isIA, vpT, nI_clamp, nI_add, M.rd, gK_pI, gN_pI, gR_pI, gI_same, gI_diff, u1_eq, u1_ne, nI_leE, hle, nI_eqE]
    refine ⟨fun h1 => ?_, fun h1 => ?_⟩
    · rw [if_neg h1] at ih1
      simp only [e_X7_best_44, e_X7_best_47, tand, true_and, and_true, nl1_int, nl1_ref, nl1_null, nl1_ra, cat1_int, cat1_ref, cat1_null, stbs_nil, stbs_cons, stb_int, stb_long, stb_ref, stb_null, stb_ra, alv_nil, alv_cons, alv1_int, alv1_ref, alv1_null, alv1_ra, List.length_nil, List.length_cons, Nat.reduceAdd, Nat.reduceLeDiff, Nat.zero_le, Option.toList_some, Option.toList_none, List.cons_append, List.nil_append, or_true, true_or, or_false, false_or, Nat.reduceEqDiff, not_true_eq_false, not_false_eq_true, false_and, and_false, false_implies, true_implies, implies_true, ne_eq, and_self, ok1, nI_add]
      exact ih1
    · rw [if_pos (Decidable.not_not.mp h1)] at ih1
      cases h2 : bsM a b x with
      | none =>
        rw [h2] at ih1
        simp only [bV] at ih1 ⊢
        simp only [e_X7_best_28, e_X7_best_29, e_X7_best_30, e_X7_best_42, e_X7_best_43, e_X7_best_44, e_X7_best_47, tand, true_and, and_true, nl1_int, nl1_ref, nl1_null, nl1_ra, cat1_int, cat1_ref, cat1_null, stbs_nil, stbs_cons, stb_int, stb_long, stb_ref, stb_null, stb_ra, alv_nil, alv_cons, alv1_int, alv1_ref, alv1_null, alv1_ra, List.length_nil, List.length_cons, Nat.reduceAdd, Nat.reduceLeDiff, Nat.zero_le, Option.toList_some, Option.toList_none, List.cons_append, List.nil_append, or_true, true_or, or_false, false_or, Nat.reduceEqDiff, not_true_eq_false, not_false_eq_true, false_and, and_false, false_implies, true_implies, implies_true, ne_eq, and_self, ok1, nI_add]
        exact ih1
      | some m =>
        rw [h2] at ih1
        have hlt := bsM_lt x h2
        have hne : (nI m = -1) = False := by
          refine propext ⟨fun z => ?_, fun z => z.elim⟩
          have := congrArg Int32.toInt z
          rw [nI_toInt (by omega)] at this
          have e3 : (-1 : Int32).toInt = -1 := by decide
          omega
        simp only [bV] at ih1 ⊢
        simp only [e_X7_best_28, e_X7_best_29, e_X7_best_30, e_X7_best_33, e_X7_best_34, e_X7_best_35, e_X7_best_36, tand, true_and, and_true, nl1_int, nl1_ref, nl1_null, nl1_ra, cat1_int, cat1_ref, cat1_null, stbs_nil, stbs_cons, stb_int, stb_long, stb_ref, stb_null, stb_ra, alv_nil, alv_cons, alv1_int, alv1_ref, alv1_null, alv1_ra, List.length_nil, List.length_cons, Nat.reduceAdd, Nat.reduceLeDiff, Nat.zero_le, Option.toList_some, Option.toList_none, List.cons_append, List.nil_append, or_true, true_or, or_false, false_or, Nat.reduceEqDiff, not_true_eq_false, not_false_eq_true, false_and, and_false, false_implies, true_implies, implies_true, ne_eq, and_self, ok1, hne, M.k40]
        refine c_X7_isAhead M hL (by omega) (by omega) ?_
        by_cases h3 : ahB a x m = true
        · rw [if_pos h3] at ih1
          rw [h3]
          simp only [bV] at ih1
          simp only [e_X7_best_39, e_X7_best_42, e_X7_best_43, e_X7_best_44, e_X7_best_47, tand, true_and, and_true, nl1_int, nl1_ref, nl1_null, nl1_ra, cat1_int, cat1_ref, cat1_null, stbs_nil, stbs_cons, stb_int, stb_long, stb_ref, stb_null, stb_ra, alv_nil, alv_cons, alv1_int, alv1_ref, alv1_null, alv1_ra, List.length_nil, List.length_cons, Nat.reduceAdd, Nat.reduceLeDiff, Nat.zero_le, Option.toList_some, Option.toList_none, List.cons_append, List.nil_append, or_true, true_or, or_false, false_or, Nat.reduceEqDiff, not_true_eq_false, not_false_eq_true, false_and, and_false, false_implies, true_implies, implies_true, ne_eq, and_self, ok1, nB1, nI_add]
          exact ih1
        · rw [if_neg h3] at ih1
          rw [show ahB a x m = false by simpa using h3]
          simp only [bV] at ih1
          simp only [e_X7_best_39, e_X7_best_44, e_X7_best_47, tand, true_and, and_true, nl1_int, nl1_ref, nl1_null, nl1_ra, cat1_int, cat1_ref, cat1_null, stbs_nil, stbs_cons, stb_int, stb_long, stb_ref, stb_null, stb_ra, alv_nil, alv_cons, alv1_int, alv1_ref, alv1_null, alv1_ra, List.length_nil, List.length_cons, Nat.reduceAdd, Nat.reduceLeDiff, Nat.zero_le, Option.toList_some, Option.toList_none, List.cons_append, List.nil_append, or_true, true_or, or_false, false_or, Nat.reduceEqDiff, not_true_eq_false, not_false_eq_true, false_and, and_false, false_implies, true_implies, implies_true, ne_eq, and_self, ok1, nB0, nI_add]
          exact ih1
theorem c_X7_best {b : Nat} (M : MT g0 g A0 a) (hL : LB a) (hb : b ≤ 1) (q : Q (some (.int (bV (bsM a b (a 11))))) g) : w_X7_best [.ref 40, .int (nI b)] g Q := by
  refine wm_at rfl ⟨trivial, trivial, trivial⟩ (show WP m_X7_best Q 0 [.ref 40, .int (nI b), .retAddr 0, .retAddr 0] [] g from ?_)
  simp only [e_X7_best_0, e_X7_best_1, e_X7_best_2, e_X7_best_3, tand, true_and, and_true, nl1_int, nl1_ref, nl1_null, nl1_ra, cat1_int, cat1_ref, cat1_null, stbs_nil, stbs_cons, stb_int, stb_long, stb_ref, stb_null, stb_ra, alv_nil, alv_cons, alv1_int, alv1_ref, alv1_null, alv1_ra, List.length_nil, List.length_cons, Nat.reduceAdd, Nat.reduceLeDiff, Nat.zero_le, Option.toList_some, Option.toList_none, List.cons_append, List.nil_append, or_true, true_or, or_false, false_or, Nat.reduceEqDiff, not_true_eq_false, not_false_eq_true, false_and, and_false, false_implies, true_implies, implies_true, ne_eq, and_self, ok1]
  exact bestM_loop M hL hb q (a 11) 0 (Nat.zero_add _)
end Ahd
