/-! ===== the text of orders ===== -/
/-- the text: signs t, n of them -/
def TxR (g : mG) (t : Nat → Nat) (n : Nat) : Prop :=
  (gK g 22 = 4 ∧ gR g 22 0 = 23 ∧ gR g 22 2 = 24) ∧ (gK g 23 = 13 ∧ gN g 23 = 60) ∧ (gK g 24 = 16 ∧ gN g 24 = 9) ∧ (∀ i, i < 9 → gR g 24 i = 25 + i ∧ gK g (25 + i) = 2) ∧ gI g 22 1 = nI n ∧ n ≤ 60 ∧ ∀ j, j < n → gI g 23 j = nI (t j) ∧ t j < 65536
def XX : Nat → Prop := fun b => b = 22 ∨ (25 ≤ b ∧ b < 34)
def TG (g g' : mG) (t : Nat → Nat) (n : Nat) : Prop := Fr XX g g' ∧ JR g' ∧ TxR g' t n
theorem TxR.place {g : mG} {t : Nat → Nat} {n k : Nat} {v : Int32} (h : TxR g t n) (hk : k ≠ 1) : TxR (pI g 22 k v) t n := by
  obtain ⟨a, b, c, d, e, f, z⟩ := h
  refine ⟨a, b, c, d, ?_, f, fun j hj => ?_⟩
  · rw [gI_pI_eq, if_neg (Ne.symm hk)]; exact e
  · rw [gI_pI_ne (by decide)]; exact z j hj
theorem TxR.line {g : mG} {t : Nat → Nat} {n i k : Nat} {v : Int32} (h : TxR g t n) : TxR (pI g (25 + i) k v) t n := by
  obtain ⟨a, b, c, d, e, f, z⟩ := h
  refine ⟨a, b, c, d, ?_, f, fun j hj => ?_⟩
  · rw [gI_pI_ne (by omega)]; exact e
  · rw [gI_pI_ne (by omega)]; exact z j hj
theorem TG.place {g g' : mG} {t : Nat → Nat} {n : Nat} (h : TG g g' t n) (k : Nat) (v : Int32) (hk : k ≠ 1) : TG g (pI g' 22 k v) t n := ⟨h.1.tr (Fr.pI (Or.inl rfl)), h.2.1.pI, h.2.2.place hk⟩
theorem TG.line {g g' : mG} {t : Nat → Nat} {n : Nat} (h : TG g g' t n) (i k : Nat) (hi : i < 9) (v : Int32) : TG g (pI g' (25 + i) k v) t n := ⟨h.1.tr (Fr.pI (Or.inr ⟨by omega, by omega⟩)), h.2.1.pI, h.2.2.line⟩
theorem TG.tr {g g1 g2 : mG} {t : Nat → Nat} {n : Nat} (h : TG g g1 t n) (h2 : TG g1 g2 t n) : TG g g2 t n := ⟨h.1.tr h2.1, h2.2⟩
theorem TG.rf {g : mG} {t : Nat → Nat} {n : Nat} (h : TxR g t n) (hJ : JR g) : TG g g t n := ⟨Fr.rf, hJ, h⟩
/-- the digit at a place -/
def rdD (t : Nat → Nat) (n p : Nat) : Option Nat := if p < n ∧ 48 ≤ t p ∧ t p ≤ 57 then some (t p - 48) else none
/-- a number read: the place behind, its value -/
def rdN (t : Nat → Nat) (n most : Nat) : Nat → Nat → Nat → Nat × Nat
  | 0, p, v => (p, v)
  | f + 1, p, v => match rdD t n p with
    | none => (p, v)
    | some d => if (v = 0 ∧ d = 0) ∨ most < v * 10 + d then (p, v) else rdN t n most f (p + 1) (v * 10 + d)
section Txt
variable {g : mG} {t : Nat → Nat} {n p : Nat} {Q : mQ}
theorem c_isNext {c : Nat} (h : TxR g t n) (hp : gI g 22 4 = nI p) (hpb : p < 2 ^ 28) (hc : c < 65536) (q : Q (some (.int (nI (nB (decide (p < n ∧ t p = c)))))) g) : w_X3_isNext [.ref 22, .int (nI c)] g Q := by
  refine wm_at rfl ⟨trivial, trivial, trivial⟩ (show WP m_X3_isNext Q 0 [.ref 22, .int (nI c)] [] g from ?_)
  obtain ⟨⟨a1, a2, a3⟩, ⟨b1, b2⟩, ⟨c1, c2⟩, d, e, f, z⟩ := h
  have z0 : (23 : Nat) ≠ 0 := by decide
  simp (disch := omega) only [e_X3_isNext_0, e_X3_isNext_1, e_X3_isNext_4, e_X3_isNext_7, e_X3_isNext_8, e_X3_isNext_11, e_X3_isNext_12, e_X3_isNext_15, tand, true_and, and_true, nl1_int, nl1_ref, nl1_null, nl1_ra, cat1_int, cat1_ref, cat1_null, stbs_nil, stbs_cons, stb_int, stb_long, stb_ref, stb_null, stb_ra, alv_nil, alv_cons, alv1_int, alv1_ref, alv1_null, alv1_ra, List.length_nil, List.length_cons, Nat.reduceAdd, Nat.reduceLeDiff, Nat.zero_le, Option.toList_some, Option.toList_none, List.cons_append, List.nil_append, or_true, true_or, or_false, false_or, Nat.reduceEqDiff, not_true_eq_false, not_false_eq_true, false_and, and_false, false_implies, true_implies, implies_true, ne_eq, and_self, ok1, a1, hp, e, nI_lt0, nI_leE]
  have no : ¬ (p < n ∧ t p = c) → WP m_X3_isNext Q 47 [.ref 22, .int (nI c)] [] g := fun hn => by
    simp only [e_X3_isNext_47, e_X3_isNext_48, tand, true_and, and_true, nl1_int, nl1_ref, nl1_null, nl1_ra, cat1_int, cat1_ref, cat1_null, stbs_nil, stbs_cons, stb_int, stb_long, stb_ref, stb_null, stb_ra, alv_nil, alv_cons, alv1_int, alv1_ref, alv1_null, alv1_ra, List.length_nil, List.length_cons, Nat.reduceAdd, Nat.reduceLeDiff, Nat.zero_le, Option.toList_some, Option.toList_none, List.cons_append, List.nil_append, or_true, true_or, or_false, false_or, Nat.reduceEqDiff, not_true_eq_false, not_false_eq_true, false_and, and_false, false_implies, true_implies, implies_true, ne_eq, and_self, ok1, bE0]
    rw [decide_eq_false hn] at q
    exact q
  refine ⟨fun h1 => no fun z => by omega, fun h1 => ?_⟩
  have hlt : p < n := by omega
  have hlt6 : p < 60 := by omega
  have hle6 : ¬ 60 ≤ p := by omega
  obtain ⟨z1, z2⟩ := z p hlt
  simp (disch := omega) only [e_X3_isNext_18, e_X3_isNext_19, e_X3_isNext_22, e_X3_isNext_23, e_X3_isNext_26, e_X3_isNext_27, e_X3_isNext_30, e_X3_isNext_31, e_X3_isNext_34, e_X3_isNext_35, e_X3_isNext_38, e_X3_isNext_39, e_X3_isNext_40, tand, true_and, and_true, nl1_int, nl1_ref, nl1_null, nl1_ra, cat1_int, cat1_ref, cat1_null, stbs_nil, stbs_cons, stb_int, stb_long, stb_ref, stb_null, stb_ra, alv_nil, alv_cons, alv1_int, alv1_ref, alv1_null, alv1_ra, List.length_nil, List.length_cons, Nat.reduceAdd, Nat.reduceLeDiff, Nat.zero_le, Option.toList_some, Option.toList_none, List.cons_append, List.nil_append, or_true, true_or, or_false, false_or, Nat.reduceEqDiff, not_true_eq_false, not_false_eq_true, false_and, and_false, false_implies, true_implies, implies_true, ne_eq, and_self, ok1, a1, a2, b1, b2, hp, nI_leE, hle6, nI_vp, hlt6, nI_clamp, z0, z1, nI_eqE]
  refine ⟨fun h2 => no fun z => h2 z.2, fun h2 => ?_⟩
  simp only [e_X3_isNext_43, e_X3_isNext_44, e_X3_isNext_47, e_X3_isNext_48, tand, true_and, and_true, nl1_int, nl1_ref, nl1_null, nl1_ra, cat1_int, cat1_ref, cat1_null, stbs_nil, stbs_cons, stb_int, stb_long, stb_ref, stb_null, stb_ra, alv_nil, alv_cons, alv1_int, alv1_ref, alv1_null, alv1_ra, List.length_nil, List.length_cons, Nat.reduceAdd, Nat.reduceLeDiff, Nat.zero_le, Option.toList_some, Option.toList_none, List.cons_append, List.nil_append, or_true, true_or, or_false, false_or, Nat.reduceEqDiff, not_true_eq_false, not_false_eq_true, false_and, and_false, false_implies, true_implies, implies_true, ne_eq, and_self, ok1, bE1]
  rw [decide_eq_true ⟨hlt, Decidable.not_not.mp h2⟩] at q
  exact q
theorem c_skip {c : Nat} (h : TxR g t n) (hp : gI g 22 4 = nI p) (hpb : p < 2 ^ 28) (hc : c < 65536) (q1 : p < n → t p = c → Q (some (.int (nI 1))) (pI g 22 4 (nI (p + 1)))) (q0 : ¬ (p < n ∧ t p = c) → Q (some (.int (nI 0))) g) : w_X3_skip [.ref 22, .int (nI c)] g Q := by
  refine wm_at rfl ⟨trivial, trivial, trivial⟩ (show WP m_X3_skip Q 0 [.ref 22, .int (nI c)] [] g from ?_)
  have a1 := h.1.1
  simp only [e_X3_skip_0, e_X3_skip_1, e_X3_skip_2, tand, true_and, and_true, nl1_int, nl1_ref, nl1_null, nl1_ra, cat1_int, cat1_ref, cat1_null, stbs_nil, stbs_cons, stb_int, stb_long, stb_ref, stb_null, stb_ra, alv_nil, alv_cons, alv1_int, alv1_ref, alv1_null, alv1_ra, List.length_nil, List.length_cons, Nat.reduceAdd, Nat.reduceLeDiff, Nat.zero_le, Option.toList_some, Option.toList_none, List.cons_append, List.nil_append, or_true, true_or, or_false, false_or, Nat.reduceEqDiff, not_true_eq_false, not_false_eq_true, false_and, and_false, false_implies, true_implies, implies_true, ne_eq, and_self, ok1, a1]
  refine c_isNext h hp hpb hc ?_
  by_cases hn : p < n ∧ t p = c
  · rw [decide_eq_true hn]
    simp only [e_X3_skip_5, e_X3_skip_10, e_X3_skip_11, e_X3_skip_12, e_X3_skip_15, e_X3_skip_16, e_X3_skip_17, e_X3_skip_20, e_X3_skip_21, tand, true_and, and_true, nl1_int, nl1_ref, nl1_null, nl1_ra, cat1_int, cat1_ref, cat1_null, stbs_nil, stbs_cons, stb_int, stb_long, stb_ref, stb_null, stb_ra, alv_nil, alv_cons, alv1_int, alv1_ref, alv1_null, alv1_ra, List.length_nil, List.length_cons, Nat.reduceAdd, Nat.reduceLeDiff, Nat.zero_le, Option.toList_some, Option.toList_none, List.cons_append, List.nil_append, or_true, true_or, or_false, false_or, Nat.reduceEqDiff, not_true_eq_false, not_false_eq_true, false_and, and_false, false_implies, true_implies, implies_true, ne_eq, and_self, ok1, nB1, a1, hp, nI_add, bE1]
    exact q1 hn.1 hn.2
  · rw [decide_eq_false hn]
    simp only [e_X3_skip_5, e_X3_skip_8, e_X3_skip_9, tand, true_and, and_true, nl1_int, nl1_ref, nl1_null, nl1_ra, cat1_int, cat1_ref, cat1_null, stbs_nil, stbs_cons, stb_int, stb_long, stb_ref, stb_null, stb_ra, alv_nil, alv_cons, alv1_int, alv1_ref, alv1_null, alv1_ra, List.length_nil, List.length_cons, Nat.reduceAdd, Nat.reduceLeDiff, Nat.zero_le, Option.toList_some, Option.toList_none, List.cons_append, List.nil_append, or_true, true_or, or_false, false_or, Nat.reduceEqDiff, not_true_eq_false, not_false_eq_true, false_and, and_false, false_implies, true_implies, implies_true, ne_eq, and_self, ok1, nB0, bE0]
    exact q0 hn
theorem c_digit (h : TxR g t n) (hp : gI g 22 4 = nI p) (hpb : p < 2 ^ 28) (q1 : ∀ d, rdD t n p = some d → d ≤ 9 → p < n → Q (some (.int (nI d))) g) (q0 : rdD t n p = none → Q (some (.int (-1))) g) : w_X3_digit [.ref 22] g Q := by
  refine wm_at rfl ⟨trivial, trivial⟩ (show WP m_X3_digit Q 0 [.ref 22, .retAddr 0] [] g from ?_)
  obtain ⟨⟨a1, a2, a3⟩, ⟨b1, b2⟩, ⟨c1, c2⟩, d, e, f, z⟩ := h
  have z0 : (23 : Nat) ≠ 0 := by decide
  simp (disch := omega) only [e_X3_digit_0, e_X3_digit_1, e_X3_digit_4, e_X3_digit_7, e_X3_digit_8, e_X3_digit_11, e_X3_digit_12, e_X3_digit_15, tand, true_and, and_true, nl1_int, nl1_ref, nl1_null, nl1_ra, cat1_int, cat1_ref, cat1_null, stbs_nil, stbs_cons, stb_int, stb_long, stb_ref, stb_null, stb_ra, alv_nil, alv_cons, alv1_int, alv1_ref, alv1_null, alv1_ra, List.length_nil, List.length_cons, Nat.reduceAdd, Nat.reduceLeDiff, Nat.zero_le, Option.toList_some, Option.toList_none, List.cons_append, List.nil_append, or_true, true_or, or_false, false_or, Nat.reduceEqDiff, not_true_eq_false, not_false_eq_true, false_and, and_false, false_implies, true_implies, implies_true, ne_eq, and_self, ok1, a1, hp, e, nI_lt0, nI_leE]
  refine ⟨fun h1 => ?_, fun h1 => ?_⟩
  · simp only [e_X3_digit_30, e_X3_digit_31, tand, true_and, and_true, nl1_int, nl1_ref, nl1_null, nl1_ra, cat1_int, cat1_ref, cat1_null, stbs_nil, stbs_cons, stb_int, stb_long, stb_ref, stb_null, stb_ra, alv_nil, alv_cons, alv1_int, alv1_ref, alv1_null, alv1_ra, List.length_nil, List.length_cons, Nat.reduceAdd, Nat.reduceLeDiff, Nat.zero_le, Option.toList_some, Option.toList_none, List.cons_append, List.nil_append, or_true, true_or, or_false, false_or, Nat.reduceEqDiff, not_true_eq_false, not_false_eq_true, false_and, and_false, false_implies, true_implies, implies_true, ne_eq, and_self, ok1]
    exact q0 (if_neg fun z => by omega)
  have hlt : p < n := by omega
  have hlt6 : p < 60 := by omega
  obtain ⟨z1, z2⟩ := z p hlt
  simp (disch := omega) only [e_X3_digit_18, e_X3_digit_19, e_X3_digit_22, e_X3_digit_23, e_X3_digit_26, e_X3_digit_27, e_X3_digit_32, e_X3_digit_33, e_X3_digit_36, e_X3_digit_37, e_X3_digit_40, e_X3_digit_41, e_X3_digit_42, e_X3_digit_43, e_X3_digit_45, e_X3_digit_48, e_X3_digit_49, e_X3_digit_51, tand, true_and, and_true, nl1_int, nl1_ref, nl1_null, nl1_ra, cat1_int, cat1_ref, cat1_null, stbs_nil, stbs_cons, stb_int, stb_long, stb_ref, stb_null, stb_ra, alv_nil, alv_cons, alv1_int, alv1_ref, alv1_null, alv1_ra, List.length_nil, List.length_cons, Nat.reduceAdd, Nat.reduceLeDiff, Nat.zero_le, Option.toList_some, Option.toList_none, List.cons_append, List.nil_append, or_true, true_or, or_false, false_or, Nat.reduceEqDiff, not_true_eq_false, not_false_eq_true, false_and, and_false, false_implies, true_implies, implies_true, ne_eq, and_self, ok1, a1, a2, b1, b2, hp, nI_ltE, hlt6, nI_vp, nI_clamp, z0, z1]
  refine ⟨fun h2 => ?_, fun h2 => ⟨fun h3 => ?_, fun h3 => ?_⟩⟩
  · simp only [e_X3_digit_61, e_X3_digit_62, tand, true_and, and_true, nl1_int, nl1_ref, nl1_null, nl1_ra, cat1_int, cat1_ref, cat1_null, stbs_nil, stbs_cons, stb_int, stb_long, stb_ref, stb_null, stb_ra, alv_nil, alv_cons, alv1_int, alv1_ref, alv1_null, alv1_ra, List.length_nil, List.length_cons, Nat.reduceAdd, Nat.reduceLeDiff, Nat.zero_le, Option.toList_some, Option.toList_none, List.cons_append, List.nil_append, or_true, true_or, or_false, false_or, Nat.reduceEqDiff, not_true_eq_false, not_false_eq_true, false_and, and_false, false_implies, true_implies, implies_true, ne_eq, and_self, ok1]
    exact q0 (if_neg fun z => by omega)
  · simp only [e_X3_digit_61, e_X3_digit_62, tand, true_and, and_true, nl1_int, nl1_ref, nl1_null, nl1_ra, cat1_int, cat1_ref, cat1_null, stbs_nil, stbs_cons, stb_int, stb_long, stb_ref, stb_null, stb_ra, alv_nil, alv_cons, alv1_int, alv1_ref, alv1_null, alv1_ra, List.length_nil, List.length_cons, Nat.reduceAdd, Nat.reduceLeDiff, Nat.zero_le, Option.toList_some, Option.toList_none, List.cons_append, List.nil_append, or_true, true_or, or_false, false_or, Nat.reduceEqDiff, not_true_eq_false, not_false_eq_true, false_and, and_false, false_implies, true_implies, implies_true, ne_eq, and_self, ok1]
    exact q0 (if_neg fun z => by omega)
  · have hle : 48 ≤ t p := by omega
    simp only [e_X3_digit_54, e_X3_digit_55, e_X3_digit_57, e_X3_digit_58, e_X3_digit_61, e_X3_digit_62, tand, true_and, and_true, nl1_int, nl1_ref, nl1_null, nl1_ra, cat1_int, cat1_ref, cat1_null, stbs_nil, stbs_cons, stb_int, stb_long, stb_ref, stb_null, stb_ra, alv_nil, alv_cons, alv1_int, alv1_ref, alv1_null, alv1_ra, List.length_nil, List.length_cons, Nat.reduceAdd, Nat.reduceLeDiff, Nat.zero_le, Option.toList_some, Option.toList_none, List.cons_append, List.nil_append, or_true, true_or, or_false, false_or, Nat.reduceEqDiff, not_true_eq_false, not_false_eq_true, false_and, and_false, false_implies, true_implies, implies_true, ne_eq, and_self, ok1, pk_sub hle]
    exact q1 (t p - 48) (if_pos ⟨hlt, hle, by omega⟩) (by omega) hlt
theorem rdD_lt {d : Nat} (h : rdD t n p = some d) : p < n ∧ d ≤ 9 := by
  unfold rdD at h
  by_cases h1 : p < n ∧ 48 ≤ t p ∧ t p ≤ 57
  · rw [if_pos h1] at h
    have : t p - 48 = d := by simpa using h
    exact ⟨h1.1, by omega⟩
  · rw [if_neg h1] at h
    simp at h
theorem number_loop {g0 : mG} {most : Nat} (hm : most ≤ 999) {pv : Nat × Nat} (q : ∀ g', TG g0 g' t n → gI g' 22 4 = nI pv.1 → (∀ k, k ≠ 4 → gI g' 22 k = gI g0 22 k) → (∀ b, b ≠ 22 → gI g' b = gI g0 b) → Q (some (.int (nI pv.2))) g') : ∀ (k i : Nat) {g : mG} {p v : Nat} {l4 l5 : Value}, i + k = 60 → stb g l4 = True → stb g l5 = True → (∀ g, stb g l4 = True) → (∀ g, stb g l5 = True) → TG g0 g t n → gI g 22 4 = nI p → (∀ k, k ≠ 4 → gI g 22 k = gI g0 22 k) → (∀ b, b ≠ 22 → gI g b = gI g0 b) → p ≤ n → v ≤ most → rdN t n most k p v = pv → WP m_X3_readNumber Q 4 [.ref 22, .int (nI most), .int (nI v), .int (nI i), l4, l5] [] g := by
  intro k
  induction k with
  | zero =>
    intro i g p v l4 l5 hi _ _ _ _ C hp hk hb hpn hv e
    have hi2 : i = 60 := by omega
    subst hi2
    simp (disch := omega) only [e_X3_readNumber_4, e_X3_readNumber_5, e_X3_readNumber_7, e_X3_readNumber_79, e_X3_readNumber_80, tand, true_and, and_true, nl1_int, nl1_ref, nl1_null, nl1_ra, cat1_int, cat1_ref, cat1_null, stbs_nil, stbs_cons, stb_int, stb_long, stb_ref, stb_null, stb_ra, alv_nil, alv_cons, alv1_int, alv1_ref, alv1_null, alv1_ra, List.length_nil, List.length_cons, Nat.reduceAdd, Nat.reduceLeDiff, Nat.zero_le, Option.toList_some, Option.toList_none, List.cons_append, List.nil_append, or_true, true_or, or_false, false_or, Nat.reduceEqDiff, not_true_eq_false, not_false_eq_true, false_and, and_false, false_implies, true_implies, implies_true, ne_eq, and_self, ok1, nI_leE]
    have e' : (p, v) = pv := e
    subst e'
    exact q g C hp hk hb
  | succ k ih =>
    intro i g p v l4 l5 hi hl4 hl5 hm4 hm5 C hp hk hb hpn hv e
    have hn6 : n ≤ 60 := C.2.2.2.2.2.2.2.1
    have hlt : ¬ 60 ≤ i := by omega
    have a1 := C.2.2.1.1
    unfold rdN at e
    simp (disch := omega) only [e_X3_readNumber_4, e_X3_readNumber_5, e_X3_readNumber_7, e_X3_readNumber_10, e_X3_readNumber_11, tand, true_and, and_true, nl1_int, nl1_ref, nl1_null, nl1_ra, cat1_int, cat1_ref, cat1_null, stbs_nil, stbs_cons, stb_int, stb_long, stb_ref, stb_null, stb_ra, alv_nil, alv_cons, alv1_int, alv1_ref, alv1_null, alv1_ra, List.length_nil, List.length_cons, Nat.reduceAdd, Nat.reduceLeDiff, Nat.zero_le, Option.toList_some, Option.toList_none, List.cons_append, List.nil_append, or_true, true_or, or_false, false_or, Nat.reduceEqDiff, not_true_eq_false, not_false_eq_true, false_and, and_false, false_implies, true_implies, implies_true, ne_eq, and_self, ok1, nI_leE, hlt, a1, hl4, hl5]
    have fin : (p, v) = pv → ∀ {x4 x5 : Value}, WP m_X3_readNumber Q 53 [.ref 22, .int (nI most), .int (nI v), .int (nI i), x4, x5] [] g := fun e' {x4 x5} => by
      subst e'
      simp only [e_X3_readNumber_53, e_X3_readNumber_54, tand, true_and, and_true, nl1_int, nl1_ref, nl1_null, nl1_ra, cat1_int, cat1_ref, cat1_null, stbs_nil, stbs_cons, stb_int, stb_long, stb_ref, stb_null, stb_ra, alv_nil, alv_cons, alv1_int, alv1_ref, alv1_null, alv1_ra, List.length_nil, List.length_cons, Nat.reduceAdd, Nat.reduceLeDiff, Nat.zero_le, Option.toList_some, Option.toList_none, List.cons_append, List.nil_append, or_true, true_or, or_false, false_or, Nat.reduceEqDiff, not_true_eq_false, not_false_eq_true, false_and, and_false, false_implies, true_implies, implies_true, ne_eq, and_self, ok1]
      exact q g C hp hk hb
    refine c_digit C.2.2 hp (by omega) (fun d hd hd9 hpn2 => ?_) (fun hno => ?_)
    · rw [hd] at e
      have e1 : (if (v = 0 ∧ d = 0) ∨ most < v * 10 + d then (p, v) else rdN t n most k (p + 1) (v * 10 + d)) = pv := e
      have go : ¬ (v = 0 ∧ d = 0) → WP m_X3_readNumber Q 32 [.ref 22, .int (nI most), .int (nI v), .int (nI i), .int (nI d), .int (nI 0)] [] g := fun hz => by
        have n0 : (nI 0 = 0) = True := by simp [show nI 0 = 0 by decide]
        simp (disch := omega) only [e_X3_readNumber_32, e_X3_readNumber_34, e_X3_readNumber_37, e_X3_readNumber_39, e_X3_readNumber_42, e_X3_readNumber_43, e_X3_readNumber_45, e_X3_readNumber_46, e_X3_readNumber_48, e_X3_readNumber_49, e_X3_readNumber_50, tand, true_and, and_true, nl1_int, nl1_ref, nl1_null, nl1_ra, cat1_int, cat1_ref, cat1_null, stbs_nil, stbs_cons, stb_int, stb_long, stb_ref, stb_null, stb_ra, alv_nil, alv_cons, alv1_int, alv1_ref, alv1_null, alv1_ra, List.length_nil, List.length_cons, Nat.reduceAdd, Nat.reduceLeDiff, Nat.zero_le, Option.toList_some, Option.toList_none, List.cons_append, List.nil_append, or_true, true_or, or_false, false_or, Nat.reduceEqDiff, not_true_eq_false, not_false_eq_true, false_and, and_false, false_implies, true_implies, implies_true, ne_eq, and_self, ok1, nI_lt0, n0, pk_mul, nI_add, nI_leE]
        refine ⟨fun hle => ?_, fun hgt => fin ?_⟩
        · have hnot : ¬ ((v = 0 ∧ d = 0) ∨ most < v * 10 + d) := fun z => by omega
          rw [if_neg hnot] at e1
          simp (disch := omega) only [e_X3_readNumber_55, e_X3_readNumber_56, e_X3_readNumber_58, e_X3_readNumber_59, e_X3_readNumber_61, e_X3_readNumber_62, e_X3_readNumber_63, e_X3_readNumber_64, e_X3_readNumber_65, e_X3_readNumber_68, e_X3_readNumber_69, e_X3_readNumber_70, e_X3_readNumber_73, tand, true_and, and_true, nl1_int, nl1_ref, nl1_null, nl1_ra, cat1_int, cat1_ref, cat1_null, stbs_nil, stbs_cons, stb_int, stb_long, stb_ref, stb_null, stb_ra, alv_nil, alv_cons, alv1_int, alv1_ref, alv1_null, alv1_ra, List.length_nil, List.length_cons, Nat.reduceAdd, Nat.reduceLeDiff, Nat.zero_le, Option.toList_some, Option.toList_none, List.cons_append, List.nil_append, or_true, true_or, or_false, false_or, Nat.reduceEqDiff, not_true_eq_false, not_false_eq_true, false_and, and_false, false_implies, true_implies, implies_true, ne_eq, and_self, ok1, pk_mul, nI_add, a1, hp]
          simp only [e_X3_readNumber_76, tand, true_and, and_true, nl1_int, nl1_ref, nl1_null, nl1_ra, cat1_int, cat1_ref, cat1_null, stbs_nil, stbs_cons, stb_int, stb_long, stb_ref, stb_null, stb_ra, alv_nil, alv_cons, alv1_int, alv1_ref, alv1_null, alv1_ra, List.length_nil, List.length_cons, Nat.reduceAdd, Nat.reduceLeDiff, Nat.zero_le, Option.toList_some, Option.toList_none, List.cons_append, List.nil_append, or_true, true_or, or_false, false_or, Nat.reduceEqDiff, not_true_eq_false, not_false_eq_true, false_and, and_false, false_implies, true_implies, implies_true, ne_eq, and_self, ok1]
          refine ih (i + 1) (by omega) rfl rfl (fun _ => rfl) (fun _ => rfl) (C.place 4 _ (by decide)) ?_ (fun k hk4 => ?_) (fun b hb2 => ?_) (by omega) hle e1
          · rw [gI_pI_eq, if_pos rfl]
          · rw [gI_pI_eq, if_neg hk4]; exact hk k hk4
          · rw [gI_pI_ne hb2]; exact hb b hb2
        · rw [if_pos (Or.inr (by omega))] at e1
          exact e1
      simp (disch := omega) only [e_X3_readNumber_14, e_X3_readNumber_16, e_X3_readNumber_17, e_X3_readNumber_20, e_X3_readNumber_22, tand, true_and, and_true, nl1_int, nl1_ref, nl1_null, nl1_ra, cat1_int, cat1_ref, cat1_null, stbs_nil, stbs_cons, stb_int, stb_long, stb_ref, stb_null, stb_ra, alv_nil, alv_cons, alv1_int, alv1_ref, alv1_null, alv1_ra, List.length_nil, List.length_cons, Nat.reduceAdd, Nat.reduceLeDiff, Nat.zero_le, Option.toList_some, Option.toList_none, List.cons_append, List.nil_append, or_true, true_or, or_false, false_or, Nat.reduceEqDiff, not_true_eq_false, not_false_eq_true, false_and, and_false, false_implies, true_implies, implies_true, ne_eq, and_self, ok1, nI_eq0]
      refine ⟨fun h1 => ?_, fun h1 => ⟨fun h2 => ?_, fun h2 => ?_⟩⟩
      · simp (disch := omega) only [e_X3_readNumber_29, e_X3_readNumber_30, tand, true_and, and_true, nl1_int, nl1_ref, nl1_null, nl1_ra, cat1_int, cat1_ref, cat1_null, stbs_nil, stbs_cons, stb_int, stb_long, stb_ref, stb_null, stb_ra, alv_nil, alv_cons, alv1_int, alv1_ref, alv1_null, alv1_ra, List.length_nil, List.length_cons, Nat.reduceAdd, Nat.reduceLeDiff, Nat.zero_le, Option.toList_some, Option.toList_none, List.cons_append, List.nil_append, or_true, true_or, or_false, false_or, Nat.reduceEqDiff, not_true_eq_false, not_false_eq_true, false_and, and_false, false_implies, true_implies, implies_true, ne_eq, and_self, ok1]
        exact go fun z => h1 z.1
      · simp (disch := omega) only [e_X3_readNumber_29, e_X3_readNumber_30, tand, true_and, and_true, nl1_int, nl1_ref, nl1_null, nl1_ra, cat1_int, cat1_ref, cat1_null, stbs_nil, stbs_cons, stb_int, stb_long, stb_ref, stb_null, stb_ra, alv_nil, alv_cons, alv1_int, alv1_ref, alv1_null, alv1_ra, List.length_nil, List.length_cons, Nat.reduceAdd, Nat.reduceLeDiff, Nat.zero_le, Option.toList_some, Option.toList_none, List.cons_append, List.nil_append, or_true, true_or, or_false, false_or, Nat.reduceEqDiff, not_true_eq_false, not_false_eq_true, false_and, and_false, false_implies, true_implies, implies_true, ne_eq, and_self, ok1]
        exact go fun z => h2 z.2
      · have n1 : (nI 1 = 0) = False := by simp [show nI 1 ≠ 0 by decide]
        simp (disch := omega) only [e_X3_readNumber_25, e_X3_readNumber_26, e_X3_readNumber_29, e_X3_readNumber_30, e_X3_readNumber_32, e_X3_readNumber_34, e_X3_readNumber_37, e_X3_readNumber_39, tand, true_and, and_true, nl1_int, nl1_ref, nl1_null, nl1_ra, cat1_int, cat1_ref, cat1_null, stbs_nil, stbs_cons, stb_int, stb_long, stb_ref, stb_null, stb_ra, alv_nil, alv_cons, alv1_int, alv1_ref, alv1_null, alv1_ra, List.length_nil, List.length_cons, Nat.reduceAdd, Nat.reduceLeDiff, Nat.zero_le, Option.toList_some, Option.toList_none, List.cons_append, List.nil_append, or_true, true_or, or_false, false_or, Nat.reduceEqDiff, not_true_eq_false, not_false_eq_true, false_and, and_false, false_implies, true_implies, implies_true, ne_eq, and_self, ok1, nI_lt0, n1]
        rw [if_pos (Or.inl ⟨by omega, by omega⟩)] at e1
        exact fin e1
    · rw [hno] at e
      have e' : (p, v) = pv := e
      have hneg : ((-1 : Int32) < 0) = True := by simp [show (-1 : Int32) < 0 by decide]
      have hnz : ((-1 : Int32) = 0) = False := by simp [show (-1 : Int32) ≠ 0 by decide]
      simp (disch := omega) only [e_X3_readNumber_14, e_X3_readNumber_16, e_X3_readNumber_17, e_X3_readNumber_20, e_X3_readNumber_22, e_X3_readNumber_25, e_X3_readNumber_26, e_X3_readNumber_29, e_X3_readNumber_30, e_X3_readNumber_32, e_X3_readNumber_34, e_X3_readNumber_37, e_X3_readNumber_39, tand, true_and, and_true, nl1_int, nl1_ref, nl1_null, nl1_ra, cat1_int, cat1_ref, cat1_null, stbs_nil, stbs_cons, stb_int, stb_long, stb_ref, stb_null, stb_ra, alv_nil, alv_cons, alv1_int, alv1_ref, alv1_null, alv1_ra, List.length_nil, List.length_cons, Nat.reduceAdd, Nat.reduceLeDiff, Nat.zero_le, Option.toList_some, Option.toList_none, List.cons_append, List.nil_append, or_true, true_or, or_false, false_or, Nat.reduceEqDiff, not_true_eq_false, not_false_eq_true, false_and, and_false, false_implies, true_implies, implies_true, ne_eq, and_self, ok1, hneg, hnz, ite_self]
      exact ⟨fun _ => fin e', fun _ => fin e'⟩
theorem c_readNumber {most : Nat} (hm : most ≤ 999) (h : TxR g t n) (hJ : JR g) (hp : gI g 22 4 = nI p) (hpn : p ≤ n) (q : ∀ g', TG g g' t n → gI g' 22 4 = nI (rdN t n most 60 p 0).1 → (∀ k, k ≠ 4 → gI g' 22 k = gI g 22 k) → (∀ b, b ≠ 22 → gI g' b = gI g b) → Q (some (.int (nI (rdN t n most 60 p 0).2))) g') : w_X3_readNumber [.ref 22, .int (nI most)] g Q := by
  refine wm_at rfl ⟨trivial, trivial, trivial⟩ (show WP m_X3_readNumber Q 0 [.ref 22, .int (nI most), .retAddr 0, .retAddr 0, .retAddr 0, .retAddr 0] [] g from ?_)
  simp only [e_X3_readNumber_0, e_X3_readNumber_1, e_X3_readNumber_2, e_X3_readNumber_3, tand, true_and, and_true, nl1_int, nl1_ref, nl1_null, nl1_ra, cat1_int, cat1_ref, cat1_null, stbs_nil, stbs_cons, stb_int, stb_long, stb_ref, stb_null, stb_ra, alv_nil, alv_cons, alv1_int, alv1_ref, alv1_null, alv1_ra, List.length_nil, List.length_cons, Nat.reduceAdd, Nat.reduceLeDiff, Nat.zero_le, Option.toList_some, Option.toList_none, List.cons_append, List.nil_append, or_true, true_or, or_false, false_or, Nat.reduceEqDiff, not_true_eq_false, not_false_eq_true, false_and, and_false, false_implies, true_implies, implies_true, ne_eq, and_self, ok1]
  exact number_loop hm (pv := rdN t n most 60 p 0) q 60 0 rfl rfl rfl (fun _ => rfl) (fun _ => rfl) (TG.rf h hJ) hp (fun _ _ => rfl) (fun _ _ => rfl) hpn (Nat.zero_le _) rfl
end Txt
