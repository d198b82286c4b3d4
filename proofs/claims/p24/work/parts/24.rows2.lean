/-! ===== the other methods of Permits ===== -/
section Prow2
variable {Q : mQ}
theorem drop_loop {p m : Nat} {r : Nat → Nat} {yn : Nat} (hp : isP p) (hm : m ≤ rt r) (hb : rt r < 2 ^ 29) : ∀ (k : Nat) {g : mG} {y : Nat} {l4 : Value}, (∀ g, stb g l4 = True) → yn - y ≤ k → y ≤ yn → JR g → PermX g p (rsy r m y) yn (rt r) →
    (∀ g' yn', Fr (fun z => XP p z) g g' → JR g' → gC g' = gC g → gS g' = gS g → (∀ b, gN g' b = gN g b) → PermR g' p (rsu r m) yn' → Q none g') → WP m_X4_dropOldest Q 4 [.ref p, .int (nI m), .int (nI (m - sm r y)), .int (nI y), l4] [] g := by
  intro k
  induction k with
  | zero =>
    intro g y l4 hl4 hk hyn hJ hP h
    obtain ⟨a1, a2, a3, a4, a5, a6, a7, a8⟩ := id hP
    have hyy : yn ≤ y := by omega
    have r0 := rsy_0 a7 hyn
    have hle := left_0 (y := y) hm r0 (by omega) (Or.inl hyy)
    have e0 : m - sm r y = 0 := by omega
    have hts : ∀ z, y ≤ z → tk r m z = 0 := fun z hz => tk_done hle hz
    have e1 : m - 0 = m := by omega
    simp (disch := omega) only [e_X4_dropOldest_4, e_X4_dropOldest_5, e_X4_dropOldest_6, e_X4_dropOldest_9, e_X4_dropOldest_50, e_X4_dropOldest_51, e_X4_dropOldest_52, e_X4_dropOldest_53, e_X4_dropOldest_54, tand, true_and, and_true, nl1_int, nl1_ref, nl1_null, nl1_ra, cat1_int, cat1_ref, cat1_null, stbs_nil, stbs_cons, stb_int, stb_long, stb_ref, stb_null, stb_ra, alv_nil, alv_cons, alv1_int, alv1_ref, alv1_null, alv1_ra, List.length_nil, List.length_cons, Nat.reduceAdd, Nat.reduceLeDiff, Nat.zero_le, Option.toList_some, Option.toList_none, List.cons_append, List.nil_append, or_true, true_or, or_false, false_or, Nat.reduceEqDiff, not_true_eq_false, not_false_eq_true, false_and, and_false, false_implies, true_implies, implies_true, ne_eq, and_self, ok1, a1, a3, nI_leE, hyy, e0, nI_le0, pk_sub (Nat.zero_le m), e1, hl4]
    rw [rsy_end hts] at hP
    have e2 := rt_rsu hm
    refine c_leaveOut (r := rsu r m) (yn := yn) (by rw [show rt (rsu r m) + m = rt r by omega]; exact hP) (by omega) fun g' yn' f c1 c2 c3 q1 => ?_
    simp only [e_X4_dropOldest_57, tand, true_and, and_true, nl1_int, nl1_ref, nl1_null, nl1_ra, cat1_int, cat1_ref, cat1_null, stbs_nil, stbs_cons, stb_int, stb_long, stb_ref, stb_null, stb_ra, alv_nil, alv_cons, alv1_int, alv1_ref, alv1_null, alv1_ra, List.length_nil, List.length_cons, Nat.reduceAdd, Nat.reduceLeDiff, Nat.zero_le, Option.toList_some, Option.toList_none, List.cons_append, List.nil_append, or_true, true_or, or_false, false_or, Nat.reduceEqDiff, not_true_eq_false, not_false_eq_true, false_and, and_false, false_implies, true_implies, implies_true, ne_eq, and_self, ok1]
    exact h g' yn' (f.up fun b hb => Or.inl hb) (hJ.same (fun c j _ _ => c3 _) c2 c1) c1 c2 c3 q1
  | succ k ih =>
    intro g y l4 hl4 hk hyn hJ hP h
    obtain ⟨a1, a2, a3, a4, a5, a6, a7, a8⟩ := id hP
    have r0 := rsy_0 a7 hyn
    by_cases hex : yn ≤ y ∨ m - sm r y = 0
    · have hle := left_0 (y := y) hm r0 (by omega) hex
      have e0 : m - sm r y = 0 := by omega
      have hts : ∀ z, y ≤ z → tk r m z = 0 := fun z hz => tk_done hle hz
      have e1 : m - 0 = m := by omega
      simp (disch := omega) only [e_X4_dropOldest_4, e_X4_dropOldest_5, e_X4_dropOldest_6, e_X4_dropOldest_9, e_X4_dropOldest_12, e_X4_dropOldest_13, e_X4_dropOldest_50, e_X4_dropOldest_51, e_X4_dropOldest_52, e_X4_dropOldest_53, e_X4_dropOldest_54, tand, true_and, and_true, nl1_int, nl1_ref, nl1_null, nl1_ra, cat1_int, cat1_ref, cat1_null, stbs_nil, stbs_cons, stb_int, stb_long, stb_ref, stb_null, stb_ra, alv_nil, alv_cons, alv1_int, alv1_ref, alv1_null, alv1_ra, List.length_nil, List.length_cons, Nat.reduceAdd, Nat.reduceLeDiff, Nat.zero_le, Option.toList_some, Option.toList_none, List.cons_append, List.nil_append, or_true, true_or, or_false, false_or, Nat.reduceEqDiff, not_true_eq_false, not_false_eq_true, false_and, and_false, false_implies, true_implies, implies_true, ne_eq, and_self, ok1, a1, a3, nI_leE, e0, nI_le0, pk_sub (Nat.zero_le m), e1, hl4]
      rw [rsy_end hts] at hP
      have e2 := rt_rsu hm
      have fin : w_X4_leaveOut [Value.ref p, Value.int (nI m)] g (fun v g' => WP m_X4_dropOldest Q 57 [.ref p, .int (nI m), .int (nI 0), .int (nI y), l4] (v.toList ++ []) g') := by
        refine c_leaveOut (r := rsu r m) (yn := yn) (by rw [show rt (rsu r m) + m = rt r by omega]; exact hP) (by omega) fun g' yn' f c1 c2 c3 q1 => ?_
        simp only [e_X4_dropOldest_57, tand, true_and, and_true, nl1_int, nl1_ref, nl1_null, nl1_ra, cat1_int, cat1_ref, cat1_null, stbs_nil, stbs_cons, stb_int, stb_long, stb_ref, stb_null, stb_ra, alv_nil, alv_cons, alv1_int, alv1_ref, alv1_null, alv1_ra, List.length_nil, List.length_cons, Nat.reduceAdd, Nat.reduceLeDiff, Nat.zero_le, Option.toList_some, Option.toList_none, List.cons_append, List.nil_append, or_true, true_or, or_false, false_or, Nat.reduceEqDiff, not_true_eq_false, not_false_eq_true, false_and, and_false, false_implies, true_implies, implies_true, ne_eq, and_self, ok1]
        exact h g' yn' (f.up fun b hb => Or.inl hb) (hJ.same (fun c j _ _ => c3 _) c2 c1) c1 c2 c3 q1
      exact ⟨fun _ => fin, fun _ => fin⟩
    · have h1 : ¬ yn ≤ y := fun q => hex (Or.inl q)
      have h2 : ¬ m - sm r y = 0 := fun q => hex (Or.inr q)
      have hry : gI g (p + 1) y = nI (r y) := by
        rw [a6 y (by omega)]
        unfold rsy
        rw [if_neg (by omega)]
      have hrb : r y ≤ rt r := rt_ge (by omega)
      have hlt : y < gN g (p + 1) := by omega
      have htk : min (m - sm r y) (r y) = tk r m y := rfl
      have htl := tk_le (r := r) (m := m) (y := y)
      have hsub : nI (r y) - nI (tk r m y) = nI (r y - tk r m y) := pk_sub htl
      have hle2 : tk r m y ≤ m - sm r y := Nat.min_le_left _ _
      have hnx : m - sm r y - tk r m y = m - sm r (y + 1) := by
        show m - sm r y - min (m - sm r y) (r y) = m - (sm r y + r y)
        omega
      simp (disch := omega) only [e_X4_dropOldest_4, e_X4_dropOldest_5, e_X4_dropOldest_6, e_X4_dropOldest_9, e_X4_dropOldest_12, e_X4_dropOldest_13, tand, true_and, and_true, nl1_int, nl1_ref, nl1_null, nl1_ra, cat1_int, cat1_ref, cat1_null, stbs_nil, stbs_cons, stb_int, stb_long, stb_ref, stb_null, stb_ra, alv_nil, alv_cons, alv1_int, alv1_ref, alv1_null, alv1_ra, List.length_nil, List.length_cons, Nat.reduceAdd, Nat.reduceLeDiff, Nat.zero_le, Option.toList_some, Option.toList_none, List.cons_append, List.nil_append, or_true, true_or, or_false, false_or, Nat.reduceEqDiff, not_true_eq_false, not_false_eq_true, false_and, and_false, false_implies, true_implies, implies_true, ne_eq, and_self, ok1, a1, a3, nI_leE, h1, h2, nI_le0]
      simp (disch := omega) only [e_X4_dropOldest_16, e_X4_dropOldest_17, e_X4_dropOldest_18, e_X4_dropOldest_21, e_X4_dropOldest_22, e_X4_dropOldest_23, e_X4_dropOldest_26, e_X4_dropOldest_28, e_X4_dropOldest_29, e_X4_dropOldest_32, e_X4_dropOldest_33, e_X4_dropOldest_34, e_X4_dropOldest_35, e_X4_dropOldest_37, e_X4_dropOldest_38, e_X4_dropOldest_39, e_X4_dropOldest_40, e_X4_dropOldest_42, e_X4_dropOldest_43, e_X4_dropOldest_44, e_X4_dropOldest_47, tand, true_and, and_true, nl1_int, nl1_ref, nl1_null, nl1_ra, cat1_int, cat1_ref, cat1_null, stbs_nil, stbs_cons, stb_int, stb_long, stb_ref, stb_null, stb_ra, alv_nil, alv_cons, alv1_int, alv1_ref, alv1_null, alv1_ra, List.length_nil, List.length_cons, Nat.reduceAdd, Nat.reduceLeDiff, Nat.zero_le, Option.toList_some, Option.toList_none, List.cons_append, List.nil_append, or_true, true_or, or_false, false_or, Nat.reduceEqDiff, not_true_eq_false, not_false_eq_true, false_and, and_false, false_implies, true_implies, implies_true, ne_eq, and_self, ok1, a1, a2, isIA, nI_vp, nI_clamp, hlt, hry, nI_min, htk, hsub, gK_pI, pk_sub hle2, hnx, nI_add]
      have hP1 := rsy_step hP (show y < yn by omega)
      have f1 : Fr (XP p) g (pI g (p + 1) y (nI (r y - tk r m y))) := Fr.pI (Or.inr (Or.inl rfl))
      exact ih (by intro g; rfl) (by omega) (by omega) hJ.pI hP1 fun g' yn' f j c1 c2 c3 c => h g' yn' (f1.tr f) j c1 c2 c3 c
theorem c_dropOldest {g : mG} {p m yn : Nat} {r : Nat → Nat} (hp : isP p) (hm : m ≤ rt r) (hb : rt r < 2 ^ 29) (hJ : JR g) (hP : PermR g p r yn)
    (h : ∀ g' yn', Fr (fun z => XP p z) g g' → JR g' → gC g' = gC g → gS g' = gS g → (∀ b, gN g' b = gN g b) → PermR g' p (rsu r m) yn' → Q none g') : w_X4_dropOldest [.ref p, .int (nI m)] g Q := by
  refine wm_at rfl ⟨trivial, trivial, trivial⟩ (show WP m_X4_dropOldest Q 0 [.ref p, .int (nI m), .retAddr 0, .retAddr 0, .retAddr 0] [] g from ?_)
  simp only [e_X4_dropOldest_0, e_X4_dropOldest_1, e_X4_dropOldest_2, e_X4_dropOldest_3, tand, true_and, and_true, nl1_int, nl1_ref, nl1_null, nl1_ra, cat1_int, cat1_ref, cat1_null, stbs_nil, stbs_cons, stb_int, stb_long, stb_ref, stb_null, stb_ra, alv_nil, alv_cons, alv1_int, alv1_ref, alv1_null, alv1_ra, List.length_nil, List.length_cons, Nat.reduceAdd, Nat.reduceLeDiff, Nat.zero_le, Option.toList_some, Option.toList_none, List.cons_append, List.nil_append, or_true, true_or, or_false, false_or, Nat.reduceEqDiff, not_true_eq_false, not_false_eq_true, false_and, and_false, false_implies, true_implies, implies_true, ne_eq, and_self, ok1]
  have e1 : rsy r m 0 = r := by funext z; unfold rsy; rw [if_neg (Nat.not_lt_zero z)]
  exact drop_loop hp hm hb (yn := yn) yn (g := g) (y := 0) (l4 := .retAddr 0) (fun _ => rfl) (by omega) (Nat.zero_le _) hJ (by rw [e1]; exact hP) h
theorem c_issuedFor {g : mG} {p y yn : Nat} {r : Nat → Nat} (hP : PermR g p r yn) (hy : y < 2 ^ 30) (h : Q (some (.int (nI (r y)))) g) : w_X4_issuedFor [.ref p, .int (nI y)] g Q := by
  refine wm_at rfl ⟨trivial, trivial, trivial⟩ (show WP m_X4_issuedFor Q 0 [.ref p, .int (nI y)] [] g from ?_)
  obtain ⟨a1, a2, a3, a4, a5, a6, a7, a8⟩ := id hP
  simp (disch := omega) only [e_X4_issuedFor_0, e_X4_issuedFor_1, e_X4_issuedFor_4, e_X4_issuedFor_5, e_X4_issuedFor_6, e_X4_issuedFor_9, tand, true_and, and_true, nl1_int, nl1_ref, nl1_null, nl1_ra, cat1_int, cat1_ref, cat1_null, stbs_nil, stbs_cons, stb_int, stb_long, stb_ref, stb_null, stb_ra, alv_nil, alv_cons, alv1_int, alv1_ref, alv1_null, alv1_ra, List.length_nil, List.length_cons, Nat.reduceAdd, Nat.reduceLeDiff, Nat.zero_le, Option.toList_some, Option.toList_none, List.cons_append, List.nil_append, or_true, true_or, or_false, false_or, Nat.reduceEqDiff, not_true_eq_false, not_false_eq_true, false_and, and_false, false_implies, true_implies, implies_true, ne_eq, and_self, ok1, a1, a3, nI_lt0, nI_leE]
  refine ⟨fun h1 => ?_, fun h1 => ?_⟩
  · simp (disch := omega) only [e_X4_issuedFor_21, e_X4_issuedFor_22, tand, true_and, and_true, nl1_int, nl1_ref, nl1_null, nl1_ra, cat1_int, cat1_ref, cat1_null, stbs_nil, stbs_cons, stb_int, stb_long, stb_ref, stb_null, stb_ra, alv_nil, alv_cons, alv1_int, alv1_ref, alv1_null, alv1_ra, List.length_nil, List.length_cons, Nat.reduceAdd, Nat.reduceLeDiff, Nat.zero_le, Option.toList_some, Option.toList_none, List.cons_append, List.nil_append, or_true, true_or, or_false, false_or, Nat.reduceEqDiff, not_true_eq_false, not_false_eq_true, false_and, and_false, false_implies, true_implies, implies_true, ne_eq, and_self, ok1]
    rw [a7 y h1] at h
    exact h
  · have hlt : y < gN g (p + 1) := by omega
    simp (disch := omega) only [e_X4_issuedFor_12, e_X4_issuedFor_13, e_X4_issuedFor_16, e_X4_issuedFor_17, e_X4_issuedFor_18, e_X4_issuedFor_22, tand, true_and, and_true, nl1_int, nl1_ref, nl1_null, nl1_ra, cat1_int, cat1_ref, cat1_null, stbs_nil, stbs_cons, stb_int, stb_long, stb_ref, stb_null, stb_ra, alv_nil, alv_cons, alv1_int, alv1_ref, alv1_null, alv1_ra, List.length_nil, List.length_cons, Nat.reduceAdd, Nat.reduceLeDiff, Nat.zero_le, Option.toList_some, Option.toList_none, List.cons_append, List.nil_append, or_true, true_or, or_false, false_or, Nat.reduceEqDiff, not_true_eq_false, not_false_eq_true, false_and, and_false, false_implies, true_implies, implies_true, ne_eq, and_self, ok1, a1, a2, isIA, nI_vp, nI_clamp, hlt, a6 y (show y < yn by omega)]
    exact h
/-- the oldest year of a row -/
def OldR (r : Nat → Nat) (v : Int32) : Prop := (∃ y, y < 1000 ∧ 0 < r y ∧ (∀ z, z < y → r z = 0) ∧ v = nI y) ∨ ((∀ z, r z = 0) ∧ v = -5)
theorem OldR.uniq {r : Nat → Nat} {v w : Int32} (h1 : OldR r v) (h2 : OldR r w) : v = w := by
  rcases h1 with ⟨y, _, b, c, d⟩ | ⟨c, d⟩ <;> rcases h2 with ⟨y', _, b', c', d'⟩ | ⟨c', d'⟩
  · have : y = y' := by
      by_cases h : y < y'
      · have := c' y h; omega
      · by_cases h2 : y' < y
        · have := c y' h2; omega
        · omega
    rw [d, d', this]
  · have := c' y; omega
  · have := c y'; omega
  · rw [d, d']
theorem oldest_loop {g : mG} {p yn : Nat} {r : Nat → Nat} (hP : PermR g p r yn) (hb : rt r < 2 ^ 29) (h : ∀ v, OldR r v → Q (some (.int v)) g) : ∀ (k y : Nat), yn - y ≤ k → y ≤ yn → (∀ z, z < y → r z = 0) → WP m_X4_oldestYear Q 2 [.ref p, .int (nI y)] [] g := by
  obtain ⟨a1, a2, a3, a4, a5, a6, a7, a8⟩ := id hP
  intro k
  induction k with
  | zero =>
    intro y hk hy hz
    have hyy : yn ≤ y := by omega
    simp (disch := omega) only [e_X4_oldestYear_2, e_X4_oldestYear_3, e_X4_oldestYear_4, e_X4_oldestYear_7, e_X4_oldestYear_27, e_X4_oldestYear_29, tand, true_and, and_true, nl1_int, nl1_ref, nl1_null, nl1_ra, cat1_int, cat1_ref, cat1_null, stbs_nil, stbs_cons, stb_int, stb_long, stb_ref, stb_null, stb_ra, alv_nil, alv_cons, alv1_int, alv1_ref, alv1_null, alv1_ra, List.length_nil, List.length_cons, Nat.reduceAdd, Nat.reduceLeDiff, Nat.zero_le, Option.toList_some, Option.toList_none, List.cons_append, List.nil_append, or_true, true_or, or_false, false_or, Nat.reduceEqDiff, not_true_eq_false, not_false_eq_true, false_and, and_false, false_implies, true_implies, implies_true, ne_eq, and_self, ok1, a1, a3, nI_leE, hyy]
    exact h _ (Or.inr ⟨fun z => if hzz : z < y then hz z hzz else a7 z (by omega), rfl⟩)
  | succ k ih =>
    intro y hk hy hz
    by_cases hyy : yn ≤ y
    · simp (disch := omega) only [e_X4_oldestYear_2, e_X4_oldestYear_3, e_X4_oldestYear_4, e_X4_oldestYear_7, e_X4_oldestYear_27, e_X4_oldestYear_29, tand, true_and, and_true, nl1_int, nl1_ref, nl1_null, nl1_ra, cat1_int, cat1_ref, cat1_null, stbs_nil, stbs_cons, stb_int, stb_long, stb_ref, stb_null, stb_ra, alv_nil, alv_cons, alv1_int, alv1_ref, alv1_null, alv1_ra, List.length_nil, List.length_cons, Nat.reduceAdd, Nat.reduceLeDiff, Nat.zero_le, Option.toList_some, Option.toList_none, List.cons_append, List.nil_append, or_true, true_or, or_false, false_or, Nat.reduceEqDiff, not_true_eq_false, not_false_eq_true, false_and, and_false, false_implies, true_implies, implies_true, ne_eq, and_self, ok1, a1, a3, nI_leE, hyy]
      exact h _ (Or.inr ⟨fun z => if hzz : z < y then hz z hzz else a7 z (by omega), rfl⟩)
    · have hlt : y < gN g (p + 1) := by omega
      have hrb : r y ≤ rt r := rt_ge (by omega)
      simp (disch := omega) only [e_X4_oldestYear_2, e_X4_oldestYear_3, e_X4_oldestYear_4, e_X4_oldestYear_7, tand, true_and, and_true, nl1_int, nl1_ref, nl1_null, nl1_ra, cat1_int, cat1_ref, cat1_null, stbs_nil, stbs_cons, stb_int, stb_long, stb_ref, stb_null, stb_ra, alv_nil, alv_cons, alv1_int, alv1_ref, alv1_null, alv1_ra, List.length_nil, List.length_cons, Nat.reduceAdd, Nat.reduceLeDiff, Nat.zero_le, Option.toList_some, Option.toList_none, List.cons_append, List.nil_append, or_true, true_or, or_false, false_or, Nat.reduceEqDiff, not_true_eq_false, not_false_eq_true, false_and, and_false, false_implies, true_implies, implies_true, ne_eq, and_self, ok1, a1, a3, nI_leE, hyy]
      simp (disch := omega) only [e_X4_oldestYear_10, e_X4_oldestYear_11, e_X4_oldestYear_14, e_X4_oldestYear_15, e_X4_oldestYear_16, e_X4_oldestYear_19, e_X4_oldestYear_20, e_X4_oldestYear_21, e_X4_oldestYear_24, tand, true_and, and_true, nl1_int, nl1_ref, nl1_null, nl1_ra, cat1_int, cat1_ref, cat1_null, stbs_nil, stbs_cons, stb_int, stb_long, stb_ref, stb_null, stb_ra, alv_nil, alv_cons, alv1_int, alv1_ref, alv1_null, alv1_ra, List.length_nil, List.length_cons, Nat.reduceAdd, Nat.reduceLeDiff, Nat.zero_le, Option.toList_some, Option.toList_none, List.cons_append, List.nil_append, or_true, true_or, or_false, false_or, Nat.reduceEqDiff, not_true_eq_false, not_false_eq_true, false_and, and_false, false_implies, true_implies, implies_true, ne_eq, and_self, ok1, a1, a2, isIA, nI_vp, nI_clamp, hlt, a6 y (show y < yn by omega), nI_le0, nI_add]
      refine ⟨fun h0 => ih (y + 1) (by omega) (by omega) fun z hz1 => ?_, fun h0 => h _ (Or.inl ⟨y, by omega, by omega, hz, rfl⟩)⟩
      by_cases h5 : z < y
      · exact hz z h5
      · rw [show z = y by omega]; exact h0
theorem c_oldestYear {g : mG} {p yn : Nat} {r : Nat → Nat} (hP : PermR g p r yn) (hb : rt r < 2 ^ 29) (h : ∀ v, OldR r v → Q (some (.int v)) g) : w_X4_oldestYear [.ref p] g Q := by
  refine wm_at rfl ⟨trivial, trivial⟩ (show WP m_X4_oldestYear Q 0 [.ref p, .retAddr 0] [] g from ?_)
  simp only [e_X4_oldestYear_0, e_X4_oldestYear_1, tand, true_and, and_true, nl1_int, nl1_ref, nl1_null, nl1_ra, cat1_int, cat1_ref, cat1_null, stbs_nil, stbs_cons, stb_int, stb_long, stb_ref, stb_null, stb_ra, alv_nil, alv_cons, alv1_int, alv1_ref, alv1_null, alv1_ra, List.length_nil, List.length_cons, Nat.reduceAdd, Nat.reduceLeDiff, Nat.zero_le, Option.toList_some, Option.toList_none, List.cons_append, List.nil_append, or_true, true_or, or_false, false_or, Nat.reduceEqDiff, not_true_eq_false, not_false_eq_true, false_and, and_false, false_implies, true_implies, implies_true, ne_eq, and_self, ok1]
  exact oldest_loop hP hb h yn 0 (by omega) (Nat.zero_le _) (fun z hz => absurd hz (Nat.not_lt_zero z))
/-- the shape of a Permits with any content -/
def PermS (g : mG) (p : Nat) : Prop := gK g p = 5 ∧ gK g (p + 1) = 12
theorem PermX.shape {g : mG} {p yn t : Nat} {r : Nat → Nat} (h : PermX g p r yn t) : PermS g p := ⟨h.1, h.2.1⟩
theorem copy_tail {g : mG} {p o yn : Nat} {r : Nat → Nat} (hp : isP p) (hpo : p ≠ o ∧ p ≠ o + 1 ∧ o ≠ p + 1) (hP : PermS g p) (hlen : yn ≤ gN g (p + 1)) (hO : PermR g o r yn) (hJ : JR g)
    (h : ∀ g', Fr (XP p) g g' → JR g' → PermR g' p r yn → Q none g') : WP m_X4_copyFrom Q 23 [.ref p, .ref o] [] g := by
  obtain ⟨a1, a2, a3, a4, a5, a6, a7, a8⟩ := id hO
  obtain ⟨p1, p2⟩ := hP
  have p3 : gN g (p + 1) ≤ 1998 := by
    obtain ⟨c, j, hc, hj, hpc⟩ := hp
    rw [hpc]; exact (hJ.1 c j hc hj).2
  obtain ⟨x1, x2, x3⟩ := hpo
  have hne : p ≠ p + 1 := by omega
  simp (disch := omega) only [e_X4_copyFrom_23, e_X4_copyFrom_23n, e_X4_copyFrom_24, e_X4_copyFrom_27, e_X4_copyFrom_28, e_X4_copyFrom_29, e_X4_copyFrom_32, e_X4_copyFrom_33, e_X4_copyFrom_33n, e_X4_copyFrom_34, e_X4_copyFrom_37, tand, true_and, and_true, nl1_int, nl1_ref, nl1_null, nl1_ra, cat1_int, cat1_ref, cat1_null, stbs_nil, stbs_cons, stb_int, stb_long, stb_ref, stb_null, stb_ra, alv_nil, alv_cons, alv1_int, alv1_ref, alv1_null, alv1_ra, List.length_nil, List.length_cons, Nat.reduceAdd, Nat.reduceLeDiff, Nat.zero_le, Option.toList_some, Option.toList_none, List.cons_append, List.nil_append, or_true, true_or, or_false, false_or, Nat.reduceEqDiff, not_true_eq_false, not_false_eq_true, false_and, and_false, false_implies, true_implies, implies_true, ne_eq, and_self, ok1, a1, a2, a3, p1, p2, nI_lt0, nI_clamp, Nat.zero_add]
  refine ⟨⟨a4.1, hlen⟩, ?_⟩
  generalize hg2 : pA g (p + 1) (va_cpy (gI g (o + 1)) (gI g (p + 1)) 0 0 yn) = g2
  have k2 : ∀ b, b ≠ p + 1 → gI g2 b = gI g b := fun b hb => by rw [← hg2, gI_pA, if_neg hb]
  have kK : ∀ b, gK g2 b = gK g b := fun b => by rw [← hg2]; rfl
  have kN : ∀ b, gN g2 b = gN g b := fun b => by rw [← hg2]; rfl
  have kR : ∀ b k, gR g2 b k = gR g b k := fun b k => by rw [← hg2]; rfl
  have kC : gC g2 = gC g ∧ gS g2 = gS g := by rw [← hg2]; exact ⟨rfl, rfl⟩
  have kp : gI g2 (p + 1) = va_cpy (gI g (o + 1)) (gI g (p + 1)) 0 0 yn := by rw [← hg2, gI_pA, if_pos rfl]
  have o1 : gI g2 o = gI g o := k2 o x3
  have p1' : gK g2 p = 5 := (kK p).trans p1
  have o1' : gK g2 o = 5 := (kK o).trans a1
  simp (disch := omega) only [e_X4_copyFrom_40, e_X4_copyFrom_41, e_X4_copyFrom_41n, e_X4_copyFrom_42, e_X4_copyFrom_45, e_X4_copyFrom_48, e_X4_copyFrom_49, e_X4_copyFrom_49n, e_X4_copyFrom_50, e_X4_copyFrom_53, e_X4_copyFrom_56, tand, true_and, and_true, nl1_int, nl1_ref, nl1_null, nl1_ra, cat1_int, cat1_ref, cat1_null, stbs_nil, stbs_cons, stb_int, stb_long, stb_ref, stb_null, stb_ra, alv_nil, alv_cons, alv1_int, alv1_ref, alv1_null, alv1_ra, List.length_nil, List.length_cons, Nat.reduceAdd, Nat.reduceLeDiff, Nat.zero_le, Option.toList_some, Option.toList_none, List.cons_append, List.nil_append, or_true, true_or, or_false, false_or, Nat.reduceEqDiff, not_true_eq_false, not_false_eq_true, false_and, and_false, false_implies, true_implies, implies_true, ne_eq, and_self, ok1, p1', o1', gK_pI, o1, a3, gI_pI_ne (Ne.symm x1), a8]
  refine h _ ?_ ?_ ⟨p1', (kK _).trans p2, ?_, ⟨?_, a4.2⟩, ?_, fun y hy => ?_, a7, ?_⟩
  · refine Fr.tr (Fr.tr ?_ (Fr.pI (Or.inl rfl))) (Fr.pI (Or.inl rfl))
    exact ⟨kK, fun b hb => ⟨kN b, k2 b fun q => hb (Or.inr (Or.inl q))⟩, fun b _ _ => ⟨kN b, kR b⟩⟩
  · exact (hJ.same (fun _ _ _ _ => kN _) kC.2 kC.1).pI.pI
  · rw [gI_pI_eq, if_neg (by decide), gI_pI_eq, if_pos rfl]
  · show yn ≤ gN g2 (p + 1)
    rw [kN]; exact hlen
  · show gN g2 (p + 1) ≤ 1998
    rw [kN]; exact p3
  · rw [gI_pI_ne (Ne.symm hne), gI_pI_ne (Ne.symm hne), kp, pk_cpy_in (Nat.zero_le y) (by omega), Nat.zero_add, Nat.sub_zero]
    exact a6 y hy
  · rw [gI_pI_eq, if_pos rfl]
theorem c_copyFrom {g : mG} {p o yn c j0 j1 : Nat} {r : Nat → Nat} (hc : c < 23) (h0 : j0 < 7) (h1 : j1 < 7) (hpc : p + 1 = rowL c j0) (hoc : o + 1 = rowL c j1) (hpo : p ≠ o ∧ p ≠ o + 1 ∧ o ≠ p + 1) (hS : Scr g) (hP : PermS g p) (hO : PermR g o r yn) (hJ : JR g)
    (h : ∀ g', Fr (XP p) g g' → JR g' → PermR g' p r yn → Q none g') : w_X4_copyFrom [.ref p, .ref o] g Q := by
  refine wm_at rfl ⟨trivial, trivial, trivial⟩ (show WP m_X4_copyFrom Q 0 [.ref p, .ref o] [] g from ?_)
  obtain ⟨a1, a2, a3, a4, a5, a6, a7, a8⟩ := id hO
  obtain ⟨p1, p2⟩ := id hP
  have p3 : gN g (p + 1) ≤ 1998 := by rw [hpc]; exact (hJ.1 c j0 hc h0).2
  obtain ⟨s1, s2⟩ := id hS
  have hp : isP p := ⟨c, j0, hc, h0, hpc⟩
  have ho : isP o := ⟨c, j1, hc, h1, hoc⟩
  obtain ⟨n1, n2, n3⟩ := hp.ne
  obtain ⟨m1, m2, m3⟩ := ho.ne
  simp (disch := omega) only [e_X4_copyFrom_0, e_X4_copyFrom_1, e_X4_copyFrom_4, e_X4_copyFrom_5, e_X4_copyFrom_5n, e_X4_copyFrom_6, e_X4_copyFrom_9, tand, true_and, and_true, nl1_int, nl1_ref, nl1_null, nl1_ra, cat1_int, cat1_ref, cat1_null, stbs_nil, stbs_cons, stb_int, stb_long, stb_ref, stb_null, stb_ra, alv_nil, alv_cons, alv1_int, alv1_ref, alv1_null, alv1_ra, List.length_nil, List.length_cons, Nat.reduceAdd, Nat.reduceLeDiff, Nat.zero_le, Option.toList_some, Option.toList_none, List.cons_append, List.nil_append, or_true, true_or, or_false, false_or, Nat.reduceEqDiff, not_true_eq_false, not_false_eq_true, false_and, and_false, false_implies, true_implies, implies_true, ne_eq, and_self, ok1, a1, a3, p1, p2, nI_leE]
  refine ⟨fun hle => copy_tail hp hpo hP hle hO hJ h, fun hgt => ?_⟩
  simp (disch := omega) only [e_X4_copyFrom_12, e_X4_copyFrom_13, e_X4_copyFrom_13n, e_X4_copyFrom_14, e_X4_copyFrom_17, e_X4_copyFrom_18, tand, true_and, and_true, nl1_int, nl1_ref, nl1_null, nl1_ra, cat1_int, cat1_ref, cat1_null, stbs_nil, stbs_cons, stb_int, stb_long, stb_ref, stb_null, stb_ra, alv_nil, alv_cons, alv1_int, alv1_ref, alv1_null, alv1_ra, List.length_nil, List.length_cons, Nat.reduceAdd, Nat.reduceLeDiff, Nat.zero_le, Option.toList_some, Option.toList_none, List.cons_append, List.nil_append, or_true, true_or, or_false, false_or, Nat.reduceEqDiff, not_true_eq_false, not_false_eq_true, false_and, and_false, false_implies, true_implies, implies_true, ne_eq, and_self, ok1, a1, a2, p1, frsh]
  generalize hm : gN g (o + 1) = m
  refine ⟨9, ⟨⟨s1, by rw [s2]; decide, by decide⟩, ?_, ?_⟩, ?_⟩
  · rw [nI_lt0 (by omega)]; exact fun q => q
  · rw [nI_clamp (by omega)]; omega
  rw [nI_clamp (by omega)]
  generalize hg2 : (nw g 9 12 m m fun _ => 0) = g2
  have k2 : ∀ b, b ≠ 9 → gK g2 b = gK g b ∧ gN g2 b = gN g b ∧ gI g2 b = gI g b ∧ ∀ k, gR g2 b k = gR g b k := by
    intro b hb
    rw [← hg2]
    exact ⟨by rw [gK_nw, if_neg hb], by rw [gN_nw, if_neg hb], by rw [gI_nw, if_neg hb], fun k => by rw [gR_nw, if_neg hb]⟩
  have k9 : gK g2 9 = 12 ∧ gN g2 9 = m := by
    rw [← hg2]
    exact ⟨by rw [gK_nw, if_pos rfl], by rw [gN_nw, if_pos rfl]⟩
  have hC : gC g2 = gC g + 1 ∧ gS g2 = gS g + m := by rw [← hg2]; exact ⟨rfl, rfl⟩
  have b1 : gK g2 p = 5 := (k2 p n2).1.trans p1
  have b2 : gK g2 (p + 1) = 12 := (k2 (p + 1) n3).1.trans p2
  have b3 : gK g2 o = 5 := (k2 o m2).1.trans a1
  have b8 : gK g2 8 = 0 := (k2 8 (by decide)).1.trans s2
  simp (disch := omega) only [e_X4_copyFrom_20, tand, true_and, and_true, nl1_int, nl1_ref, nl1_null, nl1_ra, cat1_int, cat1_ref, cat1_null, stbs_nil, stbs_cons, stb_int, stb_long, stb_ref, stb_null, stb_ra, alv_nil, alv_cons, alv1_int, alv1_ref, alv1_null, alv1_ra, List.length_nil, List.length_cons, Nat.reduceAdd, Nat.reduceLeDiff, Nat.zero_le, Option.toList_some, Option.toList_none, List.cons_append, List.nil_append, or_true, true_or, or_false, false_or, Nat.reduceEqDiff, not_true_eq_false, not_false_eq_true, false_and, and_false, false_implies, true_implies, implies_true, ne_eq, and_self, ok1, b1, b2, b3, k9.1, n3.symm, b8, Nat.reduceSub]
  have hF : Fr (XP p) g (mY g2 p 9) := by
    refine ⟨fun b => ?_, fun b hb => ?_, fun b h9 hk => ?_⟩
    · rw [gK_mY]
      by_cases c1 : b = p + 1
      · rw [if_pos c1, c1, p2]
      · by_cases c2 : b = 9
        · rw [if_neg c1, if_pos c2, c2, s1]
        · rw [if_neg c1, if_neg c2, (k2 b c2).1]
    · have c1 : b ≠ p + 1 := fun q => hb (Or.inr (Or.inl q))
      have c2 : b ≠ 9 := fun q => hb (Or.inr (Or.inr q))
      rw [gN_mY, if_neg c1, gI_mY, if_neg c1]
      exact ⟨(k2 b c2).2.1, (k2 b c2).2.2.1⟩
    · have c1 : b ≠ p + 1 := fun q => hk (by rw [q]; exact p2)
      rw [gN_mY, if_neg c1]
      exact ⟨(k2 b h9).2.1, fun k => by rw [gR_mY, if_neg c1]; exact (k2 b h9).2.2.2 k⟩
  have hN1 : gN (mY g2 p 9) (p + 1) = m := by rw [gN_mY, if_pos rfl]; exact k9.2
  have hJ' : JR (mY g2 p 9) := by
    refine hJ.copy (n := m) (c0 := c) (j0 := j0) (j1 := j1) hc h0 h1 (by rw [← hoc]; exact hm) (by rw [← hpc]; omega) (by rw [← hpc]; exact hN1) (fun c' j' hc' hj' hne => ?_) (by rw [gS_mY]; exact hC.2) (by rw [gC_mY]; exact hC.1)
    have c1 : rowL c' j' ≠ p + 1 := fun q => hne (rowL_inj hc' hc (q.trans hpc))
    have c2 : rowL c' j' ≠ 9 := by unfold rowL; omega
    rw [gN_mY, if_neg c1, (k2 _ c2).2.1]
  obtain ⟨x1, x2, x3⟩ := hpo
  refine copy_tail hp ⟨x1, x2, x3⟩ ⟨by rw [hF.1]; exact p1, by rw [hF.1]; exact p2⟩ (by rw [hN1]; omega) (hO.fr hF (fun z => ?_) (fun z => ?_)) hJ' fun g' f j q => h g' (hF.tr f) j q
  · rcases z with z | z | z <;> omega
  · rcases z with z | z | z <;> omega
end Prow2
