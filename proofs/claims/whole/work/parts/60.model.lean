/-! ===== the model's object: its rows of numbers ===== -/
def mL (b : Nat) : Nat := if b = 44 then 92576 else if b = 45 then 60 else if b = 46 then 80 else 23144
/-- the six rows 41..46 hold A -/
def MD (g : mG) (A : Nat → Nat → Nat) : Prop := (gK g 40 = 8 ∧ ∀ j, j < 6 → gR g 40 j = 41 + j) ∧ ∀ b, 41 ≤ b → b < 47 → gK g b = 11 ∧ gN g b = mL b ∧ ∀ i, i < mL b → gI g b i = nI (A b i)
def XD : Nat → Prop := fun b => 40 ≤ b ∧ b < 47
theorem MD.set {g : mG} {A : Nat → Nat → Nat} (h : MD g A) (b i v : Nat) (hb : 41 ≤ b) (hb2 : b < 47) : MD (pI g b i (nI v)) (u2 A b i v) := by
  refine ⟨h.1, fun a h1 h2 => ?_⟩
  obtain ⟨k1, k2, k3⟩ := h.2 a h1 h2
  refine ⟨k1, k2, fun j hj => ?_⟩
  by_cases ha : a = b
  · subst ha
    rw [gI_pI_eq, u2_eq]
    unfold u1
    by_cases hji : j = i
    · rw [if_pos hji, if_pos hji]
    · rw [if_neg hji, if_neg hji]; exact k3 j hj
  · rw [gI_pI_ne ha, u2_ne ha]; exact k3 j hj
theorem MD.fld {g : mG} {A : Nat → Nat → Nat} (h : MD g A) (k : Nat) (v : Int32) : MD (pI g 40 k v) A := by
  refine ⟨h.1, fun a h1 h2 => ?_⟩
  obtain ⟨k1, k2, k3⟩ := h.2 a h1 h2
  exact ⟨k1, k2, fun j hj => by rw [gI_pI_ne (by omega)]; exact k3 j hj⟩
theorem MD.now {g : mG} {A : Nat → Nat → Nat} (h : MD g A) : gK g 40 = 8 ∧ gR g 40 0 = 41 ∧ gK g 41 = 11 ∧ gN g 41 = 23144 ∧ ∀ i, i < 23144 → gI g 41 i = nI (A 41 i) := ⟨h.1.1, h.1.2 0 (by decide), (h.2 41 (by decide) (by decide)).1, (h.2 41 (by decide) (by decide)).2.1, (h.2 41 (by decide) (by decide)).2.2⟩
section Mod
variable {g : mG} {Q : mQ} {A : Nat → Nat → Nat}
theorem c_X7_in {v a b : Int32} (q1 : a ≤ v → v ≤ b → Q (some (.int (nI 1))) g) (q0 : ¬ (a ≤ v ∧ v ≤ b) → Q (some (.int (nI 0))) g) : w_X7_in [.int v, .int a, .int b] g Q := by
  refine wm_at rfl ⟨trivial, trivial, trivial, trivial⟩ (show WP m_X7_in Q 0 [.int v, .int a, .int b] [] g from ?_)
  simp only [e_X7_in_0, e_X7_in_1, e_X7_in_2, e_X7_in_5, e_X7_in_6, e_X7_in_7, e_X7_in_10, e_X7_in_11, e_X7_in_14, e_X7_in_15, tand, true_and, and_true, nl1_int, nl1_ref, nl1_null, nl1_ra, cat1_int, cat1_ref, cat1_null, stbs_nil, stbs_cons, stb_int, stb_long, stb_ref, stb_null, stb_ra, alv_nil, alv_cons, alv1_int, alv1_ref, alv1_null, alv1_ra, List.length_nil, List.length_cons, Nat.reduceAdd, Nat.reduceLeDiff, Nat.zero_le, Option.toList_some, Option.toList_none, List.cons_append, List.nil_append, or_true, true_or, or_false, false_or, Nat.reduceEqDiff, not_true_eq_false, not_false_eq_true, false_and, and_false, false_implies, true_implies, implies_true, ne_eq, and_self, ok1, bE0, bE1]
  refine ⟨fun h => q0 fun z => Int32.not_le.mpr h z.1, fun h => ⟨fun h2 => q0 fun z => Int32.not_le.mpr h2 z.2, fun h2 => q1 (Int32.not_lt.mp h) (Int32.not_lt.mp h2)⟩⟩
theorem c_X7_isKiln {v : Int32} (q1 : ∀ k, k < 6 → v = nI k → Q (some (.int (nI 1))) g) (q0 : (∀ k, k < 6 → v ≠ nI k) → Q (some (.int (nI 0))) g) : w_X7_isKiln [.int v] g Q := by
  refine wm_at rfl ⟨trivial, trivial⟩ (show WP m_X7_isKiln Q 0 [.int v] [] g from ?_)
  simp only [e_X7_isKiln_0, e_X7_isKiln_1, e_X7_isKiln_2, e_X7_isKiln_3, tand, true_and, and_true, nl1_int, nl1_ref, nl1_null, nl1_ra, cat1_int, cat1_ref, cat1_null, stbs_nil, stbs_cons, stb_int, stb_long, stb_ref, stb_null, stb_ra, alv_nil, alv_cons, alv1_int, alv1_ref, alv1_null, alv1_ra, List.length_nil, List.length_cons, Nat.reduceAdd, Nat.reduceLeDiff, Nat.zero_le, Option.toList_some, Option.toList_none, List.cons_append, List.nil_append, or_true, true_or, or_false, false_or, Nat.reduceEqDiff, not_true_eq_false, not_false_eq_true, false_and, and_false, false_implies, true_implies, implies_true, ne_eq, and_self, ok1]
  refine c_X7_in (fun h1 h2 => ?_) (fun hn => ?_)
  · obtain ⟨k, ek, _, k2⟩ := nI_ex (a := 0) (by omega) h1 h2 (by omega)
    simp only [e_X7_isKiln_6, tand, true_and, and_true, nl1_int, nl1_ref, nl1_null, nl1_ra, cat1_int, cat1_ref, cat1_null, stbs_nil, stbs_cons, stb_int, stb_long, stb_ref, stb_null, stb_ra, alv_nil, alv_cons, alv1_int, alv1_ref, alv1_null, alv1_ra, List.length_nil, List.length_cons, Nat.reduceAdd, Nat.reduceLeDiff, Nat.zero_le, Option.toList_some, Option.toList_none, List.cons_append, List.nil_append, or_true, true_or, or_false, false_or, Nat.reduceEqDiff, not_true_eq_false, not_false_eq_true, false_and, and_false, false_implies, true_implies, implies_true, ne_eq, and_self, ok1, bE1]
    exact q1 k (by omega) ek
  · simp only [e_X7_isKiln_6, tand, true_and, and_true, nl1_int, nl1_ref, nl1_null, nl1_ra, cat1_int, cat1_ref, cat1_null, stbs_nil, stbs_cons, stb_int, stb_long, stb_ref, stb_null, stb_ra, alv_nil, alv_cons, alv1_int, alv1_ref, alv1_null, alv1_ra, List.length_nil, List.length_cons, Nat.reduceAdd, Nat.reduceLeDiff, Nat.zero_le, Option.toList_some, Option.toList_none, List.cons_append, List.nil_append, or_true, true_or, or_false, false_or, Nat.reduceEqDiff, not_true_eq_false, not_false_eq_true, false_and, and_false, false_implies, true_implies, implies_true, ne_eq, and_self, ok1, bE0]
    refine q0 fun k hk e => hn ?_
    exact (nI_range (a := 0) (b := 5) (by omega) (by omega)).mp ⟨k, e, Nat.zero_le _, by omega⟩
theorem c_X7_own {k : Nat} (q : Q (some (.int (nI (144 + 1000 * k)))) g) : w_X7_own [.int (nI k)] g Q := by
  refine wm_at rfl ⟨trivial, trivial⟩ (show WP m_X7_own Q 0 [.int (nI k)] [] g from ?_)
  simp only [e_X7_own_0, e_X7_own_3, e_X7_own_6, e_X7_own_7, e_X7_own_8, e_X7_own_9, tand, true_and, and_true, nl1_int, nl1_ref, nl1_null, nl1_ra, cat1_int, cat1_ref, cat1_null, stbs_nil, stbs_cons, stb_int, stb_long, stb_ref, stb_null, stb_ra, alv_nil, alv_cons, alv1_int, alv1_ref, alv1_null, alv1_ra, List.length_nil, List.length_cons, Nat.reduceAdd, Nat.reduceLeDiff, Nat.zero_le, Option.toList_some, Option.toList_none, List.cons_append, List.nil_append, or_true, true_or, or_false, false_or, Nat.reduceEqDiff, not_true_eq_false, not_false_eq_true, false_and, and_false, false_implies, true_implies, implies_true, ne_eq, and_self, ok1, pk_mul, nI_add]
  exact q
theorem c_X7_offer {k : Nat} (q : Q (some (.int (nI (6144 + 1000 * k)))) g) : w_X7_offer [.int (nI k)] g Q := by
  refine wm_at rfl ⟨trivial, trivial⟩ (show WP m_X7_offer Q 0 [.int (nI k)] [] g from ?_)
  simp only [e_X7_offer_0, e_X7_offer_3, e_X7_offer_6, e_X7_offer_7, e_X7_offer_8, e_X7_offer_9, tand, true_and, and_true, nl1_int, nl1_ref, nl1_null, nl1_ra, cat1_int, cat1_ref, cat1_null, stbs_nil, stbs_cons, stb_int, stb_long, stb_ref, stb_null, stb_ra, alv_nil, alv_cons, alv1_int, alv1_ref, alv1_null, alv1_ra, List.length_nil, List.length_cons, Nat.reduceAdd, Nat.reduceLeDiff, Nat.zero_le, Option.toList_some, Option.toList_none, List.cons_append, List.nil_append, or_true, true_or, or_false, false_or, Nat.reduceEqDiff, not_true_eq_false, not_false_eq_true, false_and, and_false, false_implies, true_implies, implies_true, ne_eq, and_self, ok1, pk_mul, nI_add]
  exact q
end Mod
