/-! ===== the model's object: its rows of numbers ===== -/
def mL (b : Nat) : Nat := if b = 44 then 92576 else if b = 45 then 60 else if b = 46 then 80 else 23144
/-- the six rows 41..46 hold A -/
def MD (g : mG) (A : Nat → Nat → Nat) : Prop := (gK g 40 = 8 ∧ ∀ j, j < 6 → gR g 40 j = 41 + j) ∧ ∀ b, 41 ≤ b → b < 47 → gK g b = 11 ∧ gN g b = mL b ∧ ∀ i, i < mL b → gI g b i = nI (A b i)
def XD : Nat → Prop := fun b => 40 ≤ b ∧ b < 47
/-- ints of the model change, nothing else -/
def FX (g g' : mG) : Prop := (∀ b, gK g' b = gK g b) ∧ (∀ b, gN g' b = gN g b) ∧ (∀ b k, gR g' b k = gR g b k) ∧ (gC g' = gC g ∧ gS g' = gS g) ∧ ∀ b, ¬ XD b → gI g' b = gI g b
theorem FX.rf {g : mG} : FX g g := ⟨fun _ => rfl, fun _ => rfl, fun _ _ => rfl, ⟨rfl, rfl⟩, fun _ _ => rfl⟩
theorem FX.tr {g g1 g2 : mG} (h : FX g g1) (h2 : FX g1 g2) : FX g g2 := ⟨fun b => (h2.1 b).trans (h.1 b), fun b => (h2.2.1 b).trans (h.2.1 b), fun b k => (h2.2.2.1 b k).trans (h.2.2.1 b k), ⟨h2.2.2.2.1.1.trans h.2.2.2.1.1, h2.2.2.2.1.2.trans h.2.2.2.1.2⟩, fun b hb => (h2.2.2.2.2 b hb).trans (h.2.2.2.2 b hb)⟩
theorem FX.pI {g g' : mG} (h : FX g g') {b k : Nat} {v : Int32} (hb : XD b) : FX g (pI g' b k v) := h.tr ⟨fun _ => rfl, fun _ => rfl, fun _ _ => rfl, ⟨rfl, rfl⟩, fun c hc => gI_pI_ne fun q => hc (by rw [q]; exact hb)⟩
theorem XD.of {b : Nat} (h1 : 40 ≤ b) (h2 : b < 47) : XD b := ⟨h1, h2⟩
theorem z41 : (41 : Nat) ≠ 0 := by decide
theorem gI_same {g : mG} {a k : Nat} {v : Int32} : gI (pI g a k v) a k = v := by rw [gI_pI_eq, if_pos rfl]
theorem gI_diff {g : mG} {a k j : Nat} {v : Int32} (h : j ≠ k) : gI (pI g a k v) a j = gI g a j := by rw [gI_pI_eq, if_neg h]
theorem vpT {n N : Nat} (h : n < N) (hN : N < 2 ^ 31) : vp_in (nI n) N = True := by rw [nI_vp (by omega) hN]; exact propext ⟨fun _ => trivial, fun _ => h⟩
theorem MD.set {g : mG} {A : Nat → Nat → Nat} (h : MD g A) (b i v : Nat) : MD (pI g b i (nI v)) (u2 A b i v) := by
  refine ⟨h.1, fun a h1 h2 => ?_⟩
  obtain ⟨k1, k2, k3⟩ := h.2 a h1 h2
  refine ⟨k1, k2, fun j hj => ?_⟩
  by_cases ha : a = b
  · subst ha
    rw [gI_pI_eq, u2_eq]
    unfold u1
    by_cases hji : j = i
    · rw [if_pos hji, if_pos hji]
    · rw [if_neg hji, if_neg hji]; exact k3 j hj
  · rw [gI_pI_ne ha, u2_ne ha]; exact k3 j hj
theorem MD.fld {g : mG} {A : Nat → Nat → Nat} (h : MD g A) (k : Nat) (v : Int32) : MD (pI g 40 k v) A := by
  refine ⟨h.1, fun a h1 h2 => ?_⟩
  obtain ⟨k1, k2, k3⟩ := h.2 a h1 h2
  exact ⟨k1, k2, fun j hj => by rw [gI_pI_ne (by omega)]; exact k3 j hj⟩
theorem MD.ext {g : mG} {A B : Nat → Nat → Nat} (h : MD g A) (e : ∀ b i, 41 ≤ b → b < 47 → i < mL b → B b i = A b i) : MD g B := ⟨h.1, fun a h1 h2 => ⟨(h.2 a h1 h2).1, (h.2 a h1 h2).2.1, fun i hi => by rw [e a i h1 h2 hi]; exact (h.2 a h1 h2).2.2 i hi⟩⟩
theorem MD.row {g : mG} {A : Nat → Nat → Nat} (h : MD g A) (b : Nat) (h1 : 41 ≤ b) (h2 : b < 47) : gK g b = 11 ∧ gN g b = mL b ∧ ∀ i, i < mL b → gI g b i = nI (A b i) := h.2 b h1 h2
/-- within a method of the model: its row is a now, the other rows are A0's, its own ints are g0's -/
def MT (g0 g : mG) (A0 : Nat → Nat → Nat) (a : Nat → Nat) : Prop := FX g0 g ∧ MD g (ur A0 41 a) ∧ gI g 40 = gI g0 40
theorem u2_ur {A : Nat → Nat → Nat} {a : Nat → Nat} {b i v : Nat} : u2 (ur A b a) b i v = ur A b (u1 a i v) := by
  funext c
  by_cases h : c = b
  · rw [h, u2_eq, ur_eq, ur_eq]
  · rw [u2_ne h, ur_ne h, ur_ne h]
section MTs
variable {g0 g : mG} {A0 : Nat → Nat → Nat} {a : Nat → Nat}
theorem MT.of {A : Nat → Nat → Nat} (h : MD g A) : MT g g A (A 41) := ⟨FX.rf, h.ext fun b i _ _ _ => by
  by_cases e : b = 41
  · rw [e, ur_eq]
  · rw [ur_ne e], rfl⟩
theorem MT.set (h : MT g0 g A0 a) (i v : Nat) : MT g0 (pI g 41 i (nI v)) A0 (u1 a i v) := ⟨h.1.pI (XD.of (by decide) (by decide)), by rw [← u2_ur]; exact h.2.1.set 41 i v, by rw [gI_pI_ne (by decide)]; exact h.2.2⟩
theorem MT.ext {b : Nat → Nat} (h : MT g0 g A0 a) (e : ∀ i, i < 23144 → b i = a i) : MT g0 g A0 b := ⟨h.1, h.2.1.ext fun c i _ _ hi => by
  by_cases ec : c = 41
  · subst ec
    rw [ur_eq, ur_eq]
    exact e i hi
  · rw [ur_ne ec, ur_ne ec], h.2.2⟩
theorem MT.k40 (h : MT g0 g A0 a) : gK g 40 = 8 := h.2.1.1.1
theorem MT.r40 (h : MT g0 g A0 a) : gR g 40 0 = 41 := h.2.1.1.2 0 (by decide)
theorem MT.k41 (h : MT g0 g A0 a) : gK g 41 = 11 := (h.2.1.row 41 (by decide) (by decide)).1
theorem MT.n41 (h : MT g0 g A0 a) : gN g 41 = 23144 := (h.2.1.row 41 (by decide) (by decide)).2.1
theorem MT.rd (h : MT g0 g A0 a) (i : Nat) (hi : i < 23144) : gI g 41 i = nI (a i) := by
  have := (h.2.1.row 41 (by decide) (by decide)).2.2 i hi
  rw [ur_eq] at this
  exact this
theorem MT.wp {m : List (Nat × mT)} {Q : mQ} {pc i v : Nat} {ls st : List Value} (M : MT g0 g A0 a) (h : ∀ g1, MT g0 g1 A0 (u1 a i v) → WP m Q pc ls st g1) : WP m Q pc ls st (pI g 41 i (nI v)) := h _ (M.set i v)
theorem MT.end {A : Nat → Nat → Nat} (h : MT g g A (A 41)) {g' : mG} (h2 : MT g g' A a) : FX g g' ∧ MD g' (ur A 41 a) := ⟨h2.1, h2.2.1⟩
end MTs
section Mod
variable {g : mG} {Q : mQ}
theorem c_X7_in {v a b : Int32} (q1 : a ≤ v → v ≤ b → Q (some (.int (nI 1))) g) (q0 : ¬ (a ≤ v ∧ v ≤ b) → Q (some (.int (nI 0))) g) : w_X7_in [.int v, .int a, .int b] g Q := by
  refine wm_at rfl ⟨trivial, trivial, trivial, trivial⟩ (show WP m_X7_in Q 0 [.int v, .int a, .int b] [] g from ?_)
  simp only [e_X7_in_0, e_X7_in_1, e_X7_in_2, e_X7_in_5, e_X7_in_6, e_X7_in_7, e_X7_in_10, e_X7_in_11, e_X7_in_14, e_X7_in_15, tand, true_and, and_true, nl1_int, nl1_ref, nl1_null, nl1_ra, cat1_int, cat1_ref, cat1_null, stbs_nil, stbs_cons, stb_int, stb_long, stb_ref, stb_null, stb_ra, alv_nil, alv_cons, alv1_int, alv1_ref, alv1_null, alv1_ra, List.length_nil, List.length_cons, Nat.reduceAdd, Nat.reduceLeDiff, Nat.zero_le, Option.toList_some, Option.toList_none, List.cons_append, List.nil_append, or_true, true_or, or_false, false_or, Nat.reduceEqDiff, not_true_eq_false, not_false_eq_true, false_and, and_false, false_implies, true_implies, implies_true, ne_eq, and_self, ok1, bE0, bE1]
  refine ⟨fun h => q0 fun z => Int32.not_le.mpr h z.1, fun h => ⟨fun h2 => q0 fun z => Int32.not_le.mpr h2 z.2, fun h2 => q1 (Int32.not_lt.mp h) (Int32.not_lt.mp h2)⟩⟩
/-- a range of numbers -/
theorem c_X7_inN {v : Int32} {a b : Nat} (ha : a < 2 ^ 31) (hb : b < 2 ^ 31) (q1 : ∀ n, v = nI n → a ≤ n → n ≤ b → Q (some (.int (nI 1))) g) (q0 : (¬ ∃ n, v = nI n ∧ a ≤ n ∧ n ≤ b) → Q (some (.int (nI 0))) g) : w_X7_in [.int v, .int (nI a), .int (nI b)] g Q := by
  refine c_X7_in (fun h1 h2 => ?_) (fun hn => q0 fun z => hn ((nI_range ha hb).mp z))
  obtain ⟨k, ek, k1, k2⟩ := nI_ex hb h1 h2 ha
  exact q1 k ek k1 k2
theorem c_X7_isKiln {v : Int32} (q1 : ∀ k, k < 6 → v = nI k → Q (some (.int (nI 1))) g) (q0 : (∀ k, k < 6 → v ≠ nI k) → Q (some (.int (nI 0))) g) : w_X7_isKiln [.int v] g Q := by
  refine wm_at rfl ⟨trivial, trivial⟩ (show WP m_X7_isKiln Q 0 [.int v] [] g from ?_)
  simp only [e_X7_isKiln_0, e_X7_isKiln_1, e_X7_isKiln_2, e_X7_isKiln_3, tand, true_and, and_true, nl1_int, nl1_ref, nl1_null, nl1_ra, cat1_int, cat1_ref, cat1_null, stbs_nil, stbs_cons, stb_int, stb_long, stb_ref, stb_null, stb_ra, alv_nil, alv_cons, alv1_int, alv1_ref, alv1_null, alv1_ra, List.length_nil, List.length_cons, Nat.reduceAdd, Nat.reduceLeDiff, Nat.zero_le, Option.toList_some, Option.toList_none, List.cons_append, List.nil_append, or_true, true_or, or_false, false_or, Nat.reduceEqDiff, not_true_eq_false, not_false_eq_true, false_and, and_false, false_implies, true_implies, implies_true, ne_eq, and_self, ok1]
  refine c_X7_inN (by omega) (by omega) (fun k ek _ k2 => ?_) (fun hn => ?_)
  · simp only [e_X7_isKiln_6, tand, true_and, and_true, nl1_int, nl1_ref, nl1_null, nl1_ra, cat1_int, cat1_ref, cat1_null, stbs_nil, stbs_cons, stb_int, stb_long, stb_ref, stb_null, stb_ra, alv_nil, alv_cons, alv1_int, alv1_ref, alv1_null, alv1_ra, List.length_nil, List.length_cons, Nat.reduceAdd, Nat.reduceLeDiff, Nat.zero_le, Option.toList_some, Option.toList_none, List.cons_append, List.nil_append, or_true, true_or, or_false, false_or, Nat.reduceEqDiff, not_true_eq_false, not_false_eq_true, false_and, and_false, false_implies, true_implies, implies_true, ne_eq, and_self, ok1, bE1]
    exact q1 k (by omega) ek
  · simp only [e_X7_isKiln_6, tand, true_and, and_true, nl1_int, nl1_ref, nl1_null, nl1_ra, cat1_int, cat1_ref, cat1_null, stbs_nil, stbs_cons, stb_int, stb_long, stb_ref, stb_null, stb_ra, alv_nil, alv_cons, alv1_int, alv1_ref, alv1_null, alv1_ra, List.length_nil, List.length_cons, Nat.reduceAdd, Nat.reduceLeDiff, Nat.zero_le, Option.toList_some, Option.toList_none, List.cons_append, List.nil_append, or_true, true_or, or_false, false_or, Nat.reduceEqDiff, not_true_eq_false, not_false_eq_true, false_and, and_false, false_implies, true_implies, implies_true, ne_eq, and_self, ok1, bE0]
    exact q0 fun k hk e => hn ⟨k, e, Nat.zero_le _, by omega⟩
theorem c_X7_own {k : Nat} (q : Q (some (.int (nI (144 + 1000 * k)))) g) : w_X7_own [.int (nI k)] g Q := by
  refine wm_at rfl ⟨trivial, trivial⟩ (show WP m_X7_own Q 0 [.int (nI k)] [] g from ?_)
  simp only [e_X7_own_0, e_X7_own_3, e_X7_own_6, e_X7_own_7, e_X7_own_8, e_X7_own_9, tand, true_and, and_true, nl1_int, nl1_ref, nl1_null, nl1_ra, cat1_int, cat1_ref, cat1_null, stbs_nil, stbs_cons, stb_int, stb_long, stb_ref, stb_null, stb_ra, alv_nil, alv_cons, alv1_int, alv1_ref, alv1_null, alv1_ra, List.length_nil, List.length_cons, Nat.reduceAdd, Nat.reduceLeDiff, Nat.zero_le, Option.toList_some, Option.toList_none, List.cons_append, List.nil_append, or_true, true_or, or_false, false_or, Nat.reduceEqDiff, not_true_eq_false, not_false_eq_true, false_and, and_false, false_implies, true_implies, implies_true, ne_eq, and_self, ok1, pk_mul, nI_add]
  exact q
theorem c_X7_offer {k : Nat} (q : Q (some (.int (nI (6144 + 1000 * k)))) g) : w_X7_offer [.int (nI k)] g Q := by
  refine wm_at rfl ⟨trivial, trivial⟩ (show WP m_X7_offer Q 0 [.int (nI k)] [] g from ?_)
  simp only [e_X7_offer_0, e_X7_offer_3, e_X7_offer_6, e_X7_offer_7, e_X7_offer_8, e_X7_offer_9, tand, true_and, and_true, nl1_int, nl1_ref, nl1_null, nl1_ra, cat1_int, cat1_ref, cat1_null, stbs_nil, stbs_cons, stb_int, stb_long, stb_ref, stb_null, stb_ra, alv_nil, alv_cons, alv1_int, alv1_ref, alv1_null, alv1_ra, List.length_nil, List.length_cons, Nat.reduceAdd, Nat.reduceLeDiff, Nat.zero_le, Option.toList_some, Option.toList_none, List.cons_append, List.nil_append, or_true, true_or, or_false, false_or, Nat.reduceEqDiff, not_true_eq_false, not_false_eq_true, false_and, and_false, false_implies, true_implies, implies_true, ne_eq, and_self, ok1, pk_mul, nI_add]
  exact q
end Mod
