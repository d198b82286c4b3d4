/-! ===== permits by years ===== -/
/-- the same but for the ints of X; rows that move, and label 9, may change their length -/
def Fr (X : Nat → Prop) (g g' : mG) : Prop := (∀ b, gK g' b = gK g b) ∧ (∀ b, ¬ X b → gN g' b = gN g b ∧ gI g' b = gI g b) ∧ ∀ b, b ≠ 9 → gK g b ≠ 12 → gN g' b = gN g b ∧ ∀ k, gR g' b k = gR g b k
theorem Fr.rf {X : Nat → Prop} {g : mG} : Fr X g g := ⟨fun _ => rfl, fun _ _ => ⟨rfl, rfl⟩, fun _ _ _ => ⟨rfl, fun _ => rfl⟩⟩
theorem Fr.tr {X : Nat → Prop} {g g1 g2 : mG} (h1 : Fr X g g1) (h2 : Fr X g1 g2) : Fr X g g2 := ⟨fun b => (h2.1 b).trans (h1.1 b), fun b hb => ⟨(h2.2.1 b hb).1.trans (h1.2.1 b hb).1, (h2.2.1 b hb).2.trans (h1.2.1 b hb).2⟩, fun b h9 hk => by
  have hk1 : gK g1 b ≠ 12 := by rw [h1.1]; exact hk
  exact ⟨(h2.2.2 b h9 hk1).1.trans (h1.2.2 b h9 hk).1, fun k => ((h2.2.2 b h9 hk1).2 k).trans ((h1.2.2 b h9 hk).2 k)⟩⟩
theorem Fr.up {X Y : Nat → Prop} {g g1 : mG} (h : Fr X g g1) (hXY : ∀ b, X b → Y b) : Fr Y g g1 := ⟨h.1, fun b hb => h.2.1 b fun q => hb (hXY b q), h.2.2⟩
theorem Fr.pI {X : Nat → Prop} {g : mG} {a k : Nat} {v : Int32} (ha : X a) : Fr X g (pI g a k v) := ⟨fun _ => rfl, fun b hb => ⟨rfl, gI_pI_ne fun q => hb (by rw [q]; exact ha)⟩, fun _ _ _ => ⟨rfl, fun _ => rfl⟩⟩
def rt (r : Nat → Nat) : Nat := sm r 2000
def rad (r : Nat → Nat) (y n : Nat) : Nat → Nat := fun z => if z = y then r z + n else r z
def isP (p : Nat) : Prop := ∃ c j, c < 23 ∧ j < 7 ∧ p + 1 = rowL c j
theorem isP.big {p : Nat} (h : isP p) : 100 ≤ p := by
  obtain ⟨c, j, h1, h2, h3⟩ := h
  unfold rowL at h3
  split at h3 <;> omega
def Scr (g : mG) : Prop := gK g 9 = 0 ∧ gK g 8 = 0
theorem Scr.fr {X : Nat → Prop} {g g' : mG} (h : Scr g) (hF : Fr X g g') : Scr g' := ⟨(hF.1 9).trans h.1, (hF.1 8).trans h.2⟩
/-- the row r, of yn years, and a total t -/
def PermX (g : mG) (p : Nat) (r : Nat → Nat) (yn t : Nat) : Prop :=
  gK g p = 5 ∧ gK g (p + 1) = 12 ∧ gI g p 1 = nI yn ∧ (yn ≤ gN g (p + 1) ∧ yn ≤ 1000) ∧ gN g (p + 1) ≤ 1998 ∧ (∀ y, y < yn → gI g (p + 1) y = nI (r y)) ∧ (∀ y, yn ≤ y → r y = 0) ∧ gI g p 2 = nI t
abbrev PermR (g : mG) (p : Nat) (r : Nat → Nat) (yn : Nat) : Prop := PermX g p r yn (rt r)
theorem PermX.fr {X : Nat → Prop} {g g' : mG} {p : Nat} {r : Nat → Nat} {yn t : Nat} (h : PermX g p r yn t) (hF : Fr X g g') (h1 : ¬ X p) (h2 : ¬ X (p + 1)) : PermX g' p r yn t := by
  obtain ⟨a1, a2, a3, a4, a5, a6, a7, a8⟩ := h
  obtain ⟨f1, f2⟩ := hF.2.1 p h1
  obtain ⟨f4, f5⟩ := hF.2.1 (p + 1) h2
  exact ⟨by rw [hF.1]; exact a1, by rw [hF.1]; exact a2, by rw [f2]; exact a3, by rw [f4]; exact a4, by rw [f4]; exact a5, fun y hy => by rw [f5]; exact a6 y hy, a7, by rw [f2]; exact a8⟩
theorem rt_rad {r : Nat → Nat} {y n : Nat} (hy : y < 2000) : rt (rad r y n) = rt r + n := by
  have h := sm_upd (f := r) (g := rad r y n) (a := y) 2000 hy (fun i _ hi => by simp [rad, hi])
  have e : rad r y n y = r y + n := by simp [rad]
  unfold rt
  omega
theorem rt_ge {r : Nat → Nat} {y : Nat} (hy : y < 2000) : r y ≤ rt r := sm_ge 2000 hy
def XP (p : Nat) : Nat → Prop := fun b => b = p ∨ b = p + 1 ∨ b = 9
theorem JR.pI {g : mG} {a k : Nat} {v : Int32} (h : JR g) : JR (pI g a k v) := h.same (fun _ _ _ _ => rfl) rfl rfl
section Padd
variable {g : mG} {p y n yn : Nat} {r : Nat → Nat} {Q : mQ}
theorem add_tail (hP : PermR g p r yn) (hy : y < yn) (hn : n < 2 ^ 30) (hyb : y < 1000) (hJ : JR g)
    (h : ∀ g', Fr (XP p) g g' → JR g' → PermR g' p (rad r y n) yn → Q none g') : WP m_X4_add Q 80 [.ref p, .int (nI y), .int (nI n)] [] g := by
  obtain ⟨a1, a2, a3, a4, a5, a6, a7, a8⟩ := hP
  have hlt : y < gN g (p + 1) := by omega
  have hne : p ≠ p + 1 := by omega
  simp (disch := omega) only [e_X4_add_80, e_X4_add_81, e_X4_add_84, e_X4_add_85, e_X4_add_86, e_X4_add_87, e_X4_add_88, e_X4_add_89, e_X4_add_90, e_X4_add_91, e_X4_add_92, e_X4_add_95, e_X4_add_96, e_X4_add_97, e_X4_add_100, tand, true_and, and_true, nl1_int, nl1_ref, nl1_null, nl1_ra, cat1_int, cat1_ref, cat1_null, stbs_nil, stbs_cons, stb_int, stb_long, stb_ref, stb_null, stb_ra, alv_nil, alv_cons, alv1_int, alv1_ref, alv1_null, alv1_ra, List.length_nil, List.length_cons, Nat.reduceAdd, Nat.reduceLeDiff, Nat.zero_le, Option.toList_some, Option.toList_none, List.cons_append, List.nil_append, or_true, true_or, or_false, false_or, Nat.reduceEqDiff, not_true_eq_false, not_false_eq_true, false_and, and_false, false_implies, true_implies, implies_true, ne_eq, and_self, ok1, a1, a2, isIA, gK_pI, gN_pI, nI_vp, hlt, nI_clamp, gI_pI_ne hne, a8, a6 y hy, nI_add]
  refine h _ ((Fr.pI (Or.inr (Or.inl rfl))).tr (Fr.pI (Or.inl rfl))) hJ.pI.pI ⟨a1, a2, ?_, a4, a5, fun z hz => ?_, fun z hz => ?_, ?_⟩
  · rw [gI_pI_eq, if_neg (by decide), gI_pI_ne hne]; exact a3
  · rw [gI_pI_ne (Ne.symm hne), gI_pI_eq]
    unfold rad
    by_cases hzy : z = y
    · rw [if_pos hzy, if_pos hzy, hzy]
    · rw [if_neg hzy, if_neg hzy]; exact a6 z hz
  · unfold rad
    rw [if_neg (by omega)]
    exact a7 z hz
  · rw [gI_pI_eq, if_pos rfl, rt_rad (by omega)]
theorem add_loop : ∀ (k : Nat) {g : mG} {yn : Nat}, yn + k = y + 1 ∨ (k = 0 ∧ y < yn) → PermR g p r yn → y < gN g (p + 1) → y < 1000 → n < 2 ^ 30 → JR g →
    (∀ g' yn', Fr (XP p) g g' → JR g' → PermR g' p (rad r y n) yn' → Q none g') → WP m_X4_add Q 49 [.ref p, .int (nI y), .int (nI n)] [] g := by
  intro k
  induction k with
  | zero =>
    intro g yn hk hP hyl hyb hn hJ h
    obtain ⟨a1, a2, a3, a4, a5, a6, a7, a8⟩ := id hP
    simp (disch := omega) only [e_X4_add_49, e_X4_add_50, e_X4_add_53, e_X4_add_54, tand, true_and, and_true, nl1_int, nl1_ref, nl1_null, nl1_ra, cat1_int, cat1_ref, cat1_null, stbs_nil, stbs_cons, stb_int, stb_long, stb_ref, stb_null, stb_ra, alv_nil, alv_cons, alv1_int, alv1_ref, alv1_null, alv1_ra, List.length_nil, List.length_cons, Nat.reduceAdd, Nat.reduceLeDiff, Nat.zero_le, Option.toList_some, Option.toList_none, List.cons_append, List.nil_append, or_true, true_or, or_false, false_or, Nat.reduceEqDiff, not_true_eq_false, not_false_eq_true, false_and, and_false, false_implies, true_implies, implies_true, ne_eq, and_self, ok1, a1, a3, nI_ltE]
    exact ⟨fun _ => add_tail hP (by omega) hn hyb hJ (fun g' f j q => h g' yn f j q), fun q => absurd (show y < yn by omega) q⟩
  | succ k ih =>
    intro g yn hk hP hyl hyb hn hJ h
    obtain ⟨a1, a2, a3, a4, a5, a6, a7, a8⟩ := id hP
    have hne : p ≠ p + 1 := by omega
    have hlt : yn < gN g (p + 1) := by omega
    have hyy : ¬ y < yn := by omega
    simp (disch := omega) only [e_X4_add_49, e_X4_add_50, e_X4_add_53, e_X4_add_54, tand, true_and, and_true, nl1_int, nl1_ref, nl1_null, nl1_ra, cat1_int, cat1_ref, cat1_null, stbs_nil, stbs_cons, stb_int, stb_long, stb_ref, stb_null, stb_ra, alv_nil, alv_cons, alv1_int, alv1_ref, alv1_null, alv1_ra, List.length_nil, List.length_cons, Nat.reduceAdd, Nat.reduceLeDiff, Nat.zero_le, Option.toList_some, Option.toList_none, List.cons_append, List.nil_append, or_true, true_or, or_false, false_or, Nat.reduceEqDiff, not_true_eq_false, not_false_eq_true, false_and, and_false, false_implies, true_implies, implies_true, ne_eq, and_self, ok1, a1, a3, nI_ltE, hyy]
    simp (disch := omega) only [e_X4_add_57, e_X4_add_58, e_X4_add_61, e_X4_add_62, e_X4_add_65, e_X4_add_66, e_X4_add_67, e_X4_add_68, e_X4_add_69, e_X4_add_72, e_X4_add_73, e_X4_add_74, e_X4_add_77, tand, true_and, and_true, nl1_int, nl1_ref, nl1_null, nl1_ra, cat1_int, cat1_ref, cat1_null, stbs_nil, stbs_cons, stb_int, stb_long, stb_ref, stb_null, stb_ra, alv_nil, alv_cons, alv1_int, alv1_ref, alv1_null, alv1_ra, List.length_nil, List.length_cons, Nat.reduceAdd, Nat.reduceLeDiff, Nat.zero_le, Option.toList_some, Option.toList_none, List.cons_append, List.nil_append, or_true, true_or, or_false, false_or, Nat.reduceEqDiff, not_true_eq_false, not_false_eq_true, false_and, and_false, false_implies, true_implies, implies_true, ne_eq, and_self, ok1, a1, a2, a3, gK_pI, gN_pI, nI_vp, nI_clamp, gI_pI_ne hne, hlt, nI_add]
    have hP' : PermR (pI (pI g (p + 1) yn (nI 0)) p 1 (nI (yn + 1))) p r (yn + 1) := by
      refine ⟨a1, a2, by rw [gI_pI_eq, if_pos rfl], ⟨hlt, by omega⟩, a5, fun z hz => ?_, fun z hz => a7 z (by omega), ?_⟩
      · rw [gI_pI_ne (Ne.symm hne), gI_pI_eq]
        by_cases hzy : z = yn
        · rw [if_pos hzy, a7 z (by omega)]
        · rw [if_neg hzy]; exact a6 z (by omega)
      · rw [gI_pI_eq, if_neg (by decide), gI_pI_ne hne]; exact a8
    refine ih (by omega) hP' hyl hyb hn hJ.pI.pI fun g' yn' f j q => h g' yn' (Fr.tr ?_ f) j q
    exact (Fr.pI (Or.inr (Or.inl rfl))).tr (Fr.pI (Or.inl rfl))
end Padd
/-- Arrays.copyOf, longer -/
theorem c_copyOf {g : mG} {a m : Nat} {Q : mQ} (hS : Scr g) (ha : gK g a = 12) (ha9 : a ≠ 9) (hm : gN g a < m) (hM : m < 100000)
    (h : Q (some (.ref 9)) (pA (nw g 9 12 m m (fun _ => 0)) 9 (va_cpy (gI g a) (fun _ => 0) 0 0 (gN g a)))) : w_J7_copyOf_59c91 [.ref a, .int (nI m)] g Q := by
  refine wm_at rfl ⟨trivial, trivial, trivial⟩ (show WP m_J7_copyOf_59c91 Q 0 [.ref a, .int (nI m), .retAddr 0] [] g from ?_)
  have h1 : ¬ m = gN g a := by omega
  obtain ⟨s1, s2⟩ := hS
  simp (disch := omega) only [e_J7_copyOf_59c91_0, e_J7_copyOf_59c91_1, e_J7_copyOf_59c91_1n, e_J7_copyOf_59c91_2, e_J7_copyOf_59c91_3, e_J7_copyOf_59c91_6, e_J7_copyOf_59c91_6n, e_J7_copyOf_59c91_14, e_J7_copyOf_59c91_15, tand, true_and, and_true, nl1_int, nl1_ref, nl1_null, nl1_ra, cat1_int, cat1_ref, cat1_null, stbs_nil, stbs_cons, stb_int, stb_long, stb_ref, stb_null, stb_ra, alv_nil, alv_cons, alv1_int, alv1_ref, alv1_null, alv1_ra, List.length_nil, List.length_cons, Nat.reduceAdd, Nat.reduceLeDiff, Nat.zero_le, Option.toList_some, Option.toList_none, List.cons_append, List.nil_append, or_true, true_or, or_false, false_or, Nat.reduceEqDiff, not_true_eq_false, not_false_eq_true, false_and, and_false, false_implies, true_implies, implies_true, ne_eq, and_self, ok1, ha, nI_eqE, h1, frsh]
  refine ⟨9, ⟨⟨s1, by rw [s2]; decide, by decide⟩, ?_, ?_⟩, ?_⟩
  · rw [nI_lt0 (by omega)]; exact fun q => q
  · rw [nI_clamp (by omega)]; omega
  have e1 : gK (nw g 9 12 m m fun _ => 0) a = 12 := by rw [gK_nw, if_neg ha9]; exact ha
  have e2 : gK (nw g 9 12 m m fun _ => 0) 9 = 12 := by rw [gK_nw, if_pos rfl]
  have e3 : gN (nw g 9 12 m m fun _ => 0) a = gN g a := by rw [gN_nw, if_neg ha9]
  have e4 : gN (nw g 9 12 m m fun _ => 0) 9 = m := by rw [gN_nw, if_pos rfl]
  have e5 : gI (nw g 9 12 m m fun _ => 0) a = gI g a := by rw [gI_nw, if_neg ha9]
  have e6 : gI (nw g 9 12 m m fun _ => 0) 9 = fun _ => 0 := by rw [gI_nw, if_pos rfl]
  rw [nI_clamp (by omega)]
  have hmin : min (gN g a) m = gN g a := by omega
  simp (disch := omega) only [e_J7_copyOf_59c91_17, e_J7_copyOf_59c91_17n, e_J7_copyOf_59c91_18, e_J7_copyOf_59c91_18n, e_J7_copyOf_59c91_19, e_J7_copyOf_59c91_20, e_J7_copyOf_59c91_20n, e_J7_copyOf_59c91_21, e_J7_copyOf_59c91_22, e_J7_copyOf_59c91_22n, e_J7_copyOf_59c91_23, e_J7_copyOf_59c91_24, e_J7_copyOf_59c91_25, e_J7_copyOf_59c91_28, e_J7_copyOf_59c91_31, e_J7_copyOf_59c91_31n, e_J7_copyOf_59c91_32, e_J7_copyOf_59c91_32n, tand, true_and, and_true, nl1_int, nl1_ref, nl1_null, nl1_ra, cat1_int, cat1_ref, cat1_null, stbs_nil, stbs_cons, stb_int, stb_long, stb_ref, stb_null, stb_ra, alv_nil, alv_cons, alv1_int, alv1_ref, alv1_null, alv1_ra, List.length_nil, List.length_cons, Nat.reduceAdd, Nat.reduceLeDiff, Nat.zero_le, Option.toList_some, Option.toList_none, List.cons_append, List.nil_append, or_true, true_or, or_false, false_or, Nat.reduceEqDiff, not_true_eq_false, not_false_eq_true, false_and, and_false, false_implies, true_implies, implies_true, ne_eq, and_self, ok1, e1, e2, e3, e4, e5, e6, nI_min, hmin, nI_lt0, nI_clamp, Nat.zero_add]
  exact ⟨⟨by omega, by omega⟩, h⟩
theorem rad0 {r : Nat → Nat} {y : Nat} : rad r y 0 = r := by
  funext z
  simp [rad]
theorem isP.ne {p : Nat} (h : isP p) : p ≠ 8 ∧ p ≠ 9 ∧ p + 1 ≠ 9 := by
  have := h.big
  omega
/-- permits.add(y, n) -/
theorem c_add {g : mG} {p y n yn : Nat} {r : Nat → Nat} {Q : mQ} (hS : Scr g) (hp : isP p) (hJ : JR g) (hP : PermR g p r yn) (hy : y < 1000) (hn : n < 2 ^ 30)
    (h : ∀ g' yn', Fr (XP p) g g' → JR g' → PermR g' p (rad r y n) yn' → Q none g') : w_X4_add [.ref p, .int (nI y), .int (nI n)] g Q := by
  refine wm_at rfl ⟨trivial, trivial, trivial, trivial⟩ (show WP m_X4_add Q 0 [.ref p, .int (nI y), .int (nI n)] [] g from ?_)
  obtain ⟨a1, a2, a3, a4, a5, a6, a7, a8⟩ := id hP
  obtain ⟨s1, s2⟩ := id hS
  obtain ⟨n1, n2, n3⟩ := hp.ne
  by_cases hn0 : n = 0
  · subst hn0
    simp (disch := omega) only [e_X4_add_0, e_X4_add_1, e_X4_add_4, e_X4_add_5, e_X4_add_8, e_X4_add_9, e_X4_add_12, e_X4_add_15, tand, true_and, and_true, nl1_int, nl1_ref, nl1_null, nl1_ra, cat1_int, cat1_ref, cat1_null, stbs_nil, stbs_cons, stb_int, stb_long, stb_ref, stb_null, stb_ra, alv_nil, alv_cons, alv1_int, alv1_ref, alv1_null, alv1_ra, List.length_nil, List.length_cons, Nat.reduceAdd, Nat.reduceLeDiff, Nat.zero_le, Option.toList_some, Option.toList_none, List.cons_append, List.nil_append, or_true, true_or, or_false, false_or, Nat.reduceEqDiff, not_true_eq_false, not_false_eq_true, false_and, and_false, false_implies, true_implies, implies_true, ne_eq, and_self, ok1, nI_le0]
    exact h g yn Fr.rf hJ (by rw [rad0]; exact hP)
  · have hy9 : y ≤ 999 := by omega
    simp (disch := omega) only [e_X4_add_0, e_X4_add_1, e_X4_add_4, e_X4_add_5, e_X4_add_8, e_X4_add_9, e_X4_add_12, e_X4_add_15, e_X4_add_16, e_X4_add_17, e_X4_add_18, e_X4_add_21, e_X4_add_22, tand, true_and, and_true, nl1_int, nl1_ref, nl1_null, nl1_ra, cat1_int, cat1_ref, cat1_null, stbs_nil, stbs_cons, stb_int, stb_long, stb_ref, stb_null, stb_ra, alv_nil, alv_cons, alv1_int, alv1_ref, alv1_null, alv1_ra, List.length_nil, List.length_cons, Nat.reduceAdd, Nat.reduceLeDiff, Nat.zero_le, Option.toList_some, Option.toList_none, List.cons_append, List.nil_append, or_true, true_or, or_false, false_or, Nat.reduceEqDiff, not_true_eq_false, not_false_eq_true, false_and, and_false, false_implies, true_implies, implies_true, ne_eq, and_self, ok1, nI_le0, nI_lt0, nI_leE, nI_ltE, hn0, hy9, a1, a2]
    refine ⟨fun hlt => add_loop (if yn ≤ y then y + 1 - yn else 0) (by split <;> omega) hP hlt hy hn hJ h, fun hlt => ?_⟩
    simp (disch := omega) only [e_X4_add_25, e_X4_add_26, e_X4_add_27, e_X4_add_30, e_X4_add_31, e_X4_add_32, e_X4_add_33, e_X4_add_34, e_X4_add_35, e_X4_add_38, e_X4_add_39, e_X4_add_40, e_X4_add_43, tand, true_and, and_true, nl1_int, nl1_ref, nl1_null, nl1_ra, cat1_int, cat1_ref, cat1_null, stbs_nil, stbs_cons, stb_int, stb_long, stb_ref, stb_null, stb_ra, alv_nil, alv_cons, alv1_int, alv1_ref, alv1_null, alv1_ra, List.length_nil, List.length_cons, Nat.reduceAdd, Nat.reduceLeDiff, Nat.zero_le, Option.toList_some, Option.toList_none, List.cons_append, List.nil_append, or_true, true_or, or_false, false_or, Nat.reduceEqDiff, not_true_eq_false, not_false_eq_true, false_and, and_false, false_implies, true_implies, implies_true, ne_eq, and_self, ok1, a1, a2, nI_add, pk_mul, nI_max]
    refine c_copyOf hS a2 n3 (by omega) (by omega) ?_
    generalize hm : max (y + 1) (2 * gN g (p + 1)) = m
    generalize hg2 : pA (nw g 9 12 m m fun _ => 0) 9 (va_cpy (gI g (p + 1)) (fun _ => 0) 0 0 (gN g (p + 1))) = g2
    have k2 : ∀ b, b ≠ 9 → gK g2 b = gK g b ∧ gN g2 b = gN g b ∧ gI g2 b = gI g b ∧ ∀ k, gR g2 b k = gR g b k := by
      intro b hb
      rw [← hg2]
      refine ⟨by rw [gK_pA, gK_nw, if_neg hb], by rw [gN_pA, gN_nw, if_neg hb], by rw [gI_pA, if_neg hb, gI_nw, if_neg hb], fun k => by rw [gR_pA, gR_nw, if_neg hb]⟩
    have k9 : gK g2 9 = 12 ∧ gN g2 9 = m ∧ gI g2 9 = va_cpy (gI g (p + 1)) (fun _ => 0) 0 0 (gN g (p + 1)) := by
      rw [← hg2]
      exact ⟨by rw [gK_pA, gK_nw, if_pos rfl], by rw [gN_pA, gN_nw, if_pos rfl], by rw [gI_pA, if_pos rfl]⟩
    have hC : gC g2 = gC g + 1 ∧ gS g2 = gS g + m := by rw [← hg2]; exact ⟨rfl, rfl⟩
    have b1 : gK g2 p = 5 := (k2 p n2).1.trans a1
    have b2 : gK g2 (p + 1) = 12 := (k2 (p + 1) n3).1.trans a2
    have b8 : gK g2 8 = 0 := (k2 8 (by decide)).1.trans s2
    simp (disch := omega) only [e_X4_add_46, tand, true_and, and_true, nl1_int, nl1_ref, nl1_null, nl1_ra, cat1_int, cat1_ref, cat1_null, stbs_nil, stbs_cons, stb_int, stb_long, stb_ref, stb_null, stb_ra, alv_nil, alv_cons, alv1_int, alv1_ref, alv1_null, alv1_ra, List.length_nil, List.length_cons, Nat.reduceAdd, Nat.reduceLeDiff, Nat.zero_le, Option.toList_some, Option.toList_none, List.cons_append, List.nil_append, or_true, true_or, or_false, false_or, Nat.reduceEqDiff, not_true_eq_false, not_false_eq_true, false_and, and_false, false_implies, true_implies, implies_true, ne_eq, and_self, ok1, b1, b2, k9.1, n3.symm, b8, Nat.reduceSub]
    have hF : Fr (XP p) g (mY g2 p 9) := by
      refine ⟨fun b => ?_, fun b hb => ?_, fun b h9 hk => ?_⟩
      · rw [gK_mY]
        by_cases c1 : b = p + 1
        · rw [if_pos c1, c1, a2]
        · by_cases c2 : b = 9
          · rw [if_neg c1, if_pos c2, c2, s1]
          · rw [if_neg c1, if_neg c2, (k2 b c2).1]
      · have c1 : b ≠ p + 1 := fun q => hb (Or.inr (Or.inl q))
        have c2 : b ≠ 9 := fun q => hb (Or.inr (Or.inr q))
        rw [gN_mY, if_neg c1, gI_mY, if_neg c1]
        exact ⟨(k2 b c2).2.1, (k2 b c2).2.2.1⟩
      · have c1 : b ≠ p + 1 := fun q => hk (by rw [q]; exact a2)
        rw [gN_mY, if_neg c1]
        exact ⟨(k2 b h9).2.1, fun k => by rw [gR_mY, if_neg c1]; exact (k2 b h9).2.2.2 k⟩
    have hN1 : gN (mY g2 p 9) (p + 1) = m := by rw [gN_mY, if_pos rfl]; exact k9.2.1
    have hJ' : JR (mY g2 p 9) := by
      obtain ⟨c, j, hc, hj, hpc⟩ := hp
      refine hJ.add (n := m) hc hj (by rw [← hpc]; exact hN1) (fun c' j' hc' hj' hne => ?_) (by rw [gS_mY]; exact hC.2) (by rw [gC_mY]; exact hC.1) (by rw [← hpc]; omega) (by omega)
      have c1 : rowL c' j' ≠ p + 1 := fun q => hne (rowL_inj hc' hc (q.trans hpc))
      have c2 : rowL c' j' ≠ 9 := by unfold rowL; omega
      rw [gN_mY, if_neg c1, (k2 _ c2).2.1]
    have hP' : PermR (mY g2 p 9) p r yn := by
      have c1 : p ≠ p + 1 := by omega
      refine ⟨by rw [hF.1]; exact a1, by rw [hF.1]; exact a2, by rw [gI_mY, if_neg c1, (k2 p n2).2.2.1]; exact a3, ⟨by rw [hN1]; omega, a4.2⟩, by rw [hN1]; omega, fun z hz => ?_, a7, by rw [gI_mY, if_neg c1, (k2 p n2).2.2.1]; exact a8⟩
      rw [gI_mY, if_pos rfl, k9.2.2, pk_cpy_in (Nat.zero_le z) (by omega), Nat.zero_add, Nat.sub_zero]
      exact a6 z hz
    exact add_loop (if yn ≤ y then y + 1 - yn else 0) (by split <;> omega) hP' (by rw [hN1]; omega) hy hn hJ' fun g' yn' f j q => h g' yn' (hF.tr f) j q
