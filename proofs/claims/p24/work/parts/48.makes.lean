/-! ===== what is made ===== -/
/-- but for X all is as it was; c cells and s slots at most are new -/
def NF (X : Nat → Prop) (g g' : mG) (c s : Nat) : Prop := (∀ b, ¬ X b → gK g' b = gK g b ∧ (b ≠ 9 → gN g' b = gN g b ∧ gI g' b = gI g b ∧ ∀ k, gR g' b k = gR g b k)) ∧ gC g' ≤ gC g + c ∧ gS g' ≤ gS g + s
theorem NF.rf {X : Nat → Prop} {g : mG} : NF X g g 0 0 := ⟨fun _ _ => ⟨rfl, fun _ => ⟨rfl, rfl, fun _ => rfl⟩⟩, Nat.le_refl _, Nat.le_refl _⟩
theorem NF.tr {X : Nat → Prop} {g g1 g2 : mG} {c s c2 s2 : Nat} (h : NF X g g1 c s) (h2 : NF X g1 g2 c2 s2) : NF X g g2 (c + c2) (s + s2) := ⟨fun b hb => ⟨(h2.1 b hb).1.trans (h.1 b hb).1, fun h9 => ⟨((h2.1 b hb).2 h9).1.trans ((h.1 b hb).2 h9).1, ((h2.1 b hb).2 h9).2.1.trans ((h.1 b hb).2 h9).2.1, fun k => (((h2.1 b hb).2 h9).2.2 k).trans (((h.1 b hb).2 h9).2.2 k)⟩⟩, by have := h.2.1; have := h2.2.1; omega, by have := h.2.2; have := h2.2.2; omega⟩
theorem NF.up {X Y : Nat → Prop} {g g1 : mG} {c s c2 s2 : Nat} (h : NF X g g1 c s) (hXY : ∀ b, X b → Y b) (hc : c ≤ c2) (hs : s ≤ s2) : NF Y g g1 c2 s2 := ⟨fun b hb => h.1 b fun q => hb (hXY b q), Nat.le_trans h.2.1 (by omega), Nat.le_trans h.2.2 (by omega)⟩
theorem NF.nw {X : Nat → Prop} {g : mG} {a kd m sz : Nat} {f : Nat → Int32} (ha : X a) : NF X g (nw g a kd m sz f) 1 sz := ⟨fun b hb => by
  have e : b ≠ a := fun e => hb (by rw [e]; exact ha)
  exact ⟨by rw [gK_nw, if_neg e], fun _ => ⟨by rw [gN_nw, if_neg e], by rw [gI_nw, if_neg e], fun k => by rw [gR_nw, if_neg e]⟩⟩, Nat.le_refl _, Nat.le_refl _⟩
theorem NF.pI {X : Nat → Prop} {g : mG} {a k : Nat} {v : Int32} (ha : X a) : NF X g (pI g a k v) 0 0 := ⟨fun b hb => ⟨rfl, fun _ => ⟨rfl, gI_pI_ne fun e => hb (by rw [e]; exact ha), fun _ => rfl⟩⟩, Nat.le_refl _, Nat.le_refl _⟩
theorem NF.pR {X : Nat → Prop} {g : mG} {a k v : Nat} (ha : X a) : NF X g (pR g a k v) 0 0 := ⟨fun b hb => ⟨rfl, fun _ => ⟨rfl, rfl, fun j => by rw [gR_pR, if_neg fun e => hb (by rw [e]; exact ha)]⟩⟩, Nat.le_refl _, Nat.le_refl _⟩
theorem NF.scr {X : Nat → Prop} {g g' : mG} {c s : Nat} (h : NF X g g' c s) (hS : Scr g) (h8 : ¬ X 8) (h9 : ¬ X 9) : Scr g' := ⟨(h.1 9 h9).1.trans hS.1, (h.1 8 h8).1.trans hS.2⟩
theorem PermX.nf {X : Nat → Prop} {g g' : mG} {p yn x c s : Nat} {r : Nat → Nat} (h : PermX g p r yn x) (f : NF X g g' c s) (h1 : ¬ X p) (h2 : ¬ X (p + 1)) (n1 : p ≠ 9) (n2 : p + 1 ≠ 9) : PermX g' p r yn x := by
  obtain ⟨a1, a2, a3, a4, a5, a6, a7, a8⟩ := h
  obtain ⟨k1, r1⟩ := f.1 p h1
  obtain ⟨k2, r2⟩ := f.1 (p + 1) h2
  obtain ⟨r11, r12, _⟩ := r1 n1
  obtain ⟨r21, r22, _⟩ := r2 n2
  exact ⟨by rw [k1]; exact a1, by rw [k2]; exact a2, by rw [r12]; exact a3, by rw [r21]; exact a4, by rw [r21]; exact a5, by rw [r22]; exact a6, a7, by rw [r12]; exact a8⟩
theorem rt0 : rt (fun _ => 0) = 0 := sm_0 2000 fun _ _ => rfl
section Mak
variable {g : mG} {Q : mQ}
theorem c_X4_init {p : Nat} (h5 : gK g p = 5) (h0 : gK g (p + 1) = 0) (hz1 : gI g p 1 = nI 0) (hz2 : gI g p 2 = nI 0) (hp : 10 ≤ p) (hS : Scr g)
    (q : ∀ g', NF (fun b => b = p + 1) g g' 1 8 → gN g' (p + 1) = 8 → PermR g' p (fun _ => 0) 0 → Q none g') : w_X4_init [.ref p] g Q := by
  refine wm_at rfl ⟨trivial, trivial⟩ (show WP m_X4_init Q 0 [.ref p] [] g from ?_)
  obtain ⟨s1, s2⟩ := id hS
  have k5 : (5 : Nat) ≠ 0 := by decide
  simp (disch := omega) only [e_X4_init_0, e_X4_init_1, e_X4_init_4, e_X4_init_5, e_X4_init_7, tand, true_and, and_true, nl1_int, nl1_ref, nl1_null, nl1_ra, cat1_int, cat1_ref, cat1_null, stbs_nil, stbs_cons, stb_int, stb_long, stb_ref, stb_null, stb_ra, alv_nil, alv_cons, alv1_int, alv1_ref, alv1_null, alv1_ra, List.length_nil, List.length_cons, Nat.reduceAdd, Nat.reduceLeDiff, Nat.zero_le, Option.toList_some, Option.toList_none, List.cons_append, List.nil_append, or_true, true_or, or_false, false_or, Nat.reduceEqDiff, not_true_eq_false, not_false_eq_true, false_and, and_false, false_implies, true_implies, implies_true, ne_eq, and_self, ok1, h5, frsh]
  refine ⟨9, ⟨⟨s1, by rw [s2]; decide, by decide⟩, ?_, ?_⟩, ?_⟩
  · rw [nI_lt0 (by omega)]; exact fun q => q
  · rw [nI_clamp (by omega)]; decide
  rw [nI_clamp (by omega)]
  have e1 : gK (nw g 9 12 8 8 fun _ => 0) p = 5 := by rw [gK_nw, if_neg (by omega)]; exact h5
  have e2 : gK (nw g 9 12 8 8 fun _ => 0) 9 = 12 := by rw [gK_nw, if_pos rfl]
  have e3 : gK (nw g 9 12 8 8 fun _ => 0) 8 = 0 := by rw [gK_nw, if_neg (by decide)]; exact s2
  have e4 : gK (nw g 9 12 8 8 fun _ => 0) (p + 1) = 0 := by rw [gK_nw, if_neg (by omega)]; exact h0
  have n9 : 9 ≠ p + 1 := by omega
  have k512 : (5 : Nat) ≠ 12 := by decide
  simp (disch := omega) only [e_X4_init_9, e_X4_init_12, tand, true_and, and_true, nl1_int, nl1_ref, nl1_null, nl1_ra, cat1_int, cat1_ref, cat1_null, stbs_nil, stbs_cons, stb_int, stb_long, stb_ref, stb_null, stb_ra, alv_nil, alv_cons, alv1_int, alv1_ref, alv1_null, alv1_ra, List.length_nil, List.length_cons, Nat.reduceAdd, Nat.reduceLeDiff, Nat.zero_le, Option.toList_some, Option.toList_none, List.cons_append, List.nil_append, or_true, true_or, or_false, false_or, Nat.reduceEqDiff, not_true_eq_false, not_false_eq_true, false_and, and_false, false_implies, true_implies, implies_true, ne_eq, and_self, ok1, e1, e2, e3, e4, n9, Nat.reduceSub]
  have pe : p ≠ p + 1 := by omega
  have p9 : p ≠ 9 := by omega
  refine q _ ⟨fun b hb => ⟨?_, fun h9 => ⟨?_, ?_, fun k => ?_⟩⟩, Nat.le_refl _, Nat.le_refl _⟩ ?_ ⟨?_, ?_, ?_, ⟨Nat.zero_le _, Nat.zero_le _⟩, ?_, fun y hy => absurd hy (Nat.not_lt_zero y), fun _ _ => rfl, ?_⟩
  · rw [gK_mY, if_neg hb]
    by_cases hb9 : b = 9
    · rw [if_pos hb9, hb9, s1]
    · rw [if_neg hb9, gK_nw, if_neg hb9]
  · rw [gN_mY, if_neg hb, gN_nw, if_neg h9]
  · rw [gI_mY, if_neg hb, gI_nw, if_neg h9]
  · rw [gR_mY, if_neg hb, gR_nw, if_neg h9]
  · rw [gN_mY, if_pos rfl, gN_nw, if_pos rfl]
  · rw [gK_mY, if_neg pe, if_neg p9]; exact e1
  · rw [gK_mY, if_pos rfl]
  · rw [gI_mY, if_neg pe, gI_nw, if_neg p9]; exact hz1
  · rw [gN_mY, if_pos rfl, gN_nw, if_pos rfl]; decide
  · rw [gI_mY, if_neg pe, gI_nw, if_neg p9, rt0]; exact hz2
theorem c_X0_init {a : Nat} (h1 : gK g a = 1) (ha : gK g (a + 1) = 0) (hb : gK g (a + 2) = 0) (hz : gI g a = fun _ => 0) (hp : 10 ≤ a) (hS : Scr g)
    (q : ∀ g', NF (fun b => b = a ∨ b = a + 1 ∨ b = a + 2) g g' 2 11 → gK g' a = 1 → (∀ f, gI g' a f = nI (if f = 0 then 1000 else 0)) → gR g' a 7 = a + 1 → gN g' (a + 2) = 8 → PermR g' (a + 1) (fun _ => 0) 0 → Q none g') : w_X0_init [.ref a] g Q := by
  refine wm_at rfl ⟨trivial, trivial⟩ (show WP m_X0_init Q 0 [.ref a] [] g from ?_)
  have k10 : (1 : Nat) ≠ 0 := by decide
  simp (disch := omega) only [e_X0_init_0, e_X0_init_1, e_X0_init_4, e_X0_init_5, e_X0_init_8, e_X0_init_11, e_X0_init_12, tand, true_and, and_true, nl1_int, nl1_ref, nl1_null, nl1_ra, cat1_int, cat1_ref, cat1_null, stbs_nil, stbs_cons, stb_int, stb_long, stb_ref, stb_null, stb_ra, alv_nil, alv_cons, alv1_int, alv1_ref, alv1_null, alv1_ra, List.length_nil, List.length_cons, Nat.reduceAdd, Nat.reduceLeDiff, Nat.zero_le, Option.toList_some, Option.toList_none, List.cons_append, List.nil_append, or_true, true_or, or_false, false_or, Nat.reduceEqDiff, not_true_eq_false, not_false_eq_true, false_and, and_false, false_implies, true_implies, implies_true, ne_eq, and_self, ok1, h1, gK_pI, frsh]
  refine ⟨a + 1, ⟨⟨ha, by rw [show a + 1 - 1 = a by omega, h1]; decide, by omega⟩, hb⟩, ?_⟩
  have e1 : gK (nw (pI g a 0 (nI 1000)) (a + 1) 5 0 (xn 5) fun _ => 0) (a + 1) = 5 := by rw [gK_nw, if_pos rfl]
  have e2 : gK (nw (pI g a 0 (nI 1000)) (a + 1) 5 0 (xn 5) fun _ => 0) a = 1 := by rw [gK_nw, if_neg (by omega)]; exact h1
  have e3 : gK (nw (pI g a 0 (nI 1000)) (a + 1) 5 0 (xn 5) fun _ => 0) (a + 1 + 1) = 0 := by rw [gK_nw, if_neg (by omega)]; exact hb
  have F : NF (fun b => b = a ∨ b = a + 1 ∨ b = a + 2) g (nw (pI g a 0 (nI 1000)) (a + 1) 5 0 (xn 5) fun _ => 0) 1 3 := (NF.pI (Or.inl rfl)).tr (NF.nw (Or.inr (Or.inl rfl)))
  simp (disch := omega) only [e_X0_init_15, e_X0_init_16, tand, true_and, and_true, nl1_int, nl1_ref, nl1_null, nl1_ra, cat1_int, cat1_ref, cat1_null, stbs_nil, stbs_cons, stb_int, stb_long, stb_ref, stb_null, stb_ra, alv_nil, alv_cons, alv1_int, alv1_ref, alv1_null, alv1_ra, List.length_nil, List.length_cons, Nat.reduceAdd, Nat.reduceLeDiff, Nat.zero_le, Option.toList_some, Option.toList_none, List.cons_append, List.nil_append, or_true, true_or, or_false, false_or, Nat.reduceEqDiff, not_true_eq_false, not_false_eq_true, false_and, and_false, false_implies, true_implies, implies_true, ne_eq, and_self, ok1, e1, e2]
  refine c_X4_init e1 e3 ?_ ?_ (by omega) (F.scr hS (by omega) (by omega)) fun g2 F2 hN hP => ?_
  · rw [gI_nw, if_pos rfl]; rfl
  · rw [gI_nw, if_pos rfl]; rfl
  have k2 : gK g2 a = 1 := ((F2.1 a (by omega)).1).trans e2
  have k21 : gK g2 (a + 1) = 5 := hP.1
  have z1 : a + 1 ≠ 0 := by omega
  have i2 : ∀ f, gI g2 a f = nI (if f = 0 then 1000 else 0) := fun f => by
    rw [((F2.1 a (by omega)).2 (by omega)).2.1, gI_nw, if_neg (by omega), gI_pI_eq, hz]
    by_cases hf : f = 0
    · rw [if_pos hf, if_pos hf]
    · rw [if_neg hf, if_neg hf]; rfl
  simp (disch := omega) only [e_X0_init_19, e_X0_init_22, tand, true_and, and_true, nl1_int, nl1_ref, nl1_null, nl1_ra, cat1_int, cat1_ref, cat1_null, stbs_nil, stbs_cons, stb_int, stb_long, stb_ref, stb_null, stb_ra, alv_nil, alv_cons, alv1_int, alv1_ref, alv1_null, alv1_ra, List.length_nil, List.length_cons, Nat.reduceAdd, Nat.reduceLeDiff, Nat.zero_le, Option.toList_some, Option.toList_none, List.cons_append, List.nil_append, or_true, true_or, or_false, false_or, Nat.reduceEqDiff, not_true_eq_false, not_false_eq_true, false_and, and_false, false_implies, true_implies, implies_true, ne_eq, and_self, ok1, k2, k21, z1]
  refine q _ ((F.tr (F2.up (fun b hb => Or.inr (Or.inr (by omega))) (Nat.le_refl _) (Nat.le_refl _))).tr (NF.pR (Or.inl rfl))) k2 i2 ?_ hN ⟨hP.1, hP.2.1, hP.2.2.1, hP.2.2.2.1, hP.2.2.2.2.1, hP.2.2.2.2.2.1, hP.2.2.2.2.2.2.1, hP.2.2.2.2.2.2.2⟩
  rw [gR_pR, if_pos rfl, if_pos rfl]
theorem c_X2_init {a : Nat} (h1 : gK g a = 3) (ha : gK g (a + 1) = 0) (hb : gK g (a + 2) = 0) (hz : gI g a = fun _ => 0) (hp : 10 ≤ a) (hS : Scr g)
    (q : ∀ g', NF (fun b => b = a ∨ b = a + 1 ∨ b = a + 2) g g' 2 11 → gK g' a = 3 → (∀ f, gI g' a f = nI 0) → gR g' a 5 = a + 1 → gN g' (a + 2) = 8 → PermR g' (a + 1) (fun _ => 0) 0 → Q none g') : w_X2_init [.ref a] g Q := by
  refine wm_at rfl ⟨trivial, trivial⟩ (show WP m_X2_init Q 0 [.ref a] [] g from ?_)
  simp (disch := omega) only [e_X2_init_0, e_X2_init_1, e_X2_init_4, e_X2_init_5, tand, true_and, and_true, nl1_int, nl1_ref, nl1_null, nl1_ra, cat1_int, cat1_ref, cat1_null, stbs_nil, stbs_cons, stb_int, stb_long, stb_ref, stb_null, stb_ra, alv_nil, alv_cons, alv1_int, alv1_ref, alv1_null, alv1_ra, List.length_nil, List.length_cons, Nat.reduceAdd, Nat.reduceLeDiff, Nat.zero_le, Option.toList_some, Option.toList_none, List.cons_append, List.nil_append, or_true, true_or, or_false, false_or, Nat.reduceEqDiff, not_true_eq_false, not_false_eq_true, false_and, and_false, false_implies, true_implies, implies_true, ne_eq, and_self, ok1, h1, frsh]
  refine ⟨a + 1, ⟨⟨ha, by rw [show a + 1 - 1 = a by omega, h1]; decide, by omega⟩, hb⟩, ?_⟩
  have e1 : gK (nw g (a + 1) 5 0 (xn 5) fun _ => 0) (a + 1) = 5 := by rw [gK_nw, if_pos rfl]
  have e2 : gK (nw g (a + 1) 5 0 (xn 5) fun _ => 0) a = 3 := by rw [gK_nw, if_neg (by omega)]; exact h1
  have e3 : gK (nw g (a + 1) 5 0 (xn 5) fun _ => 0) (a + 1 + 1) = 0 := by rw [gK_nw, if_neg (by omega)]; exact hb
  have F : NF (fun b => b = a ∨ b = a + 1 ∨ b = a + 2) g (nw g (a + 1) 5 0 (xn 5) fun _ => 0) 1 3 := NF.nw (Or.inr (Or.inl rfl))
  simp (disch := omega) only [e_X2_init_8, e_X2_init_9, tand, true_and, and_true, nl1_int, nl1_ref, nl1_null, nl1_ra, cat1_int, cat1_ref, cat1_null, stbs_nil, stbs_cons, stb_int, stb_long, stb_ref, stb_null, stb_ra, alv_nil, alv_cons, alv1_int, alv1_ref, alv1_null, alv1_ra, List.length_nil, List.length_cons, Nat.reduceAdd, Nat.reduceLeDiff, Nat.zero_le, Option.toList_some, Option.toList_none, List.cons_append, List.nil_append, or_true, true_or, or_false, false_or, Nat.reduceEqDiff, not_true_eq_false, not_false_eq_true, false_and, and_false, false_implies, true_implies, implies_true, ne_eq, and_self, ok1, e1, e2]
  refine c_X4_init e1 e3 ?_ ?_ (by omega) (F.scr hS (by omega) (by omega)) fun g2 F2 hN hP => ?_
  · rw [gI_nw, if_pos rfl]; rfl
  · rw [gI_nw, if_pos rfl]; rfl
  have k2 : gK g2 a = 3 := ((F2.1 a (by omega)).1).trans e2
  have k21 : gK g2 (a + 1) = 5 := hP.1
  have z1 : a + 1 ≠ 0 := by omega
  have i2 : ∀ f, gI g2 a f = nI 0 := fun f => by
    rw [((F2.1 a (by omega)).2 (by omega)).2.1, gI_nw, if_neg (by omega), hz]; rfl
  simp (disch := omega) only [e_X2_init_12, e_X2_init_15, tand, true_and, and_true, nl1_int, nl1_ref, nl1_null, nl1_ra, cat1_int, cat1_ref, cat1_null, stbs_nil, stbs_cons, stb_int, stb_long, stb_ref, stb_null, stb_ra, alv_nil, alv_cons, alv1_int, alv1_ref, alv1_null, alv1_ra, List.length_nil, List.length_cons, Nat.reduceAdd, Nat.reduceLeDiff, Nat.zero_le, Option.toList_some, Option.toList_none, List.cons_append, List.nil_append, or_true, true_or, or_false, false_or, Nat.reduceEqDiff, not_true_eq_false, not_false_eq_true, false_and, and_false, false_implies, true_implies, implies_true, ne_eq, and_self, ok1, k2, k21, z1]
  refine q _ ((F.tr (F2.up (fun b hb => Or.inr (Or.inr (by omega))) (Nat.le_refl _) (Nat.le_refl _))).tr (NF.pR (Or.inl rfl))) k2 i2 ?_ hN ⟨hP.1, hP.2.1, hP.2.2.1, hP.2.2.2.1, hP.2.2.2.2.1, hP.2.2.2.2.2.1, hP.2.2.2.2.2.2.1, hP.2.2.2.2.2.2.2⟩
  rw [gR_pR, if_pos rfl, if_pos rfl]
end Mak
