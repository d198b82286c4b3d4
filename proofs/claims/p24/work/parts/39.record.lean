/-! ===== the main object: what it keeps ===== -/
/-- what is no part of the program's objects: the script, and all at 40 and up to 50 -/
def mK (b : Nat) : Prop := b = 2 ∨ (40 ≤ b ∧ b < 50)
def MF (g g' : mG) : Prop := (∀ b, gK g' b = gK g b) ∧ ∀ b, mK b → gN g' b = gN g b ∧ gI g' b = gI g b ∧ (gK g b ≠ 12 → ∀ k, gR g' b k = gR g b k)
theorem MF.rf {g : mG} : MF g g := ⟨fun _ => rfl, fun _ _ => ⟨rfl, rfl, fun _ _ => rfl⟩⟩
theorem MF.tr {g g1 g2 : mG} (h : MF g g1) (h2 : MF g1 g2) : MF g g2 := ⟨fun b => (h2.1 b).trans (h.1 b), fun b hb => ⟨(h2.2 b hb).1.trans (h.2 b hb).1, (h2.2 b hb).2.1.trans (h.2 b hb).2.1, fun hk k => ((h2.2 b hb).2.2 (by rw [h.1]; exact hk) k).trans ((h.2 b hb).2.2 hk k)⟩⟩
theorem Fr.mf {X : Nat → Prop} {g g' : mG} (h : Fr X g g') (hX : ∀ b, mK b → ¬ X b) : MF g g' := ⟨h.1, fun b hb => ⟨(h.2.1 b (hX b hb)).1, (h.2.1 b (hX b hb)).2, fun hk => (h.2.2 b (by unfold mK at hb; omega) hk).2⟩⟩
theorem F20.mf {g g' : mG} (h : F20 g g') : MF g g' := ⟨h.1, fun b hb => ⟨h.2.1 b, h.2.2.1 b (by unfold mK at hb; omega), fun _ k => h.2.2.2.1 b k (by unfold mK at hb; omega) (by unfold mK at hb; omega)⟩⟩
theorem XT_mK {T b : Nat} (hT : 100 ≤ T) (hb : mK b) : ¬ XT T b := fun z => by
  unfold mK at hb
  unfold XT at z
  omega
theorem XX_mK {b : Nat} (hb : mK b) : ¬ XX b := fun z => by
  unfold mK at hb
  unfold XX at z
  omega
def uW (W : Nat → Rw) (T : Nat) (w : Rw) : Nat → Rw := fun a => if a = T then w else W a
theorem TxR.fr {X : Nat → Prop} {g g' : mG} {t : Nat → Nat} {n : Nat} (h : TxR g t n) (f : Fr X g g') (h2 : ¬ X 22) (h3 : ¬ X 23) : TxR g' t n := by
  obtain ⟨⟨a1, a2, a3⟩, ⟨b1, b2⟩, ⟨c1, c2⟩, d, e, z, y⟩ := h
  have r22 := f.2.2 22 (by decide) (by rw [a1]; decide)
  have r23 := f.2.2 23 (by decide) (by rw [b1]; decide)
  have r24 := f.2.2 24 (by decide) (by rw [c1]; decide)
  exact ⟨⟨by rw [f.1]; exact a1, by rw [r22.2]; exact a2, by rw [r22.2]; exact a3⟩, ⟨by rw [f.1]; exact b1, by rw [r23.1]; exact b2⟩, ⟨by rw [f.1]; exact c1, by rw [r24.1]; exact c2⟩, fun i hi => ⟨by rw [r24.2]; exact (d i hi).1, by rw [f.1]; exact (d i hi).2⟩, by rw [(f.2.1 22 h2).2]; exact e, z, by rw [(f.2.1 23 h3).2]; exact y⟩
theorem STt.fr {X : Nat → Prop} {g g' : mG} (h : STt g) (f : Fr X g g') (hX : ∀ b, b < 6 → 2 < b → ¬ X b) : STt g' := h.far f.1 (fun b h1 h2 => (f.2.1 b (hX b h1 h2)).1) (fun b h1 h2 => (f.2.1 b (hX b h1 h2)).2)
section Rec
variable {W : Nat → Rw} {N S st kept n : Nat} {H t : Nat → Nat} {Q : mQ} {g : mG}
/-- a change that keeps the main object itself -/
theorem MH.fr {X : Nat → Prop} {g' : mG} {W' : Nat → Rw} {t' : Nat → Nat} {n' : Nat} (h : MH g W N S H st kept t n) (f : Fr X g g') (hX : ∀ b, b < 22 → 2 < b → b ≠ 9 → ¬ X b) (d : ∀ T, isT T → TRw g' T (W' T)) (x : TxR g' t' n') (j : JR g') : MH g' W' N S H st kept t' n' := by
  obtain ⟨⟨a1, a2, a3, a4, a5, a6⟩, ⟨b1, b2, b3, b4⟩, ⟨c1, c2, c3⟩, _, p, _, y, _, u⟩ := h
  have r20 := f.2.2 20 (by decide) (by rw [a1]; decide)
  have r21 := f.2.2 21 (by decide) (by rw [c1]; decide)
  have i20 := (f.2.1 20 (hX 20 (by decide) (by decide) (by decide))).2
  refine ⟨⟨by rw [f.1]; exact a1, by rw [r20.2]; exact a2, by rw [r20.2]; exact a3, by rw [r20.2]; exact a4, by rw [r20.2]; exact a5, by rw [r20.2]; exact a6⟩, ⟨by rw [i20]; exact b1, by rw [i20]; exact b2, b3, b4⟩, ⟨by rw [f.1]; exact c1, by rw [r21.1]; exact c2, fun j hj => by rw [r21.2]; exact c3 j hj⟩, d, p, x, y.fr f, j, u.fr f fun b h1 h2 => hX b (by omega) h2 (by omega)⟩
theorem MH.town {g' : mG} {T : Nat} {w' : Rw} (h : MH g W N S H st kept t n) (hT : isT T) (C : CG (XT T) g g' T w') : MH g' (uW W T w') N S H st kept t n := by
  have big := hT.big
  have hX : ∀ b, b < 100 → b ≠ 9 → ¬ XT T b := fun b h1 h2 z => by unfold XT at z; omega
  refine h.fr C.1 (fun b h1 h2 h9 => hX b (by omega) h9) (fun T2 hT2 => ?_) (h.2.2.2.2.2.1.fr C.1 (hX 22 (by decide) (by decide)) (hX 23 (by decide) (by decide))) C.2.1
  unfold uW
  by_cases e : T2 = T
  · rw [if_pos e, e]; exact C.2.2
  · rw [if_neg e]
    exact (h.2.2.2.1 T2 hT2).ot hT hT2 (Ne.symm e) C.1
theorem MH.text {g' : mG} (h : MH g W N S H st kept t n) (C : TG g g' t n) : MH g' W N S H st kept t n := by
  refine h.fr C.1 (fun b h1 h2 h9 z => by unfold XX at z; omega) (fun T hT => (h.2.2.2.1 T hT).fr C.1 hT.big fun b b1 b2 z => ?_) C.2.2 C.2.1
  have := hT.big
  unfold XX at z
  omega
/-- the main object, abstract: the town, the history, the snapshot, the text -/
def MA (g : mG) (w : Rw) (hist : Nat → Rw) (st kept : Nat) (snap : Rw) (t : Nat → Nat) (n : Nat) : Prop := ∃ W N S H, MH g W N S H st kept t n ∧ W N = w ∧ (∀ j, j < st → W (H j) = hist j) ∧ (kept = 1 → W 300 = snap)
def hcn (w : Rw) (hist : Nat → Rw) : Nat → Rw := fun j => if j = 0 then w else hist (j - 1)
variable {w snap : Rw} {hist : Nat → Rw}
theorem MA.now (h : MA g w hist st kept snap t n) : ∃ N, isT N ∧ (gK g 20 = 7 ∧ gR g 20 0 = N) ∧ TRw g N w ∧ Scr g ∧ JR g ∧ STt g ∧ ∀ g' w', CG (XT N) g g' N w' → MA g' w' hist st kept snap t n ∧ MF g g' ∧ gR g' 20 0 = N := by
  obtain ⟨W, N, S, H, hM, e1, e2, e3⟩ := h
  have hM' := id hM
  obtain ⟨⟨a1, a2, a3, a4, a5, a6⟩, ⟨b1, b2, b3, b4⟩, _, d, p, x, y, z, u⟩ := hM'
  obtain ⟨p1, p2, p3, ⟨p4, p5, p6⟩, p7, p8⟩ := p
  refine ⟨N, p1, ⟨a1, a2⟩, by rw [← e1]; exact d N p1, y, z, u, fun g' w' C => ?_⟩
  have hM2 := hM.town p1 C
  refine ⟨⟨uW W N w', N, S, H, hM2, by unfold uW; rw [if_pos rfl], fun j hj => ?_, fun hk => ?_⟩, C.1.mf fun b hb => XT_mK p1.big hb, hM2.1.2.1⟩
  · unfold uW
    rw [if_neg (p7 j (by omega)).2.1]; exact e2 j hj
  · unfold uW
    rw [if_neg (Ne.symm p4)]; exact e3 hk
theorem c_record (h : MA g w hist st kept snap t n) (q : ∀ g', MA g' w (hcn w hist) (min (st + 1) 4) kept snap t n → MF g g' → gR g' 20 0 = gR g 20 0 → Q none g') : w_X6_record [.ref 20] g Q := by
  refine wm_at rfl ⟨trivial, trivial⟩ (show WP m_X6_record Q 0 [.ref 20] [] g from ?_)
  obtain ⟨W, N, S, H, hM, e1, e2, e3⟩ := h
  have hM' := id hM
  obtain ⟨⟨a1, a2, a3, a4, a5, a6⟩, ⟨b1, b2, b3, b4⟩, _, d, p, x, y, z, u⟩ := hM'
  obtain ⟨p1, p2, p3, ⟨p4, p5, p6⟩, p7, p8⟩ := p
  have zN : N ≠ 0 := by have := p1.big; omega
  have zS : S ≠ 0 := by have := p2.big; omega
  have kS : gK g S = 6 := isT.k6 (d S p2)
  simp (disch := omega) only [e_X6_record_0, e_X6_record_1, e_X6_record_4, e_X6_record_5, e_X6_record_8, tand, true_and, and_true, nl1_int, nl1_ref, nl1_null, nl1_ra, cat1_int, cat1_ref, cat1_null, stbs_nil, stbs_cons, stb_int, stb_long, stb_ref, stb_null, stb_ra, alv_nil, alv_cons, alv1_int, alv1_ref, alv1_null, alv1_ra, List.length_nil, List.length_cons, Nat.reduceAdd, Nat.reduceLeDiff, Nat.zero_le, Option.toList_some, Option.toList_none, List.cons_append, List.nil_append, or_true, true_or, or_false, false_or, Nat.reduceEqDiff, not_true_eq_false, not_false_eq_true, false_and, and_false, false_implies, true_implies, implies_true, ne_eq, and_self, ok1, a1, a2, a3, zN, zS, kS]
  refine c_X5_copyFrom p2 p1 (Ne.symm p6) (d S p2) (d N p1) y z fun g1 C1 => ?_
  have hM1 := hM.town p2 C1
  have k1 := hM1.1.1
  simp (disch := omega) only [e_X6_record_11, e_X6_record_12, tand, true_and, and_true, nl1_int, nl1_ref, nl1_null, nl1_ra, cat1_int, cat1_ref, cat1_null, stbs_nil, stbs_cons, stb_int, stb_long, stb_ref, stb_null, stb_ra, alv_nil, alv_cons, alv1_int, alv1_ref, alv1_null, alv1_ra, List.length_nil, List.length_cons, Nat.reduceAdd, Nat.reduceLeDiff, Nat.zero_le, Option.toList_some, Option.toList_none, List.cons_append, List.nil_append, or_true, true_or, or_false, false_or, Nat.reduceEqDiff, not_true_eq_false, not_false_eq_true, false_and, and_false, false_implies, true_implies, implies_true, ne_eq, and_self, ok1, k1]
  refine c_pushSpare hM1 fun g2 F2 hM2 => ?_
  simp only [e_X6_record_15, tand, true_and, and_true, nl1_int, nl1_ref, nl1_null, nl1_ra, cat1_int, cat1_ref, cat1_null, stbs_nil, stbs_cons, stb_int, stb_long, stb_ref, stb_null, stb_ra, alv_nil, alv_cons, alv1_int, alv1_ref, alv1_null, alv1_ra, List.length_nil, List.length_cons, Nat.reduceAdd, Nat.reduceLeDiff, Nat.zero_le, Option.toList_some, Option.toList_none, List.cons_append, List.nil_append, or_true, true_or, or_false, false_or, Nat.reduceEqDiff, not_true_eq_false, not_false_eq_true, false_and, and_false, false_implies, true_implies, implies_true, ne_eq, and_self, ok1]
  refine q g2 ⟨_, _, _, _, hM2, ?_, fun j hj => ?_, fun hk => ?_⟩ ((C1.1.mf fun b hb => XT_mK p2.big hb).tr F2.mf) (hM2.1.2.1.trans a2.symm)
  · unfold uW
    rw [if_neg p6]; exact e1
  · unfold uW hsh hcn
    by_cases h0 : j = 0
    · rw [if_pos h0, if_pos rfl, if_pos h0]; exact e1
    · rw [if_neg h0, if_neg h0]
      rw [if_neg (p7 (j - 1) (by omega)).2.2]; exact e2 (j - 1) (by omega)
  · unfold uW
    rw [if_neg (Ne.symm p5)]; exact e3 hk
end Rec
