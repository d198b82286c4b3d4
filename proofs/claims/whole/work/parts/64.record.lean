/-! ===== the model: what it keeps ===== -/
def RelN (w : Rw) (a : Nat → Nat) : Prop := ∃ pos, RelG w a pos 17 ∧ RlN w a pos
theorem RelN.same {w : Rw} {a a' : Nat → Nat} (h : RelN w a) (e : ∀ i, i < 23144 → a' i = a i) : RelN w a' := by
  obtain ⟨pos, h1, h2⟩ := h
  exact ⟨pos, h1.same e, h2.same (fun _ _ => rfl) (e 11 (by decide)) fun x hx => (h1.2.2.1.2.1 x hx).1.1⟩
/-- within a method of the model: the row c is a now, the other rows are A0's, its own ints are g0's -/
def MR (c : Nat) (g0 g : mG) (A0 : Nat → Nat → Nat) (a : Nat → Nat) : Prop := FX g0 g ∧ MD g (ur A0 c a) ∧ gI g 40 = gI g0 40
theorem z44 : (44 : Nat) ≠ 0 := by decide
section MRs
variable {c : Nat} {g0 g : mG} {A0 : Nat → Nat → Nat} {a : Nat → Nat}
theorem MR.of {A : Nat → Nat → Nat} (h : MD g A) : MR c g g A (A c) := ⟨FX.rf, h.ext fun b i _ _ _ => by
  by_cases e : b = c
  · rw [e, ur_eq]
  · rw [ur_ne e], rfl⟩
theorem MR.set (h : MR c g0 g A0 a) (hc : 41 ≤ c ∧ c < 47) (i v : Nat) : MR c g0 (pI g c i (nI v)) A0 (u1 a i v) := ⟨h.1.pI (XD.of (by omega) (by omega)), by rw [← u2_ur]; exact h.2.1.set c i v, by rw [gI_pI_ne (by omega)]; exact h.2.2⟩
theorem MR.k40 (h : MR c g0 g A0 a) : gK g 40 = 8 := h.2.1.1.1
theorem MR.rf (h : MR c g0 g A0 a) (j : Nat) (hj : j < 6) : gR g 40 j = 41 + j := h.2.1.1.2 j hj
theorem MR.kk (h : MR c g0 g A0 a) (h1 : 41 ≤ c) (h2 : c < 47) : gK g c = 11 := (h.2.1.row c h1 h2).1
theorem MR.nn (h : MR c g0 g A0 a) (h1 : 41 ≤ c) (h2 : c < 47) : gN g c = mL c := (h.2.1.row c h1 h2).2.1
theorem MR.rd (h : MR c g0 g A0 a) (h1 : 41 ≤ c) (h2 : c < 47) : ∀ i, i < mL c → gI g c i = nI (a i) := fun i hi => by
  have := (h.2.1.row c h1 h2).2.2 i hi
  rw [ur_eq] at this
  exact this
theorem MR.other (h : MR c g0 g A0 a) (b : Nat) (h1 : 41 ≤ b) (h2 : b < 47) (hb : b ≠ c) : gK g b = 11 ∧ gN g b = mL b ∧ ∀ i, i < mL b → gI g b i = nI (A0 b i) := by
  obtain ⟨k1, k2, k3⟩ := h.2.1.row b h1 h2
  rw [ur_ne hb] at k3
  exact ⟨k1, k2, k3⟩
end MRs
/-- the history of the model, the oldest state first -/
def HI (g : mG) (A : Nat → Nat → Nat) (hist : Nat → Rw) (st : Nat) : Prop := gI g 40 6 = nI st ∧ st ≤ 4 ∧ ∀ j, j < st → RelN (hist j) (fun i => A 44 (23144 * (st - 1 - j) + i))

section Rec_record
variable {Q : mQ} {g0 : mG} {A0 : Nat → Nat → Nat}
theorem record_l1 (q1 : ∀ g a', MR 44 g0 g A0 a' → (∀ i, a' i = if i < 69432 then A0 44 (i + 23144) else A0 44 i) → WP m_X7_record Q 38 [.ref 40, .int (nI 69432)] [] g) : ∀ (d k : Nat) {g : mG} {a' : Nat → Nat}, k + d = 69432 → MR 44 g0 g A0 a' → (∀ i, a' i = if i < k then A0 44 (i + 23144) else A0 44 i) → WP m_X7_record Q 10 [.ref 40, .int (nI k)] [] g := by
  intro d
  induction d with
  | zero =>
    intro k g a' hk M hM
    have e : k = 69432 := by omega
    subst e
    simp (disch := omega) only [e_X7_record_10, e_X7_record_11, e_X7_record_13, tand, true_and, and_true, nl1_int, nl1_ref, nl1_null, nl1_ra, cat1_int, cat1_ref, cat1_null, stbs_nil, stbs_cons, stb_int, stb_long, stb_ref, stb_null, stb_ra, alv_nil, alv_cons, alv1_int, alv1_ref, alv1_null, alv1_ra, List.length_nil, List.length_cons, Nat.reduceAdd, Nat.reduceLeDiff, Nat.zero_le, Option.toList_some, Option.toList_none, List.cons_append, List.nil_append, or_true, true_or, or_false, false_or, Nat.reduceEqDiff, not_true_eq_false, not_false_eq_true, false_and, and_false, false_implies, true_implies, implies_true, ne_eq, and_self, ok1, nI_leE, Nat.le_refl]
    exact q1 g a' M hM
  | succ d ih =>
    intro k g a' hk M hM
    have hlt : ¬ 69432 ≤ k := by omega
    have e1 : a' (k + 23144) = A0 44 (k + 23144) := by rw [hM, if_neg (by omega)]
    have rf := M.rf 3 (by decide)
    have n44 := M.nn (by decide) (by decide)
    have rd := M.rd (by decide) (by decide)
    simp only [mL, Nat.reduceEqDiff, if_true, if_false] at n44 rd
    simp (disch := omega) only [e_X7_record_10, e_X7_record_11, e_X7_record_13, e_X7_record_16, e_X7_record_17, e_X7_record_20, e_X7_record_21, e_X7_record_22, e_X7_record_25, e_X7_record_26, e_X7_record_29, e_X7_record_30, e_X7_record_31, e_X7_record_32, tand, true_and, and_true, nl1_int, nl1_ref, nl1_null, nl1_ra, cat1_int, cat1_ref, cat1_null, stbs_nil, stbs_cons, stb_int, stb_long, stb_ref, stb_null, stb_ra, alv_nil, alv_cons, alv1_int, alv1_ref, alv1_null, alv1_ra, List.length_nil, List.length_cons, Nat.reduceAdd, Nat.reduceLeDiff, Nat.zero_le, Option.toList_some, Option.toList_none, List.cons_append, List.nil_append, or_true, true_or, or_false, false_or, Nat.reduceEqDiff, not_true_eq_false, not_false_eq_true, false_and, and_false, false_implies, true_implies, implies_true, ne_eq, and_self, ok1, nI_leE, hlt, M.k40, rf, M.kk (by decide) (by decide), n44, rd, e1, isIA, vpT, nI_clamp, nI_add, z44]
    simp only [e_X7_record_35, tand, true_and, and_true, nl1_int, nl1_ref, nl1_null, nl1_ra, cat1_int, cat1_ref, cat1_null, stbs_nil, stbs_cons, stb_int, stb_long, stb_ref, stb_null, stb_ra, alv_nil, alv_cons, alv1_int, alv1_ref, alv1_null, alv1_ra, List.length_nil, List.length_cons, Nat.reduceAdd, Nat.reduceLeDiff, Nat.zero_le, Option.toList_some, Option.toList_none, List.cons_append, List.nil_append, or_true, true_or, or_false, false_or, Nat.reduceEqDiff, not_true_eq_false, not_false_eq_true, false_and, and_false, false_implies, true_implies, implies_true, ne_eq, and_self, ok1]
    refine ih (k + 1) (by omega) (M.set (by decide) k (A0 44 (k + 23144))) fun i => ?_
    unfold u1
    by_cases h1 : i = k
    · rw [if_pos h1, if_pos (by omega), h1]
    · rw [if_neg h1, hM]
      by_cases h2 : i < k
      · rw [if_pos h2, if_pos (by omega)]
      · rw [if_neg h2, if_neg (by omega)]
theorem record_l2 {s : Nat} (hs : s ≤ 3) (h6 : gI g0 40 6 = nI s) (q1 : ∀ g a', MR 44 g0 g A0 a' → (∀ i, a' i = if 23144 * s ≤ i ∧ i < 23144 * s + 23144 then A0 41 (i - 23144 * s) else A0 44 i) → WP m_X7_record Q 84 [.ref 40, .int (nI 23144)] [] g) : ∀ (d k : Nat) {g : mG} {a' : Nat → Nat}, k + d = 23144 → MR 44 g0 g A0 a' → (∀ i, a' i = if 23144 * s ≤ i ∧ i < 23144 * s + k then A0 41 (i - 23144 * s) else A0 44 i) → WP m_X7_record Q 50 [.ref 40, .int (nI k)] [] g := by
  intro d
  induction d with
  | zero =>
    intro k g a' hk M hM
    have e : k = 23144 := by omega
    subst e
    simp (disch := omega) only [e_X7_record_50, e_X7_record_51, e_X7_record_54, tand, true_and, and_true, nl1_int, nl1_ref, nl1_null, nl1_ra, cat1_int, cat1_ref, cat1_null, stbs_nil, stbs_cons, stb_int, stb_long, stb_ref, stb_null, stb_ra, alv_nil, alv_cons, alv1_int, alv1_ref, alv1_null, alv1_ra, List.length_nil, List.length_cons, Nat.reduceAdd, Nat.reduceLeDiff, Nat.zero_le, Option.toList_some, Option.toList_none, List.cons_append, List.nil_append, or_true, true_or, or_false, false_or, Nat.reduceEqDiff, not_true_eq_false, not_false_eq_true, false_and, and_false, false_implies, true_implies, implies_true, ne_eq, and_self, ok1, nI_leE, Nat.le_refl]
    exact q1 g a' M hM
  | succ d ih =>
    intro k g a' hk M hM
    have hlt : ¬ 23144 ≤ k := by omega
    have r3 := M.rf 3 (by decide)
    have rS := M.rf (41 - 41) (by decide)
    have n44 := M.nn (by decide) (by decide)
    have oS := M.other 41 (by decide) (by decide) (by decide)
    simp only [mL, Nat.reduceEqDiff, if_true, if_false, Nat.reduceSub, Nat.reduceAdd] at n44 oS rS r3
    have g6 : gI g 40 6 = nI s := by rw [M.2.2]; exact h6
    have zS : (41 : Nat) ≠ 0 := by decide
    simp (disch := omega) only [e_X7_record_50, e_X7_record_51, e_X7_record_54, e_X7_record_57, e_X7_record_58, e_X7_record_61, e_X7_record_64, e_X7_record_65, e_X7_record_68, e_X7_record_69, e_X7_record_70, e_X7_record_71, e_X7_record_72, e_X7_record_75, e_X7_record_76, e_X7_record_77, e_X7_record_78, tand, true_and, and_true, nl1_int, nl1_ref, nl1_null, nl1_ra, cat1_int, cat1_ref, cat1_null, stbs_nil, stbs_cons, stb_int, stb_long, stb_ref, stb_null, stb_ra, alv_nil, alv_cons, alv1_int, alv1_ref, alv1_null, alv1_ra, List.length_nil, List.length_cons, Nat.reduceAdd, Nat.reduceLeDiff, Nat.zero_le, Option.toList_some, Option.toList_none, List.cons_append, List.nil_append, or_true, true_or, or_false, false_or, Nat.reduceEqDiff, not_true_eq_false, not_false_eq_true, false_and, and_false, false_implies, true_implies, implies_true, ne_eq, and_self, ok1, nI_leE, hlt, M.k40, r3, rS, M.kk (by decide) (by decide), n44, oS.1, oS.2.1, oS.2.2, g6, pk_mul, isIA, vpT, nI_clamp, nI_add, z44, zS]
    simp only [e_X7_record_81, tand, true_and, and_true, nl1_int, nl1_ref, nl1_null, nl1_ra, cat1_int, cat1_ref, cat1_null, stbs_nil, stbs_cons, stb_int, stb_long, stb_ref, stb_null, stb_ra, alv_nil, alv_cons, alv1_int, alv1_ref, alv1_null, alv1_ra, List.length_nil, List.length_cons, Nat.reduceAdd, Nat.reduceLeDiff, Nat.zero_le, Option.toList_some, Option.toList_none, List.cons_append, List.nil_append, or_true, true_or, or_false, false_or, Nat.reduceEqDiff, not_true_eq_false, not_false_eq_true, false_and, and_false, false_implies, true_implies, implies_true, ne_eq, and_self, ok1]
    refine ih (k + 1) (by omega) (M.set (by decide) (23144 * s + k) (A0 41 k)) fun i => ?_
    unfold u1
    by_cases h1 : i = 23144 * s + k
    · rw [if_pos h1, if_pos (by omega), show i - 23144 * s = k by omega]
    · rw [if_neg h1, hM]
      by_cases h2 : 23144 * s ≤ i ∧ i < 23144 * s + k
      · rw [if_pos h2, if_pos (by omega)]
      · rw [if_neg h2, if_neg (by omega)]
theorem c_X7_record {w : Rw} {hist : Nat → Rw} {st : Nat} (h : MD g0 A0) (hH : HI g0 A0 hist st) (hw : RelN w (A0 41)) (q : ∀ g' A', FX g0 g' → MD g' A' → (∀ b, b ≠ 44 → A' b = A0 b) → (∀ j, j ≠ 6 → gI g' 40 j = gI g0 40 j) → HI g' A' (hcn w hist) (min (st + 1) 4) → Q none g') : w_X7_record [.ref 40] g0 Q := by
  refine wm_at rfl ⟨trivial, trivial⟩ (show WP m_X7_record Q 0 [.ref 40, .retAddr 0] [] g0 from ?_)
  obtain ⟨h6, hst, hh⟩ := hH
  -- from the second loop on
  have go : ∀ {g1 : mG} {A1 : Nat → Nat → Nat} {s : Nat} {l1 : Value}, nl1 l1 → s ≤ 3 → s + 1 = min (st + 1) 4 → FX g0 g1 → MD g1 A1 → (∀ b, b ≠ 44 → A1 b = A0 b) → (∀ j, j ≠ 6 → gI g1 40 j = gI g0 40 j) → gI g1 40 6 = nI s → (∀ j, j < s → RelN (hist j) (fun i => A1 44 (23144 * (s - 1 - j) + i))) → WP m_X7_record Q 48 [.ref 40, l1] [] g1 := by
    intro g1 A1 s l1 hl hs hs1 F D e1 e2 g6 hr
    simp only [e_X7_record_48, e_X7_record_49, tand, true_and, and_true, nl1_int, nl1_ref, nl1_null, nl1_ra, cat1_int, cat1_ref, cat1_null, stbs_nil, stbs_cons, stb_int, stb_long, stb_ref, stb_null, stb_ra, alv_nil, alv_cons, alv1_int, alv1_ref, alv1_null, alv1_ra, List.length_nil, List.length_cons, Nat.reduceAdd, Nat.reduceLeDiff, Nat.zero_le, Option.toList_some, Option.toList_none, List.cons_append, List.nil_append, or_true, true_or, or_false, false_or, Nat.reduceEqDiff, not_true_eq_false, not_false_eq_true, false_and, and_false, false_implies, true_implies, implies_true, ne_eq, and_self, ok1, hl]
    have M0 : MR 44 g1 g1 A1 (A1 44) := MR.of D
    refine record_l2 hs g6 (fun g2 a2 M2 hM2 => ?_) 23144 0 (by omega) M0 (fun i => by rw [if_neg (by omega)])
    have g6' : gI g2 40 6 = nI s := by rw [M2.2.2]; exact g6
    simp only [e_X7_record_84, e_X7_record_85, e_X7_record_86, e_X7_record_89, e_X7_record_90, e_X7_record_91, e_X7_record_94, tand, true_and, and_true, nl1_int, nl1_ref, nl1_null, nl1_ra, cat1_int, cat1_ref, cat1_null, stbs_nil, stbs_cons, stb_int, stb_long, stb_ref, stb_null, stb_ra, alv_nil, alv_cons, alv1_int, alv1_ref, alv1_null, alv1_ra, List.length_nil, List.length_cons, Nat.reduceAdd, Nat.reduceLeDiff, Nat.zero_le, Option.toList_some, Option.toList_none, List.cons_append, List.nil_append, or_true, true_or, or_false, false_or, Nat.reduceEqDiff, not_true_eq_false, not_false_eq_true, false_and, and_false, false_implies, true_implies, implies_true, ne_eq, and_self, ok1, M2.k40, g6', nI_add]
    refine q _ (ur A1 44 a2) ((F.tr M2.1).pI (XD.of (by decide) (by decide))) (M2.2.1.fld 6 _) (fun b hb => by rw [ur_ne hb]; exact e1 b hb) (fun j hj => ?_) ⟨?_, by omega, fun j hj => ?_⟩
    · rw [gI_diff hj, M2.2.2]; exact e2 j hj
    · rw [gI_same, hs1]
    · rw [← hs1] at hj ⊢
      have key : ∀ i, i < 23144 → ur A1 44 a2 44 (23144 * (s + 1 - 1 - j) + i) = if j = 0 then A0 41 i else A1 44 (23144 * (s - j) + i) := fun i hi => by
        rw [ur_eq, hM2]
        by_cases h0 : j = 0
        · rw [if_pos (by omega), if_pos h0, ← e1 41 (by decide)]
          congr 1; omega
        · rw [if_neg (by omega), if_neg h0]
          congr 1
      unfold hcn
      by_cases h0 : j = 0
      · rw [if_pos h0]
        refine hw.same fun i hi => ?_
        show ur A1 44 a2 44 (23144 * (s + 1 - 1 - j) + i) = _
        rw [key i hi, if_pos h0]
      · rw [if_neg h0]
        refine (hr (j - 1) (by omega)).same fun i hi => ?_
        show ur A1 44 a2 44 (23144 * (s + 1 - 1 - j) + i) = _
        rw [key i hi, if_neg h0]
        show _ = A1 44 (23144 * (s - 1 - (j - 1)) + i)
        congr 2; omega
  by_cases h4 : st = 4
  · subst h4
    have s1 : nI 4 - nI 1 = nI 3 := by decide
    simp (disch := omega) only [e_X7_record_0, e_X7_record_1, e_X7_record_4, e_X7_record_5, e_X7_record_8, e_X7_record_9, tand, true_and, and_true, nl1_int, nl1_ref, nl1_null, nl1_ra, cat1_int, cat1_ref, cat1_null, stbs_nil, stbs_cons, stb_int, stb_long, stb_ref, stb_null, stb_ra, alv_nil, alv_cons, alv1_int, alv1_ref, alv1_null, alv1_ra, List.length_nil, List.length_cons, Nat.reduceAdd, Nat.reduceLeDiff, Nat.zero_le, Option.toList_some, Option.toList_none, List.cons_append, List.nil_append, or_true, true_or, or_false, false_or, Nat.reduceEqDiff, not_true_eq_false, not_false_eq_true, false_and, and_false, false_implies, true_implies, implies_true, ne_eq, and_self, ok1, h.1.1, h6]
    refine record_l1 (fun g1 a1 M1 hM1 => ?_) 69432 0 (by omega) (MR.of h) (fun i => by rw [if_neg (by omega)])
    have g6' : gI g1 40 6 = nI 4 := by rw [M1.2.2]; exact h6
    simp only [e_X7_record_38, e_X7_record_39, e_X7_record_40, e_X7_record_43, e_X7_record_44, e_X7_record_45, tand, true_and, and_true, nl1_int, nl1_ref, nl1_null, nl1_ra, cat1_int, cat1_ref, cat1_null, stbs_nil, stbs_cons, stb_int, stb_long, stb_ref, stb_null, stb_ra, alv_nil, alv_cons, alv1_int, alv1_ref, alv1_null, alv1_ra, List.length_nil, List.length_cons, Nat.reduceAdd, Nat.reduceLeDiff, Nat.zero_le, Option.toList_some, Option.toList_none, List.cons_append, List.nil_append, or_true, true_or, or_false, false_or, Nat.reduceEqDiff, not_true_eq_false, not_false_eq_true, false_and, and_false, false_implies, true_implies, implies_true, ne_eq, and_self, ok1, M1.k40, g6', s1]
    refine go trivial (Nat.le_refl 3) (by decide) (M1.1.pI (XD.of (by decide) (by decide))) (M1.2.1.fld 6 _) (fun b hb => by rw [ur_ne hb]) (fun j hj => by rw [gI_diff hj, M1.2.2]) gI_same (fun j hj => ?_)
    refine (hh j (by omega)).same fun i hi => ?_
    show ur A0 44 a1 44 (23144 * (3 - 1 - j) + i) = A0 44 (23144 * (4 - 1 - j) + i)
    rw [ur_eq, hM1, if_pos (by omega)]
    congr 1; omega
  · have hn : (nI st = nI 4) = False := by
      rw [nI_eqE (by omega) (by omega)]
      exact propext ⟨fun z => h4 z, fun z => z.elim⟩
    simp (disch := omega) only [e_X7_record_0, e_X7_record_1, e_X7_record_4, e_X7_record_5, tand, true_and, and_true, nl1_int, nl1_ref, nl1_null, nl1_ra, cat1_int, cat1_ref, cat1_null, stbs_nil, stbs_cons, stb_int, stb_long, stb_ref, stb_null, stb_ra, alv_nil, alv_cons, alv1_int, alv1_ref, alv1_null, alv1_ra, List.length_nil, List.length_cons, Nat.reduceAdd, Nat.reduceLeDiff, Nat.zero_le, Option.toList_some, Option.toList_none, List.cons_append, List.nil_append, or_true, true_or, or_false, false_or, Nat.reduceEqDiff, not_true_eq_false, not_false_eq_true, false_and, and_false, false_implies, true_implies, implies_true, ne_eq, and_self, ok1, h.1.1, h6, hn]
    exact go trivial (by omega) (by omega) FX.rf h (fun _ _ => rfl) (fun _ _ => rfl) h6 hh
end Rec_record

section Rec_recordBefore
variable {Q : mQ} {g0 : mG} {A0 : Nat → Nat → Nat}
theorem recordBefore_l1 (q1 : ∀ g a', MR 44 g0 g A0 a' → (∀ i, a' i = if i < 69432 then A0 44 (i + 23144) else A0 44 i) → WP m_X7_recordBefore Q 38 [.ref 40, .int (nI 69432)] [] g) : ∀ (d k : Nat) {g : mG} {a' : Nat → Nat}, k + d = 69432 → MR 44 g0 g A0 a' → (∀ i, a' i = if i < k then A0 44 (i + 23144) else A0 44 i) → WP m_X7_recordBefore Q 10 [.ref 40, .int (nI k)] [] g := by
  intro d
  induction d with
  | zero =>
    intro k g a' hk M hM
    have e : k = 69432 := by omega
    subst e
    simp (disch := omega) only [e_X7_recordBefore_10, e_X7_recordBefore_11, e_X7_recordBefore_13, tand, true_and, and_true, nl1_int, nl1_ref, nl1_null, nl1_ra, cat1_int, cat1_ref, cat1_null, stbs_nil, stbs_cons, stb_int, stb_long, stb_ref, stb_null, stb_ra, alv_nil, alv_cons, alv1_int, alv1_ref, alv1_null, alv1_ra, List.length_nil, List.length_cons, Nat.reduceAdd, Nat.reduceLeDiff, Nat.zero_le, Option.toList_some, Option.toList_none, List.cons_append, List.nil_append, or_true, true_or, or_false, false_or, Nat.reduceEqDiff, not_true_eq_false, not_false_eq_true, false_and, and_false, false_implies, true_implies, implies_true, ne_eq, and_self, ok1, nI_leE, Nat.le_refl]
    exact q1 g a' M hM
  | succ d ih =>
    intro k g a' hk M hM
    have hlt : ¬ 69432 ≤ k := by omega
    have e1 : a' (k + 23144) = A0 44 (k + 23144) := by rw [hM, if_neg (by omega)]
    have rf := M.rf 3 (by decide)
    have n44 := M.nn (by decide) (by decide)
    have rd := M.rd (by decide) (by decide)
    simp only [mL, Nat.reduceEqDiff, if_true, if_false] at n44 rd
    simp (disch := omega) only [e_X7_recordBefore_10, e_X7_recordBefore_11, e_X7_recordBefore_13, e_X7_recordBefore_16, e_X7_recordBefore_17, e_X7_recordBefore_20, e_X7_recordBefore_21, e_X7_recordBefore_22, e_X7_recordBefore_25, e_X7_recordBefore_26, e_X7_recordBefore_29, e_X7_recordBefore_30, e_X7_recordBefore_31, e_X7_recordBefore_32, tand, true_and, and_true, nl1_int, nl1_ref, nl1_null, nl1_ra, cat1_int, cat1_ref, cat1_null, stbs_nil, stbs_cons, stb_int, stb_long, stb_ref, stb_null, stb_ra, alv_nil, alv_cons, alv1_int, alv1_ref, alv1_null, alv1_ra, List.length_nil, List.length_cons, Nat.reduceAdd, Nat.reduceLeDiff, Nat.zero_le, Option.toList_some, Option.toList_none, List.cons_append, List.nil_append, or_true, true_or, or_false, false_or, Nat.reduceEqDiff, not_true_eq_false, not_false_eq_true, false_and, and_false, false_implies, true_implies, implies_true, ne_eq, and_self, ok1, nI_leE, hlt, M.k40, rf, M.kk (by decide) (by decide), n44, rd, e1, isIA, vpT, nI_clamp, nI_add, z44]
    simp only [e_X7_recordBefore_35, tand, true_and, and_true, nl1_int, nl1_ref, nl1_null, nl1_ra, cat1_int, cat1_ref, cat1_null, stbs_nil, stbs_cons, stb_int, stb_long, stb_ref, stb_null, stb_ra, alv_nil, alv_cons, alv1_int, alv1_ref, alv1_null, alv1_ra, List.length_nil, List.length_cons, Nat.reduceAdd, Nat.reduceLeDiff, Nat.zero_le, Option.toList_some, Option.toList_none, List.cons_append, List.nil_append, or_true, true_or, or_false, false_or, Nat.reduceEqDiff, not_true_eq_false, not_false_eq_true, false_and, and_false, false_implies, true_implies, implies_true, ne_eq, and_self, ok1]
    refine ih (k + 1) (by omega) (M.set (by decide) k (A0 44 (k + 23144))) fun i => ?_
    unfold u1
    by_cases h1 : i = k
    · rw [if_pos h1, if_pos (by omega), h1]
    · rw [if_neg h1, hM]
      by_cases h2 : i < k
      · rw [if_pos h2, if_pos (by omega)]
      · rw [if_neg h2, if_neg (by omega)]
theorem recordBefore_l2 {s : Nat} (hs : s ≤ 3) (h6 : gI g0 40 6 = nI s) (q1 : ∀ g a', MR 44 g0 g A0 a' → (∀ i, a' i = if 23144 * s ≤ i ∧ i < 23144 * s + 23144 then A0 43 (i - 23144 * s) else A0 44 i) → WP m_X7_recordBefore Q 84 [.ref 40, .int (nI 23144)] [] g) : ∀ (d k : Nat) {g : mG} {a' : Nat → Nat}, k + d = 23144 → MR 44 g0 g A0 a' → (∀ i, a' i = if 23144 * s ≤ i ∧ i < 23144 * s + k then A0 43 (i - 23144 * s) else A0 44 i) → WP m_X7_recordBefore Q 50 [.ref 40, .int (nI k)] [] g := by
  intro d
  induction d with
  | zero =>
    intro k g a' hk M hM
    have e : k = 23144 := by omega
    subst e
    simp (disch := omega) only [e_X7_recordBefore_50, e_X7_recordBefore_51, e_X7_recordBefore_54, tand, true_and, and_true, nl1_int, nl1_ref, nl1_null, nl1_ra, cat1_int, cat1_ref, cat1_null, stbs_nil, stbs_cons, stb_int, stb_long, stb_ref, stb_null, stb_ra, alv_nil, alv_cons, alv1_int, alv1_ref, alv1_null, alv1_ra, List.length_nil, List.length_cons, Nat.reduceAdd, Nat.reduceLeDiff, Nat.zero_le, Option.toList_some, Option.toList_none, List.cons_append, List.nil_append, or_true, true_or, or_false, false_or, Nat.reduceEqDiff, not_true_eq_false, not_false_eq_true, false_and, and_false, false_implies, true_implies, implies_true, ne_eq, and_self, ok1, nI_leE, Nat.le_refl]
    exact q1 g a' M hM
  | succ d ih =>
    intro k g a' hk M hM
    have hlt : ¬ 23144 ≤ k := by omega
    have r3 := M.rf 3 (by decide)
    have rS := M.rf (43 - 41) (by decide)
    have n44 := M.nn (by decide) (by decide)
    have oS := M.other 43 (by decide) (by decide) (by decide)
    simp only [mL, Nat.reduceEqDiff, if_true, if_false, Nat.reduceSub, Nat.reduceAdd] at n44 oS rS r3
    have g6 : gI g 40 6 = nI s := by rw [M.2.2]; exact h6
    have zS : (43 : Nat) ≠ 0 := by decide
    simp (disch := omega) only [e_X7_recordBefore_50, e_X7_recordBefore_51, e_X7_recordBefore_54, e_X7_recordBefore_57, e_X7_recordBefore_58, e_X7_recordBefore_61, e_X7_recordBefore_64, e_X7_recordBefore_65, e_X7_recordBefore_68, e_X7_recordBefore_69, e_X7_recordBefore_70, e_X7_recordBefore_71, e_X7_recordBefore_72, e_X7_recordBefore_75, e_X7_recordBefore_76, e_X7_recordBefore_77, e_X7_recordBefore_78, tand, true_and, and_true, nl1_int, nl1_ref, nl1_null, nl1_ra, cat1_int, cat1_ref, cat1_null, stbs_nil, stbs_cons, stb_int, stb_long, stb_ref, stb_null, stb_ra, alv_nil, alv_cons, alv1_int, alv1_ref, alv1_null, alv1_ra, List.length_nil, List.length_cons, Nat.reduceAdd, Nat.reduceLeDiff, Nat.zero_le, Option.toList_some, Option.toList_none, List.cons_append, List.nil_append, or_true, true_or, or_false, false_or, Nat.reduceEqDiff, not_true_eq_false, not_false_eq_true, false_and, and_false, false_implies, true_implies, implies_true, ne_eq, and_self, ok1, nI_leE, hlt, M.k40, r3, rS, M.kk (by decide) (by decide), n44, oS.1, oS.2.1, oS.2.2, g6, pk_mul, isIA, vpT, nI_clamp, nI_add, z44, zS]
    simp only [e_X7_recordBefore_81, tand, true_and, and_true, nl1_int, nl1_ref, nl1_null, nl1_ra, cat1_int, cat1_ref, cat1_null, stbs_nil, stbs_cons, stb_int, stb_long, stb_ref, stb_null, stb_ra, alv_nil, alv_cons, alv1_int, alv1_ref, alv1_null, alv1_ra, List.length_nil, List.length_cons, Nat.reduceAdd, Nat.reduceLeDiff, Nat.zero_le, Option.toList_some, Option.toList_none, List.cons_append, List.nil_append, or_true, true_or, or_false, false_or, Nat.reduceEqDiff, not_true_eq_false, not_false_eq_true, false_and, and_false, false_implies, true_implies, implies_true, ne_eq, and_self, ok1]
    refine ih (k + 1) (by omega) (M.set (by decide) (23144 * s + k) (A0 43 k)) fun i => ?_
    unfold u1
    by_cases h1 : i = 23144 * s + k
    · rw [if_pos h1, if_pos (by omega), show i - 23144 * s = k by omega]
    · rw [if_neg h1, hM]
      by_cases h2 : 23144 * s ≤ i ∧ i < 23144 * s + k
      · rw [if_pos h2, if_pos (by omega)]
      · rw [if_neg h2, if_neg (by omega)]
theorem c_X7_recordBefore {w : Rw} {hist : Nat → Rw} {st : Nat} (h : MD g0 A0) (hH : HI g0 A0 hist st) (hw : RelN w (A0 43)) (q : ∀ g' A', FX g0 g' → MD g' A' → (∀ b, b ≠ 44 → A' b = A0 b) → (∀ j, j ≠ 6 → gI g' 40 j = gI g0 40 j) → HI g' A' (hcn w hist) (min (st + 1) 4) → Q none g') : w_X7_recordBefore [.ref 40] g0 Q := by
  refine wm_at rfl ⟨trivial, trivial⟩ (show WP m_X7_recordBefore Q 0 [.ref 40, .retAddr 0] [] g0 from ?_)
  obtain ⟨h6, hst, hh⟩ := hH
  -- from the second loop on
  have go : ∀ {g1 : mG} {A1 : Nat → Nat → Nat} {s : Nat} {l1 : Value}, nl1 l1 → s ≤ 3 → s + 1 = min (st + 1) 4 → FX g0 g1 → MD g1 A1 → (∀ b, b ≠ 44 → A1 b = A0 b) → (∀ j, j ≠ 6 → gI g1 40 j = gI g0 40 j) → gI g1 40 6 = nI s → (∀ j, j < s → RelN (hist j) (fun i => A1 44 (23144 * (s - 1 - j) + i))) → WP m_X7_recordBefore Q 48 [.ref 40, l1] [] g1 := by
    intro g1 A1 s l1 hl hs hs1 F D e1 e2 g6 hr
    simp only [e_X7_recordBefore_48, e_X7_recordBefore_49, tand, true_and, and_true, nl1_int, nl1_ref, nl1_null, nl1_ra, cat1_int, cat1_ref, cat1_null, stbs_nil, stbs_cons, stb_int, stb_long, stb_ref, stb_null, stb_ra, alv_nil, alv_cons, alv1_int, alv1_ref, alv1_null, alv1_ra, List.length_nil, List.length_cons, Nat.reduceAdd, Nat.reduceLeDiff, Nat.zero_le, Option.toList_some, Option.toList_none, List.cons_append, List.nil_append, or_true, true_or, or_false, false_or, Nat.reduceEqDiff, not_true_eq_false, not_false_eq_true, false_and, and_false, false_implies, true_implies, implies_true, ne_eq, and_self, ok1, hl]
    have M0 : MR 44 g1 g1 A1 (A1 44) := MR.of D
    refine recordBefore_l2 hs g6 (fun g2 a2 M2 hM2 => ?_) 23144 0 (by omega) M0 (fun i => by rw [if_neg (by omega)])
    have g6' : gI g2 40 6 = nI s := by rw [M2.2.2]; exact g6
    simp only [e_X7_recordBefore_84, e_X7_recordBefore_85, e_X7_recordBefore_86, e_X7_recordBefore_89, e_X7_recordBefore_90, e_X7_recordBefore_91, e_X7_recordBefore_94, tand, true_and, and_true, nl1_int, nl1_ref, nl1_null, nl1_ra, cat1_int, cat1_ref, cat1_null, stbs_nil, stbs_cons, stb_int, stb_long, stb_ref, stb_null, stb_ra, alv_nil, alv_cons, alv1_int, alv1_ref, alv1_null, alv1_ra, List.length_nil, List.length_cons, Nat.reduceAdd, Nat.reduceLeDiff, Nat.zero_le, Option.toList_some, Option.toList_none, List.cons_append, List.nil_append, or_true, true_or, or_false, false_or, Nat.reduceEqDiff, not_true_eq_false, not_false_eq_true, false_and, and_false, false_implies, true_implies, implies_true, ne_eq, and_self, ok1, M2.k40, g6', nI_add]
    refine q _ (ur A1 44 a2) ((F.tr M2.1).pI (XD.of (by decide) (by decide))) (M2.2.1.fld 6 _) (fun b hb => by rw [ur_ne hb]; exact e1 b hb) (fun j hj => ?_) ⟨?_, by omega, fun j hj => ?_⟩
    · rw [gI_diff hj, M2.2.2]; exact e2 j hj
    · rw [gI_same, hs1]
    · rw [← hs1] at hj ⊢
      have key : ∀ i, i < 23144 → ur A1 44 a2 44 (23144 * (s + 1 - 1 - j) + i) = if j = 0 then A0 43 i else A1 44 (23144 * (s - j) + i) := fun i hi => by
        rw [ur_eq, hM2]
        by_cases h0 : j = 0
        · rw [if_pos (by omega), if_pos h0, ← e1 43 (by decide)]
          congr 1; omega
        · rw [if_neg (by omega), if_neg h0]
          congr 1
      unfold hcn
      by_cases h0 : j = 0
      · rw [if_pos h0]
        refine hw.same fun i hi => ?_
        show ur A1 44 a2 44 (23144 * (s + 1 - 1 - j) + i) = _
        rw [key i hi, if_pos h0]
      · rw [if_neg h0]
        refine (hr (j - 1) (by omega)).same fun i hi => ?_
        show ur A1 44 a2 44 (23144 * (s + 1 - 1 - j) + i) = _
        rw [key i hi, if_neg h0]
        show _ = A1 44 (23144 * (s - 1 - (j - 1)) + i)
        congr 2; omega
  by_cases h4 : st = 4
  · subst h4
    have s1 : nI 4 - nI 1 = nI 3 := by decide
    simp (disch := omega) only [e_X7_recordBefore_0, e_X7_recordBefore_1, e_X7_recordBefore_4, e_X7_recordBefore_5, e_X7_recordBefore_8, e_X7_recordBefore_9, tand, true_and, and_true, nl1_int, nl1_ref, nl1_null, nl1_ra, cat1_int, cat1_ref, cat1_null, stbs_nil, stbs_cons, stb_int, stb_long, stb_ref, stb_null, stb_ra, alv_nil, alv_cons, alv1_int, alv1_ref, alv1_null, alv1_ra, List.length_nil, List.length_cons, Nat.reduceAdd, Nat.reduceLeDiff, Nat.zero_le, Option.toList_some, Option.toList_none, List.cons_append, List.nil_append, or_true, true_or, or_false, false_or, Nat.reduceEqDiff, not_true_eq_false, not_false_eq_true, false_and, and_false, false_implies, true_implies, implies_true, ne_eq, and_self, ok1, h.1.1, h6]
    refine recordBefore_l1 (fun g1 a1 M1 hM1 => ?_) 69432 0 (by omega) (MR.of h) (fun i => by rw [if_neg (by omega)])
    have g6' : gI g1 40 6 = nI 4 := by rw [M1.2.2]; exact h6
    simp only [e_X7_recordBefore_38, e_X7_recordBefore_39, e_X7_recordBefore_40, e_X7_recordBefore_43, e_X7_recordBefore_44, e_X7_recordBefore_45, tand, true_and, and_true, nl1_int, nl1_ref, nl1_null, nl1_ra, cat1_int, cat1_ref, cat1_null, stbs_nil, stbs_cons, stb_int, stb_long, stb_ref, stb_null, stb_ra, alv_nil, alv_cons, alv1_int, alv1_ref, alv1_null, alv1_ra, List.length_nil, List.length_cons, Nat.reduceAdd, Nat.reduceLeDiff, Nat.zero_le, Option.toList_some, Option.toList_none, List.cons_append, List.nil_append, or_true, true_or, or_false, false_or, Nat.reduceEqDiff, not_true_eq_false, not_false_eq_true, false_and, and_false, false_implies, true_implies, implies_true, ne_eq, and_self, ok1, M1.k40, g6', s1]
    refine go trivial (Nat.le_refl 3) (by decide) (M1.1.pI (XD.of (by decide) (by decide))) (M1.2.1.fld 6 _) (fun b hb => by rw [ur_ne hb]) (fun j hj => by rw [gI_diff hj, M1.2.2]) gI_same (fun j hj => ?_)
    refine (hh j (by omega)).same fun i hi => ?_
    show ur A0 44 a1 44 (23144 * (3 - 1 - j) + i) = A0 44 (23144 * (4 - 1 - j) + i)
    rw [ur_eq, hM1, if_pos (by omega)]
    congr 1; omega
  · have hn : (nI st = nI 4) = False := by
      rw [nI_eqE (by omega) (by omega)]
      exact propext ⟨fun z => h4 z, fun z => z.elim⟩
    simp (disch := omega) only [e_X7_recordBefore_0, e_X7_recordBefore_1, e_X7_recordBefore_4, e_X7_recordBefore_5, tand, true_and, and_true, nl1_int, nl1_ref, nl1_null, nl1_ra, cat1_int, cat1_ref, cat1_null, stbs_nil, stbs_cons, stb_int, stb_long, stb_ref, stb_null, stb_ra, alv_nil, alv_cons, alv1_int, alv1_ref, alv1_null, alv1_ra, List.length_nil, List.length_cons, Nat.reduceAdd, Nat.reduceLeDiff, Nat.zero_le, Option.toList_some, Option.toList_none, List.cons_append, List.nil_append, or_true, true_or, or_false, false_or, Nat.reduceEqDiff, not_true_eq_false, not_false_eq_true, false_and, and_false, false_implies, true_implies, implies_true, ne_eq, and_self, ok1, h.1.1, h6, hn]
    exact go trivial (by omega) (by omega) FX.rf h (fun _ _ => rfl) (fun _ _ => rfl) h6 hh
end Rec_recordBefore
