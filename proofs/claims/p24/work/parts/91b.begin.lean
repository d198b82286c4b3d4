/-! ===== the law's beginning ===== -/
theorem w0R_good : Good w0R 0 := ⟨w0R_inv, fun i j _ _ h _ => absurd (stF_spec h).1 (Nat.lt_irrefl 0)⟩
/-- the heap as it is before the law begins -/
def gBeg (L : Nat) (xs : Nat → Int32) : mG := (fun b => if b = 2 ∨ b = 3 ∨ b = 4 ∨ b = 5 then 10 else 0, fun b => if b = 2 then L else if b = 3 ∨ b = 4 ∨ b = 5 then 5 else 0, fun b => if b = 2 then xs else if b = 3 then fun s => nI (seL s) else if b = 4 then fun s => nI (seM s) else if b = 5 then fun s => nI (w0R.1 (11 + s)) else fun _ => 0, fun _ _ => 0, 0, 0)
theorem law_begin {xs : Nat → Int32} {L : Nat} {Q : mQ} (hL : L ≤ 260) (q : ∀ g, JR g → Q (some (.int 1)) g) : WP m_L_law Q 0 [.ref 2, .retAddr 0, .retAddr 0, .retAddr 0, .retAddr 0, .retAddr 0, .retAddr 0, .retAddr 0, .retAddr 0, .retAddr 0, .retAddr 0, .retAddr 0] [] (gBeg L xs) := by
  have b2 : gK (gBeg L xs) 2 = 10 := rfl
  have bk : ∀ b, 5 < b → gK (gBeg L xs) b = 0 := fun b hb => if_neg (by omega)
  simp only [e_L_law_0, tand, true_and, and_true, nl1_int, nl1_ref, nl1_null, nl1_ra, cat1_int, cat1_ref, cat1_null, stbs_nil, stbs_cons, stb_int, stb_long, stb_ref, stb_null, stb_ra, alv_nil, alv_cons, alv1_int, alv1_ref, alv1_null, alv1_ra, List.length_nil, List.length_cons, Nat.reduceAdd, Nat.reduceLeDiff, Nat.zero_le, Option.toList_some, Option.toList_none, List.cons_append, List.nil_append, or_true, true_or, or_false, false_or, Nat.reduceEqDiff, not_true_eq_false, not_false_eq_true, false_and, and_false, false_implies, true_implies, implies_true, ne_eq, and_self, ok1, b2, frsh]
  refine ⟨20, ⟨bk 20 (by decide), by rw [show 20 - 1 = 19 from rfl, bk 19 (by decide)]; decide, by decide⟩, ?_⟩
  generalize hg1 : nw (gBeg L xs) 20 7 0 (xn 7) (fun _ => 0) = g1
  have F1 : NF (fun b => b = 20) (gBeg L xs) g1 1 7 := by rw [← hg1]; exact NF.nw rfl
  have k20 : gK g1 20 = 7 := by rw [← hg1, gK_nw, if_pos rfl]
  have i20 : gI g1 20 = fun _ => 0 := by rw [← hg1, gI_nw, if_pos rfl]
  have kz : ∀ b, 5 < b → b ≠ 20 → gK g1 b = 0 := fun b hb hne => (F1.1 b hne).1.trans (bk b hb)
  have f : ∀ b, b < 6 → gK g1 b = gK (gBeg L xs) b ∧ gN g1 b = gN (gBeg L xs) b ∧ gI g1 b = gI (gBeg L xs) b := fun b hb => by
    have q := F1.1 b (show b ≠ 20 by omega)
    have q2 := q.2 (by omega)
    exact ⟨q.1, q2.1, q2.2.1⟩
  have S1 : Scr g1 := ⟨kz 9 (by decide) (by decide), kz 8 (by decide) (by decide)⟩
  have FS1 : FS g1 := ⟨(f 5 (by decide)).1.trans rfl, (f 5 (by decide)).2.1.trans rfl, fun s _ => by rw [(f 5 (by decide)).2.2]; rfl⟩
  have ST1 : STt g1 := ⟨⟨(f 3 (by decide)).1.trans rfl, (f 3 (by decide)).2.1.trans rfl, fun s _ => by rw [(f 3 (by decide)).2.2]; rfl⟩, ⟨(f 4 (by decide)).1.trans rfl, (f 4 (by decide)).2.1.trans rfl, fun s _ => by rw [(f 4 (by decide)).2.2]; rfl⟩, FS1.1, FS1.2.1⟩
  have c1 : gC g1 ≤ 1 := F1.2.1
  have s1 : gS g1 ≤ 7 := F1.2.2
  have k2 : gK g1 2 = 10 := (f 2 (by decide)).1.trans rfl
  have n2 : gN g1 2 = L := (f 2 (by decide)).2.1.trans rfl
  have r2 : gI g1 2 = xs := (f 2 (by decide)).2.2.trans rfl
  simp (disch := omega) only [e_L_law_3, e_L_law_4, tand, true_and, and_true, nl1_int, nl1_ref, nl1_null, nl1_ra, cat1_int, cat1_ref, cat1_null, stbs_nil, stbs_cons, stb_int, stb_long, stb_ref, stb_null, stb_ra, alv_nil, alv_cons, alv1_int, alv1_ref, alv1_null, alv1_ra, List.length_nil, List.length_cons, Nat.reduceAdd, Nat.reduceLeDiff, Nat.zero_le, Option.toList_some, Option.toList_none, List.cons_append, List.nil_append, or_true, true_or, or_false, false_or, Nat.reduceEqDiff, not_true_eq_false, not_false_eq_true, false_and, and_false, false_implies, true_implies, implies_true, ne_eq, and_self, ok1, k2, k20]
  refine c_X6_init k20 i20 (fun z h1 h2 => kz z (by omega) (by omega)) (fun z h1 h2 => kz z (by omega) (by omega)) S1 FS1 ST1 (by omega) (by omega) fun g2 hA F2 rows => ?_
  have x2 : ∀ b, ¬ XM b → b ≠ 9 → gK g2 b = gK g1 b ∧ gN g2 b = gN g1 b ∧ gI g2 b = gI g1 b := fun b hb h9 => by
    have q := F2.1 b hb
    have q2 := q.2 h9
    exact ⟨q.1, q2.1, q2.2.1⟩
  have m2 := x2 2 (fun z => by unfold XM at z; omega) (by decide)
  have k2' : gK g2 2 = 10 := m2.1.trans k2
  have k20' := hA.k20
  have S2 : SX g2 xs L := ⟨k2', m2.2.1.trans n2, fun j _ => by rw [m2.2.2, r2]⟩
  simp (disch := omega) only [e_L_law_7, e_L_law_7n, e_L_law_8, e_L_law_9, tand, true_and, and_true, nl1_int, nl1_ref, nl1_null, nl1_ra, cat1_int, cat1_ref, cat1_null, stbs_nil, stbs_cons, stb_int, stb_long, stb_ref, stb_null, stb_ra, alv_nil, alv_cons, alv1_int, alv1_ref, alv1_null, alv1_ra, List.length_nil, List.length_cons, Nat.reduceAdd, Nat.reduceLeDiff, Nat.zero_le, Option.toList_some, Option.toList_none, List.cons_append, List.nil_append, or_true, true_or, or_false, false_or, Nat.reduceEqDiff, not_true_eq_false, not_false_eq_true, false_and, and_false, false_implies, true_implies, implies_true, ne_eq, and_self, ok1]
  exact law_loop hL q 22 0 rfl S2 hA w0R_good (fun _ => rfl) (fun _ => rfl) (fun _ => rfl) (fun _ => rfl) (fun _ => rfl) (fun _ => rfl) (fun _ => rfl) (fun _ => rfl) (fun _ => rfl)
theorem law_wp {xs : Nat → Int32} {L : Nat} (hL : L ≤ 260) : ∃ ge : mG, WP m_L_law (Qx (some (.int 1)) ge) 0 [.ref 2, .retAddr 0, .retAddr 0, .retAddr 0, .retAddr 0, .retAddr 0, .retAddr 0, .retAddr 0, .retAddr 0, .retAddr 0, .retAddr 0, .retAddr 0] [] (gBeg L xs) ∧ gC ge ≤ 600000 ∧ gS ge ≤ 4800000 := by
  obtain ⟨v, ge, ⟨hv, hJ⟩, _, _, h⟩ := WP_det lo_L_law (law_begin (xs := xs) hL (Q := fun v g => v = some (.int 1) ∧ JR g) fun g hJ => ⟨rfl, hJ⟩)
  refine ⟨ge, ?_, hJ.total.2, hJ.total.1⟩
  subst hv
  exact h _ ⟨rfl, rfl⟩
