/-! ===== the model: what is told ===== -/
theorem beF_iff {w : Rw} {i j : Nat} : beF w i j = true ↔ (wF w i 4 = wF w j 4 ∧ wF w i 0 < wF w j 0) ∨ (wF w i 4 ≠ wF w j 4 ∧ ((wF w i 1 = 0 ∧ wF w i 4 < wF w j 4) ∨ (wF w i 1 ≠ 0 ∧ wF w j 4 < wF w i 4))) := by
  unfold beF
  by_cases h1 : wF w i 4 = wF w j 4
  · rw [if_pos h1, decide_eq_true_eq]; omega
  · rw [if_neg h1]
    by_cases h2 : wF w i 1 = 0
    · rw [if_pos h2, decide_eq_true_eq]; omega
    · rw [if_neg h2, decide_eq_true_eq]; omega
theorem beF_tr {w : Rw} {i j k : Nat} (hk : wF w i 1 = wF w j 1) (h1 : beF w i j = true) (h2 : beF w j k = true) : beF w i k = true := by
  rw [beF_iff] at h1 h2 ⊢
  omega
theorem beF_ir {w : Rw} {i : Nat} : beF w i i = false := by
  cases h : beF w i i with
  | false => rfl
  | true => rw [beF_iff] at h; omega
theorem beF_to {w : Rw} {i j : Nat} (hk : wF w i 1 = wF w j 1) (hn : wF w i 0 ≠ wF w j 0) (h : ¬ beF w i j = true) : beF w j i = true := by
  rw [beF_iff] at h ⊢
  omega
theorem sm_lt {f g : Nat → Nat} {a : Nat} : ∀ (n : Nat), a < n → (∀ i, i < n → f i ≤ g i) → f a < g a → sm f n < sm g n
  | 0, h, _, _ => absurd h (Nat.not_lt_zero a)
  | n + 1, h, hle, hlt => by
    simp only [sm]
    by_cases e : a = n
    · have := sm_le n fun i hi => hle i (by omega)
      rw [e] at hlt
      omega
    · have := sm_lt (f := f) (g := g) n (by omega) (fun i hi => hle i (by omega)) hlt
      have := hle n (by omega)
      omega
theorem nB_le {p q : Bool} (h : p = true → q = true) : nB p ≤ nB q := by
  cases p with
  | false => exact Nat.zero_le _
  | true => rw [h rfl]; exact Nat.le_refl _
theorem btN_lt {w : Rw} {b i j : Nat} (hi : i < 17) (si : stF w b i = true) (sj : stF w b j = true) (h : beF w i j = true) : btN w i < btN w j := by
  obtain ⟨i1, i2⟩ := stF_spec si
  obtain ⟨j1, j2⟩ := stF_spec sj
  unfold btN
  rw [i2, j2]
  refine sm_lt (a := i) 17 hi (fun x _ => nB_le fun hx => ?_) ?_
  · rw [Bool.and_eq_true] at hx ⊢
    obtain ⟨x1, x2⟩ := stF_spec hx.1
    exact ⟨hx.1, beF_tr (x2.trans i2.symm) hx.2 h⟩
  · show nB (stF w b i && beF w i i) < nB (stF w b i && beF w i j)
    rw [beF_ir, Bool.and_false, si, h]
    decide
theorem btN_inj {w : Rw} {b i j : Nat} (hI : InvA w) (hi : i < 17) (hj : j < 17) (si : stF w b i = true) (sj : stF w b j = true) (h : btN w i = btN w j) : i = j := by
  obtain ⟨i1, i2⟩ := stF_spec si
  obtain ⟨j1, j2⟩ := stF_spec sj
  by_cases e : wF w i 0 = wF w j 0
  · exact hI.2.2.1 i j hi hj i1 j1 e
  · by_cases h2 : beF w i j = true
    · have := btN_lt hi si sj h2
      omega
    · have := btN_lt hj sj si (beF_to (i2.trans j2.symm) e h2)
      omega
theorem btN_le {w : Rw} {i : Nat} : btN w i ≤ 17 := by
  unfold btN
  have h := sm_le (f := fun j => nB (stF w (wF w i 1) j && beF w j i)) (g := fun _ => 1) 17 (fun j _ => by
    show nB _ ≤ 1
    unfold nB
    split <;> omega)
  have e : sm (fun _ => 1) 17 = 17 := by simp only [sm]
  omega
/-- how many orders of the side b of the model are ahead of k -/
def cnM (a : Nat → Nat) (b k x : Nat) : Nat := nB (!decide (x = k) && (decide (a (96 + x) = b) && ahB a x k))
section Mtl
variable {g : mG} {Q : mQ} {g0 : mG} {A0 : Nat → Nat → Nat} {w : Rw} {a pos : Nat → Nat}
theorem cnM_sum (h : RelB w a pos) {b k : Nat} (hk : k < a 11) (hb : a (96 + k) = b) : sm (cnM a b k) (a 11) = btN w (pos k) := by
  have kk : wF w (pos k) 1 = b := by rw [← (h.1.o hk).2.1.2.2.1]; exact hb
  unfold btN
  rw [kk]
  refine h.sum (fun x hx => ?_) (fun i hi h0 => ?_)
  · obtain ⟨_, ⟨c0, c1, c2, c3, c4⟩, _⟩ := h.1.o hx
    have hs : stF w b (pos x) = decide (a (96 + x) = b) := by
      unfold stF
      rw [decide_eq_true (h.2 x hx), Bool.true_and, c2]
    unfold cnM
    by_cases e : x = k
    · rw [decide_eq_true e, e, beF_ir, Bool.and_false]
      rfl
    · rw [decide_eq_false e, h.1.ah hx hk, hs]
      rfl
  · have : stF w b i = false := by
      unfold stF
      rw [decide_eq_false (by omega), Bool.false_and]
    show nB (stF w b i && beF w i (pos k)) = 0
    rw [this, Bool.false_and]
    rfl
theorem ahead_loop {b k s : Nat} {v b0 : Int32} (M : MT g0 g A0 a) (hL : LB a) (hk : k < a 11) (hb : b ≤ 1) (q : WP m_X7_order Q 127 [.ref 40, .int b0, .int v, .int (nI s), .int (nI b), .int (nI k), .int (nI (sm (cnM a b k) (a 11))), .int (nI (a 11))] [] g) : ∀ (d x : Nat), x + d = a 11 → WP m_X7_order Q 66 [.ref 40, .int b0, .int v, .int (nI s), .int (nI b), .int (nI k), .int (nI (sm (cnM a b k) x)), .int (nI x)] [] g := by
  have hm := hL.1
  intro d
  induction d with
  | zero =>
    intro x hx
    have hle : a 11 ≤ x := by omega
    have e : x = a 11 := by omega
    simp (disch := omega) only [e_X7_order_66, e_X7_order_68, e_X7_order_69, e_X7_order_72, e_X7_order_74, e_X7_order_75, tand, true_and, and_true, nl1_int, nl1_ref, nl1_null, nl1_ra, cat1_int, cat1_ref, cat1_null, stbs_nil, stbs_cons, stb_int, stb_long, stb_ref, stb_null, stb_ra, alv_nil, alv_cons, alv1_int, alv1_ref, alv1_null, alv1_ra, List.length_nil, List.length_cons, Nat.reduceAdd, Nat.reduceLeDiff, Nat.zero_le, Option.toList_some, Option.toList_none, List.cons_append, List.nil_append, or_true, true_or, or_false, false_or, Nat.reduceEqDiff, not_true_eq_false, not_false_eq_true, false_and, and_false, false_implies, true_implies, implies_true, ne_eq, and_self, ok1, M.k40, M.r40, z41, M.k41, M.n41, isIA, vpT, nI_clamp, nI_add, M.rd, gK_pI, gN_pI, gR_pI, gI_same, gI_diff, u1_eq, u1_ne, nI_leE, hle]
    rw [← e] at q
    exact q
  | succ d ih =>
    intro x hx
    have hle : ¬ a 11 ≤ x := by omega
    obtain ⟨_, _, b2, _, _⟩ := hL.2 x (by omega)
    have ih1 := ih (x + 1) (by omega)
    have es : sm (cnM a b k) (x + 1) = sm (cnM a b k) x + cnM a b k x := rfl
    rw [es] at ih1
    have add : ∀ c, cnM a b k x = c → WP m_X7_order Q 118 [.ref 40, .int b0, .int v, .int (nI s), .int (nI b), .int (nI k), .int (nI (sm (cnM a b k) x)), .int (nI x)] [.int (nI c), .int (nI (sm (cnM a b k) x))] g := fun c hc => by
      simp only [e_X7_order_118, e_X7_order_119, e_X7_order_121, e_X7_order_124, tand, true_and, and_true, nl1_int, nl1_ref, nl1_null, nl1_ra, cat1_int, cat1_ref, cat1_null, stbs_nil, stbs_cons, stb_int, stb_long, stb_ref, stb_null, stb_ra, alv_nil, alv_cons, alv1_int, alv1_ref, alv1_null, alv1_ra, List.length_nil, List.length_cons, Nat.reduceAdd, Nat.reduceLeDiff, Nat.zero_le, Option.toList_some, Option.toList_none, List.cons_append, List.nil_append, or_true, true_or, or_false, false_or, Nat.reduceEqDiff, not_true_eq_false, not_false_eq_true, false_and, and_false, false_implies, true_implies, implies_true, ne_eq, and_self, ok1, nI_add]
      rw [hc] at ih1
      exact ih1
    simp (disch := omega) only [e_X7_order_66, e_X7_order_68, e_X7_order_69, e_X7_order_72, e_X7_order_74, e_X7_order_75, e_X7_order_78, e_X7_order_80, e_X7_order_82, e_X7_order_84, tand, true_and, and_true, nl1_int, nl1_ref, nl1_null, nl1_ra, cat1_int, cat1_ref, cat1_null, stbs_nil, stbs_cons, stb_int, stb_long, stb_ref, stb_null, stb_ra, alv_nil, alv_cons, alv1_int, alv1_ref, alv1_null, alv1_ra, List.length_nil, List.length_cons, Nat.reduceAdd, Nat.reduceLeDiff, Nat.zero_le, Option.toList_some, Option.toList_none, List.cons_append, List.nil_append, or_true, true_or, or_false, false_or, Nat.reduceEqDiff, not_true_eq_false, not_false_eq_true, false_and, and_false, false_implies, true_implies, implies_true, ne_eq, and_self, ok1, M.k40, M.r40, z41, M.k41, M.n41, isIA, vpT, nI_clamp, nI_add, M.rd, gK_pI, gN_pI, gR_pI, gI_same, gI_diff, u1_eq, u1_ne, nI_leE, hle, nI_eqE]
    refine ⟨fun h1 => ?_, fun h1 => ?_⟩
    · simp only [e_X7_order_117, tand, true_and, and_true, nl1_int, nl1_ref, nl1_null, nl1_ra, cat1_int, cat1_ref, cat1_null, stbs_nil, stbs_cons, stb_int, stb_long, stb_ref, stb_null, stb_ra, alv_nil, alv_cons, alv1_int, alv1_ref, alv1_null, alv1_ra, List.length_nil, List.length_cons, Nat.reduceAdd, Nat.reduceLeDiff, Nat.zero_le, Option.toList_some, Option.toList_none, List.cons_append, List.nil_append, or_true, true_or, or_false, false_or, Nat.reduceEqDiff, not_true_eq_false, not_false_eq_true, false_and, and_false, false_implies, true_implies, implies_true, ne_eq, and_self, ok1]
      refine add 0 ?_
      unfold cnM
      rw [decide_eq_true h1]
      rfl
    · simp (disch := omega) only [e_X7_order_87, e_X7_order_88, e_X7_order_91, e_X7_order_93, e_X7_order_95, e_X7_order_96, e_X7_order_97, e_X7_order_99, tand, true_and, and_true, nl1_int, nl1_ref, nl1_null, nl1_ra, cat1_int, cat1_ref, cat1_null, stbs_nil, stbs_cons, stb_int, stb_long, stb_ref, stb_null, stb_ra, alv_nil, alv_cons, alv1_int, alv1_ref, alv1_null, alv1_ra, List.length_nil, List.length_cons, Nat.reduceAdd, Nat.reduceLeDiff, Nat.zero_le, Option.toList_some, Option.toList_none, List.cons_append, List.nil_append, or_true, true_or, or_false, false_or, Nat.reduceEqDiff, not_true_eq_false, not_false_eq_true, false_and, and_false, false_implies, true_implies, implies_true, ne_eq, and_self, ok1, M.k40, M.r40, z41, M.k41, M.n41, isIA, vpT, nI_clamp, nI_add, M.rd, gK_pI, gN_pI, gR_pI, gI_same, gI_diff, u1_eq, u1_ne, nI_eqE]
      refine ⟨fun h2 => ?_, fun h2 => ?_⟩
      · simp only [e_X7_order_117, tand, true_and, and_true, nl1_int, nl1_ref, nl1_null, nl1_ra, cat1_int, cat1_ref, cat1_null, stbs_nil, stbs_cons, stb_int, stb_long, stb_ref, stb_null, stb_ra, alv_nil, alv_cons, alv1_int, alv1_ref, alv1_null, alv1_ra, List.length_nil, List.length_cons, Nat.reduceAdd, Nat.reduceLeDiff, Nat.zero_le, Option.toList_some, Option.toList_none, List.cons_append, List.nil_append, or_true, true_or, or_false, false_or, Nat.reduceEqDiff, not_true_eq_false, not_false_eq_true, false_and, and_false, false_implies, true_implies, implies_true, ne_eq, and_self, ok1]
        refine add 0 ?_
        unfold cnM
        rw [decide_eq_false h2, Bool.false_and, Bool.and_false]
        rfl
      · have h2' : a (96 + x) = b := Decidable.not_not.mp h2
        simp only [e_X7_order_102, e_X7_order_103, e_X7_order_105, e_X7_order_107, tand, true_and, and_true, nl1_int, nl1_ref, nl1_null, nl1_ra, cat1_int, cat1_ref, cat1_null, stbs_nil, stbs_cons, stb_int, stb_long, stb_ref, stb_null, stb_ra, alv_nil, alv_cons, alv1_int, alv1_ref, alv1_null, alv1_ra, List.length_nil, List.length_cons, Nat.reduceAdd, Nat.reduceLeDiff, Nat.zero_le, Option.toList_some, Option.toList_none, List.cons_append, List.nil_append, or_true, true_or, or_false, false_or, Nat.reduceEqDiff, not_true_eq_false, not_false_eq_true, false_and, and_false, false_implies, true_implies, implies_true, ne_eq, and_self, ok1, M.k40]
        refine c_X7_isAhead M hL (by omega) hk ?_
        by_cases h3 : ahB a x k = true
        · rw [h3]
          simp only [e_X7_order_110, e_X7_order_113, e_X7_order_114, tand, true_and, and_true, nl1_int, nl1_ref, nl1_null, nl1_ra, cat1_int, cat1_ref, cat1_null, stbs_nil, stbs_cons, stb_int, stb_long, stb_ref, stb_null, stb_ra, alv_nil, alv_cons, alv1_int, alv1_ref, alv1_null, alv1_ra, List.length_nil, List.length_cons, Nat.reduceAdd, Nat.reduceLeDiff, Nat.zero_le, Option.toList_some, Option.toList_none, List.cons_append, List.nil_append, or_true, true_or, or_false, false_or, Nat.reduceEqDiff, not_true_eq_false, not_false_eq_true, false_and, and_false, false_implies, true_implies, implies_true, ne_eq, and_self, ok1, nB1]
          refine add 1 ?_
          unfold cnM
          rw [decide_eq_false h1, decide_eq_true h2', h3]
          rfl
        · have h3' : ahB a x k = false := by simpa using h3
          rw [h3']
          simp only [e_X7_order_110, e_X7_order_117, tand, true_and, and_true, nl1_int, nl1_ref, nl1_null, nl1_ra, cat1_int, cat1_ref, cat1_null, stbs_nil, stbs_cons, stb_int, stb_long, stb_ref, stb_null, stb_ra, alv_nil, alv_cons, alv1_int, alv1_ref, alv1_null, alv1_ra, List.length_nil, List.length_cons, Nat.reduceAdd, Nat.reduceLeDiff, Nat.zero_le, Option.toList_some, Option.toList_none, List.cons_append, List.nil_append, or_true, true_or, or_false, false_or, Nat.reduceEqDiff, not_true_eq_false, not_false_eq_true, false_and, and_false, false_implies, true_implies, implies_true, ne_eq, and_self, ok1, nB0]
          refine add 0 ?_
          unfold cnM
          rw [h3', Bool.and_false, Bool.and_false]
          rfl
/-- where a field of an order lies -/
def ofI (s : Nat) : Nat := if s = 0 then 64 else if s = 1 then 80 else if s = 2 then 112 else 128
theorem orderM_loop {b s : Nat} {v b0 : Int32} (M : MT g0 g A0 a) (hL : LB a) (hb : b ≤ 1) (hs : s ≤ 3) (q1 : ∀ k, k < a 11 → a (96 + k) = b → nI (sm (cnM a b k) (a 11)) = v → Q (some (.int (nI (a (ofI s + k))))) g) (q0 : (∀ k, k < a 11 → a (96 + k) = b → nI (sm (cnM a b k) (a 11)) ≠ v) → Q (some (.int (-5))) g) : ∀ (d k : Nat) {l6 l7 : Value}, nl1 l6 → nl1 l7 → k + d = a 11 → (∀ z, z < k → a (96 + z) = b → nI (sm (cnM a b z) (a 11)) ≠ v) → WP m_X7_order Q 30 [.ref 40, .int b0, .int v, .int (nI s), .int (nI b), .int (nI k), l6, l7] [] g := by
  have hm := hL.1
  intro d
  induction d with
  | zero =>
    intro k l6 l7 hl6 hl7 hk hz
    have hle : a 11 ≤ k := by omega
    simp (disch := omega) only [e_X7_order_30, e_X7_order_32, e_X7_order_33, e_X7_order_36, e_X7_order_38, e_X7_order_39, e_X7_order_189, e_X7_order_191, tand, true_and, and_true, nl1_int, nl1_ref, nl1_null, nl1_ra, cat1_int, cat1_ref, cat1_null, stbs_nil, stbs_cons, stb_int, stb_long, stb_ref, stb_null, stb_ra, alv_nil, alv_cons, alv1_int, alv1_ref, alv1_null, alv1_ra, List.length_nil, List.length_cons, Nat.reduceAdd, Nat.reduceLeDiff, Nat.zero_le, Option.toList_some, Option.toList_none, List.cons_append, List.nil_append, or_true, true_or, or_false, false_or, Nat.reduceEqDiff, not_true_eq_false, not_false_eq_true, false_and, and_false, false_implies, true_implies, implies_true, ne_eq, and_self, ok1, M.k40, M.r40, z41, M.k41, M.n41, isIA, vpT, nI_clamp, nI_add, M.rd, gK_pI, gN_pI, gR_pI, gI_same, gI_diff, u1_eq, u1_ne, nI_leE, hle]
    exact q0 fun z hz2 => hz z (by omega)
  | succ d ih =>
    intro k l6 l7 hl6 hl7 hk hz
    have hle : ¬ a 11 ≤ k := by omega
    obtain ⟨_, _, b2, _, _⟩ := hL.2 k (by omega)
    have next : ∀ {l6 l7 : Value}, nl1 l6 → nl1 l7 → (a (96 + k) = b → nI (sm (cnM a b k) (a 11)) ≠ v) → WP m_X7_order Q 183 [.ref 40, .int b0, .int v, .int (nI s), .int (nI b), .int (nI k), l6, l7] [] g := fun {l6 l7} h6 h7 hn => by
      simp only [e_X7_order_183, e_X7_order_186, tand, true_and, and_true, nl1_int, nl1_ref, nl1_null, nl1_ra, cat1_int, cat1_ref, cat1_null, stbs_nil, stbs_cons, stb_int, stb_long, stb_ref, stb_null, stb_ra, alv_nil, alv_cons, alv1_int, alv1_ref, alv1_null, alv1_ra, List.length_nil, List.length_cons, Nat.reduceAdd, Nat.reduceLeDiff, Nat.zero_le, Option.toList_some, Option.toList_none, List.cons_append, List.nil_append, or_true, true_or, or_false, false_or, Nat.reduceEqDiff, not_true_eq_false, not_false_eq_true, false_and, and_false, false_implies, true_implies, implies_true, ne_eq, and_self, ok1, nI_add]
      refine ih (k + 1) h6 h7 (by omega) fun z hz2 => ?_
      by_cases e : z = k
      · rw [e]; exact hn
      · exact hz z (by omega)
    simp (disch := omega) only [e_X7_order_30, e_X7_order_32, e_X7_order_33, e_X7_order_36, e_X7_order_38, e_X7_order_39, e_X7_order_42, e_X7_order_43, e_X7_order_46, e_X7_order_48, e_X7_order_50, e_X7_order_51, e_X7_order_52, e_X7_order_54, e_X7_order_57, tand, true_and, and_true, nl1_int, nl1_ref, nl1_null, nl1_ra, cat1_int, cat1_ref, cat1_null, stbs_nil, stbs_cons, stb_int, stb_long, stb_ref, stb_null, stb_ra, alv_nil, alv_cons, alv1_int, alv1_ref, alv1_null, alv1_ra, List.length_nil, List.length_cons, Nat.reduceAdd, Nat.reduceLeDiff, Nat.zero_le, Option.toList_some, Option.toList_none, List.cons_append, List.nil_append, or_true, true_or, or_false, false_or, Nat.reduceEqDiff, not_true_eq_false, not_false_eq_true, false_and, and_false, false_implies, true_implies, implies_true, ne_eq, and_self, ok1, M.k40, M.r40, z41, M.k41, M.n41, isIA, vpT, nI_clamp, nI_add, M.rd, gK_pI, gN_pI, gR_pI, gI_same, gI_diff, u1_eq, u1_ne, nI_leE, hle, nI_eqE]
    refine ⟨fun h1 => ?_, fun h1 => next hl6 hl7 fun z => absurd z h1⟩
    simp only [e_X7_order_60, e_X7_order_61, e_X7_order_63, e_X7_order_64, tand, true_and, and_true, nl1_int, nl1_ref, nl1_null, nl1_ra, cat1_int, cat1_ref, cat1_null, stbs_nil, stbs_cons, stb_int, stb_long, stb_ref, stb_null, stb_ra, alv_nil, alv_cons, alv1_int, alv1_ref, alv1_null, alv1_ra, List.length_nil, List.length_cons, Nat.reduceAdd, Nat.reduceLeDiff, Nat.zero_le, Option.toList_some, Option.toList_none, List.cons_append, List.nil_append, or_true, true_or, or_false, false_or, Nat.reduceEqDiff, not_true_eq_false, not_false_eq_true, false_and, and_false, false_implies, true_implies, implies_true, ne_eq, and_self, ok1, hl6, hl7]
    refine ahead_loop M hL (by omega) hb ?_ (a 11) 0 (Nat.zero_add _)
    simp only [e_X7_order_127, e_X7_order_129, e_X7_order_130, tand, true_and, and_true, nl1_int, nl1_ref, nl1_null, nl1_ra, cat1_int, cat1_ref, cat1_null, stbs_nil, stbs_cons, stb_int, stb_long, stb_ref, stb_null, stb_ra, alv_nil, alv_cons, alv1_int, alv1_ref, alv1_null, alv1_ra, List.length_nil, List.length_cons, Nat.reduceAdd, Nat.reduceLeDiff, Nat.zero_le, Option.toList_some, Option.toList_none, List.cons_append, List.nil_append, or_true, true_or, or_false, false_or, Nat.reduceEqDiff, not_true_eq_false, not_false_eq_true, false_and, and_false, false_implies, true_implies, implies_true, ne_eq, and_self, ok1]
    refine ⟨fun h2 => next trivial trivial fun _ => h2, fun h2 => ?_⟩
    have q := q1 k (by omega) h1 (Decidable.not_not.mp h2)
    have : s = 0 ∨ s = 1 ∨ s = 2 ∨ s = 3 := by omega
    rcases this with e | e | e | e
    · subst e
      simp (disch := omega) only [e_X7_order_133, e_X7_order_134, e_X7_order_137, e_X7_order_138, e_X7_order_141, e_X7_order_143, e_X7_order_145, e_X7_order_146, e_X7_order_149, e_X7_order_150, e_X7_order_151, e_X7_order_154, e_X7_order_156, e_X7_order_158, e_X7_order_159, e_X7_order_162, e_X7_order_163, e_X7_order_164, e_X7_order_167, e_X7_order_169, e_X7_order_171, e_X7_order_172, e_X7_order_175, e_X7_order_178, e_X7_order_180, e_X7_order_181, e_X7_order_182, tand, true_and, and_true, nl1_int, nl1_ref, nl1_null, nl1_ra, cat1_int, cat1_ref, cat1_null, stbs_nil, stbs_cons, stb_int, stb_long, stb_ref, stb_null, stb_ra, alv_nil, alv_cons, alv1_int, alv1_ref, alv1_null, alv1_ra, List.length_nil, List.length_cons, Nat.reduceAdd, Nat.reduceLeDiff, Nat.zero_le, Option.toList_some, Option.toList_none, List.cons_append, List.nil_append, or_true, true_or, or_false, false_or, Nat.reduceEqDiff, not_true_eq_false, not_false_eq_true, false_and, and_false, false_implies, true_implies, implies_true, ne_eq, and_self, ok1, M.k40, M.r40, z41, M.k41, M.n41, isIA, vpT, nI_clamp, nI_add, M.rd, gK_pI, gN_pI, gR_pI, gI_same, gI_diff, u1_eq, u1_ne, nI_eqE, nI_eq0]
      exact q
    · subst e
      simp (disch := omega) only [e_X7_order_133, e_X7_order_134, e_X7_order_137, e_X7_order_138, e_X7_order_141, e_X7_order_143, e_X7_order_145, e_X7_order_146, e_X7_order_149, e_X7_order_150, e_X7_order_151, e_X7_order_154, e_X7_order_156, e_X7_order_158, e_X7_order_159, e_X7_order_162, e_X7_order_163, e_X7_order_164, e_X7_order_167, e_X7_order_169, e_X7_order_171, e_X7_order_172, e_X7_order_175, e_X7_order_178, e_X7_order_180, e_X7_order_181, e_X7_order_182, tand, true_and, and_true, nl1_int, nl1_ref, nl1_null, nl1_ra, cat1_int, cat1_ref, cat1_null, stbs_nil, stbs_cons, stb_int, stb_long, stb_ref, stb_null, stb_ra, alv_nil, alv_cons, alv1_int, alv1_ref, alv1_null, alv1_ra, List.length_nil, List.length_cons, Nat.reduceAdd, Nat.reduceLeDiff, Nat.zero_le, Option.toList_some, Option.toList_none, List.cons_append, List.nil_append, or_true, true_or, or_false, false_or, Nat.reduceEqDiff, not_true_eq_false, not_false_eq_true, false_and, and_false, false_implies, true_implies, implies_true, ne_eq, and_self, ok1, M.k40, M.r40, z41, M.k41, M.n41, isIA, vpT, nI_clamp, nI_add, M.rd, gK_pI, gN_pI, gR_pI, gI_same, gI_diff, u1_eq, u1_ne, nI_eqE, nI_eq0]
      exact q
    · subst e
      simp (disch := omega) only [e_X7_order_133, e_X7_order_134, e_X7_order_137, e_X7_order_138, e_X7_order_141, e_X7_order_143, e_X7_order_145, e_X7_order_146, e_X7_order_149, e_X7_order_150, e_X7_order_151, e_X7_order_154, e_X7_order_156, e_X7_order_158, e_X7_order_159, e_X7_order_162, e_X7_order_163, e_X7_order_164, e_X7_order_167, e_X7_order_169, e_X7_order_171, e_X7_order_172, e_X7_order_175, e_X7_order_178, e_X7_order_180, e_X7_order_181, e_X7_order_182, tand, true_and, and_true, nl1_int, nl1_ref, nl1_null, nl1_ra, cat1_int, cat1_ref, cat1_null, stbs_nil, stbs_cons, stb_int, stb_long, stb_ref, stb_null, stb_ra, alv_nil, alv_cons, alv1_int, alv1_ref, alv1_null, alv1_ra, List.length_nil, List.length_cons, Nat.reduceAdd, Nat.reduceLeDiff, Nat.zero_le, Option.toList_some, Option.toList_none, List.cons_append, List.nil_append, or_true, true_or, or_false, false_or, Nat.reduceEqDiff, not_true_eq_false, not_false_eq_true, false_and, and_false, false_implies, true_implies, implies_true, ne_eq, and_self, ok1, M.k40, M.r40, z41, M.k41, M.n41, isIA, vpT, nI_clamp, nI_add, M.rd, gK_pI, gN_pI, gR_pI, gI_same, gI_diff, u1_eq, u1_ne, nI_eqE, nI_eq0]
      exact q
    · subst e
      simp (disch := omega) only [e_X7_order_133, e_X7_order_134, e_X7_order_137, e_X7_order_138, e_X7_order_141, e_X7_order_143, e_X7_order_145, e_X7_order_146, e_X7_order_149, e_X7_order_150, e_X7_order_151, e_X7_order_154, e_X7_order_156, e_X7_order_158, e_X7_order_159, e_X7_order_162, e_X7_order_163, e_X7_order_164, e_X7_order_167, e_X7_order_169, e_X7_order_171, e_X7_order_172, e_X7_order_175, e_X7_order_178, e_X7_order_180, e_X7_order_181, e_X7_order_182, tand, true_and, and_true, nl1_int, nl1_ref, nl1_null, nl1_ra, cat1_int, cat1_ref, cat1_null, stbs_nil, stbs_cons, stb_int, stb_long, stb_ref, stb_null, stb_ra, alv_nil, alv_cons, alv1_int, alv1_ref, alv1_null, alv1_ra, List.length_nil, List.length_cons, Nat.reduceAdd, Nat.reduceLeDiff, Nat.zero_le, Option.toList_some, Option.toList_none, List.cons_append, List.nil_append, or_true, true_or, or_false, false_or, Nat.reduceEqDiff, not_true_eq_false, not_false_eq_true, false_and, and_false, false_implies, true_implies, implies_true, ne_eq, and_self, ok1, M.k40, M.r40, z41, M.k41, M.n41, isIA, vpT, nI_clamp, nI_add, M.rd, gK_pI, gN_pI, gR_pI, gI_same, gI_diff, u1_eq, u1_ne, nI_eqE, nI_eq0]
      exact q
variable {snap : Rw} {hist : Nat → Rw} {st kept n : Nat} {t : Nat → Nat}
theorem d_order1 {b : Nat} {v x : Int32} (h : MB g w hist st kept snap t n) (hx : v < 0 ∨ ∀ s, s ≤ 3 → x ≠ nI s) (q : Q (some (.int (-2))) g) : w_X7_order [.ref 40, .int (nI b), .int v, .int x] g Q := by
  refine wm_at rfl ⟨trivial, trivial, trivial, trivial, trivial⟩ (show WP m_X7_order Q 0 [.ref 40, .int (nI b), .int v, .int x, .retAddr 0, .retAddr 0, .retAddr 0, .retAddr 0] [] g from ?_)
  simp only [e_X7_order_0, e_X7_order_1, tand, true_and, and_true, nl1_int, nl1_ref, nl1_null, nl1_ra, cat1_int, cat1_ref, cat1_null, stbs_nil, stbs_cons, stb_int, stb_long, stb_ref, stb_null, stb_ra, alv_nil, alv_cons, alv1_int, alv1_ref, alv1_null, alv1_ra, List.length_nil, List.length_cons, Nat.reduceAdd, Nat.reduceLeDiff, Nat.zero_le, Option.toList_some, Option.toList_none, List.cons_append, List.nil_append, or_true, true_or, or_false, false_or, Nat.reduceEqDiff, not_true_eq_false, not_false_eq_true, false_and, and_false, false_implies, true_implies, implies_true, ne_eq, and_self, ok1]
  refine ⟨fun _ => ?_, fun h1 => ?_⟩
  · simp only [e_X7_order_13, e_X7_order_15, tand, true_and, and_true, nl1_int, nl1_ref, nl1_null, nl1_ra, cat1_int, cat1_ref, cat1_null, stbs_nil, stbs_cons, stb_int, stb_long, stb_ref, stb_null, stb_ra, alv_nil, alv_cons, alv1_int, alv1_ref, alv1_null, alv1_ra, List.length_nil, List.length_cons, Nat.reduceAdd, Nat.reduceLeDiff, Nat.zero_le, Option.toList_some, Option.toList_none, List.cons_append, List.nil_append, or_true, true_or, or_false, false_or, Nat.reduceEqDiff, not_true_eq_false, not_false_eq_true, false_and, and_false, false_implies, true_implies, implies_true, ne_eq, and_self, ok1]
    exact q
  · simp only [e_X7_order_4, e_X7_order_5, e_X7_order_6, e_X7_order_7, tand, true_and, and_true, nl1_int, nl1_ref, nl1_null, nl1_ra, cat1_int, cat1_ref, cat1_null, stbs_nil, stbs_cons, stb_int, stb_long, stb_ref, stb_null, stb_ra, alv_nil, alv_cons, alv1_int, alv1_ref, alv1_null, alv1_ra, List.length_nil, List.length_cons, Nat.reduceAdd, Nat.reduceLeDiff, Nat.zero_le, Option.toList_some, Option.toList_none, List.cons_append, List.nil_append, or_true, true_or, or_false, false_or, Nat.reduceEqDiff, not_true_eq_false, not_false_eq_true, false_and, and_false, false_implies, true_implies, implies_true, ne_eq, and_self, ok1, h.k40]
    refine c_X7_inF (a := 0) (b := 3) (by omega) (by omega) (fun ⟨s, es, _, hs⟩ => ?_) ?_
    · rcases hx with hx | hx
      · exact h1 hx
      · exact hx s hs es
    · simp only [e_X7_order_10, e_X7_order_13, e_X7_order_15, tand, true_and, and_true, nl1_int, nl1_ref, nl1_null, nl1_ra, cat1_int, cat1_ref, cat1_null, stbs_nil, stbs_cons, stb_int, stb_long, stb_ref, stb_null, stb_ra, alv_nil, alv_cons, alv1_int, alv1_ref, alv1_null, alv1_ra, List.length_nil, List.length_cons, Nat.reduceAdd, Nat.reduceLeDiff, Nat.zero_le, Option.toList_some, Option.toList_none, List.cons_append, List.nil_append, or_true, true_or, or_false, false_or, Nat.reduceEqDiff, not_true_eq_false, not_false_eq_true, false_and, and_false, false_implies, true_implies, implies_true, ne_eq, and_self, ok1, n0z]
      exact q
theorem order_go {b s : Nat} {v : Int32} (hb : b ≤ 1) (h : MB g w hist st kept snap t n) (hB : TB w) (hI : InvA w) (hv : ¬ v < 0) (hs : s ≤ 3) (q1 : ∀ i, i < 17 → stF w b i = true → nI (btN w i) = v → Q (some (.int (nI (wF w i (if s = 0 then 0 else if s = 1 then 2 else if s = 2 then 3 else 4))))) g) (q0 : (∀ i, i < 17 → stF w b i = true → nI (btN w i) ≠ v) → Q (some (.int (-5))) g) : w_X7_order [.ref 40, .int (nI b), .int v, .int (nI s)] g Q := by
  refine wm_at rfl ⟨trivial, trivial, trivial, trivial, trivial⟩ (show WP m_X7_order Q 0 [.ref 40, .int (nI b), .int v, .int (nI s), .retAddr 0, .retAddr 0, .retAddr 0, .retAddr 0] [] g from ?_)
  simp only [e_X7_order_0, e_X7_order_1, e_X7_order_4, e_X7_order_5, e_X7_order_6, e_X7_order_7, tand, true_and, and_true, nl1_int, nl1_ref, nl1_null, nl1_ra, cat1_int, cat1_ref, cat1_null, stbs_nil, stbs_cons, stb_int, stb_long, stb_ref, stb_null, stb_ra, alv_nil, alv_cons, alv1_int, alv1_ref, alv1_null, alv1_ra, List.length_nil, List.length_cons, Nat.reduceAdd, Nat.reduceLeDiff, Nat.zero_le, Option.toList_some, Option.toList_none, List.cons_append, List.nil_append, or_true, true_or, or_false, false_or, Nat.reduceEqDiff, not_true_eq_false, not_false_eq_true, false_and, and_false, false_implies, true_implies, implies_true, ne_eq, and_self, ok1, hv, h.k40]
  refine c_X7_inT ⟨Nat.zero_le _, hs⟩ (by omega) ?_
  obtain ⟨A, pos, M, R, up⟩ := h.at
  generalize A 41 = a at *
  have hL := R.1.lb hB fun i hi => (hI.2.1 i hi).1
  have go : WP m_X7_order Q 30 [.ref 40, .int (nI b), .int v, .int (nI s), .int (nI b), .int (nI 0), .retAddr 0, .retAddr 0] [] g := by
    refine orderM_loop M hL hb hs (fun k hk hkb hkv => ?_) (fun hno => ?_) (a 11) 0 trivial trivial (Nat.zero_add _) fun z hz => absurd hz (Nat.not_lt_zero z)
    · obtain ⟨⟨p1, _⟩, ⟨c0, c1, c2, c3, c4⟩, _⟩ := R.1.o hk
      have hst : stF w b (pos k) = true := by
        unfold stF
        rw [decide_eq_true (R.2 k hk), ← c2, decide_eq_true hkb]
        rfl
      have q := q1 (pos k) p1 hst (by rw [← cnM_sum R hk hkb]; exact hkv)
      have : s = 0 ∨ s = 1 ∨ s = 2 ∨ s = 3 := by omega
      rcases this with e | e | e | e
      · subst e
        rw [show ofI 0 = 64 from rfl, c0]; exact q
      · subst e
        rw [show ofI 1 = 80 from rfl, c1]; exact q
      · subst e
        rw [show ofI 2 = 112 from rfl, c3]; exact q
      · subst e
        rw [show ofI 3 = 128 from rfl, c4]; exact q
    · refine q0 fun i hi hst hv2 => ?_
      obtain ⟨s1, s2⟩ := stF_spec hst
      obtain ⟨k, hk, ek⟩ := R.1.2.2.1.2.2.2 i hi (by omega) s1
      have hkb : a (96 + k) = b := by rw [(R.1.o hk).2.1.2.2.1, ek]; exact s2
      exact hno k hk hkb (by rw [cnM_sum R hk hkb, ek]; exact hv2)
  have : b = 0 ∨ b = 1 := by omega
  rcases this with e | e
  · subst e
    simp (disch := omega) only [e_X7_order_10, e_X7_order_16, e_X7_order_17, e_X7_order_20, e_X7_order_21, e_X7_order_24, e_X7_order_25, e_X7_order_27, e_X7_order_28, tand, true_and, and_true, nl1_int, nl1_ref, nl1_null, nl1_ra, cat1_int, cat1_ref, cat1_null, stbs_nil, stbs_cons, stb_int, stb_long, stb_ref, stb_null, stb_ra, alv_nil, alv_cons, alv1_int, alv1_ref, alv1_null, alv1_ra, List.length_nil, List.length_cons, Nat.reduceAdd, Nat.reduceLeDiff, Nat.zero_le, Option.toList_some, Option.toList_none, List.cons_append, List.nil_append, or_true, true_or, or_false, false_or, Nat.reduceEqDiff, not_true_eq_false, not_false_eq_true, false_and, and_false, false_implies, true_implies, implies_true, ne_eq, and_self, ok1, n1z, n0z]
    exact go
  · subst e
    simp (disch := omega) only [e_X7_order_10, e_X7_order_16, e_X7_order_17, e_X7_order_20, e_X7_order_21, e_X7_order_24, e_X7_order_25, e_X7_order_27, e_X7_order_28, tand, true_and, and_true, nl1_int, nl1_ref, nl1_null, nl1_ra, cat1_int, cat1_ref, cat1_null, stbs_nil, stbs_cons, stb_int, stb_long, stb_ref, stb_null, stb_ra, alv_nil, alv_cons, alv1_int, alv1_ref, alv1_null, alv1_ra, List.length_nil, List.length_cons, Nat.reduceAdd, Nat.reduceLeDiff, Nat.zero_le, Option.toList_some, Option.toList_none, List.cons_append, List.nil_append, or_true, true_or, or_false, false_or, Nat.reduceEqDiff, not_true_eq_false, not_false_eq_true, false_and, and_false, false_implies, true_implies, implies_true, ne_eq, and_self, ok1, n1z]
    exact go
theorem d_order2 {b s : Nat} {v : Int32} (hb : b ≤ 1) (h : MB g w hist st kept snap t n) (hB : TB w) (hI : InvA w) (hv : ¬ v < 0) (hs : s ≤ 3) (hno : ∀ i, i < 17 → stF w b i = true → v ≠ nI (btN w i)) (q : Q (some (.int (-5))) g) : w_X7_order [.ref 40, .int (nI b), .int v, .int (nI s)] g Q := order_go hb h hB hI hv hs (fun i hi h1 h2 => absurd h2.symm (hno i hi h1)) fun _ => q
theorem d_order3 {b s i : Nat} (hb : b ≤ 1) (h : MB g w hist st kept snap t n) (hB : TB w) (hI : InvA w) (hv : ¬ nI (btN w i) < 0) (hs : s ≤ 3) (hi : i < 17) (hst : stF w b i = true) (q : Q (some (.int (nI (wF w i (if s = 0 then 0 else if s = 1 then 2 else if s = 2 then 3 else 4))))) g) : w_X7_order [.ref 40, .int (nI b), .int (nI (btN w i)), .int (nI s)] g Q := by
  refine order_go hb h hB hI hv hs (fun j hj h1 h2 => ?_) fun hno => absurd rfl (hno i hi hst)
  have l1 := btN_le (w := w) (i := i)
  have l2 := btN_le (w := w) (i := j)
  rw [nI_eqE (by omega) (by omega)] at h2
  rw [btN_inj hI hj hi h1 hst h2]
  exact q
theorem depth_loopM {b p : Nat} (M : MT g0 g A0 a) (hL : LB a) (hb : b ≤ 1) (hp : p ≤ 500) {F : Nat → Nat} (hF : ∀ x, x < a 11 → F x = if a (96 + x) ≠ b ∧ (if a (96 + x) = 0 then a (128 + x) ≤ p else p ≤ a (128 + x)) then a (112 + x) else 0) (q : Q (some (.int (nI (sm F (a 11))))) g) : ∀ (d x : Nat) {l5 : Value}, nl1 l5 → x + d = a 11 → WP m_X7_depth Q 19 [.ref 40, .int (nI b), .int (nI p), .int (nI (sm F x)), .int (nI x), l5] [] g := by
  have hm := hL.1
  intro d
  induction d with
  | zero =>
    intro x l5 hl5 hx
    have hle : a 11 ≤ x := by omega
    have e : x = a 11 := by omega
    simp (disch := omega) only [e_X7_depth_19, e_X7_depth_21, e_X7_depth_22, e_X7_depth_25, e_X7_depth_27, e_X7_depth_28, e_X7_depth_135, e_X7_depth_136, tand, true_and, and_true, nl1_int, nl1_ref, nl1_null, nl1_ra, cat1_int, cat1_ref, cat1_null, stbs_nil, stbs_cons, stb_int, stb_long, stb_ref, stb_null, stb_ra, alv_nil, alv_cons, alv1_int, alv1_ref, alv1_null, alv1_ra, List.length_nil, List.length_cons, Nat.reduceAdd, Nat.reduceLeDiff, Nat.zero_le, Option.toList_some, Option.toList_none, List.cons_append, List.nil_append, or_true, true_or, or_false, false_or, Nat.reduceEqDiff, not_true_eq_false, not_false_eq_true, false_and, and_false, false_implies, true_implies, implies_true, ne_eq, and_self, ok1, M.k40, M.r40, z41, M.k41, M.n41, isIA, vpT, nI_clamp, nI_add, M.rd, gK_pI, gN_pI, gR_pI, gI_same, gI_diff, u1_eq, u1_ne, nI_leE, hle]
    rw [← e] at q
    exact q
  | succ d ih =>
    intro x l5 hl5 hx
    have hle : ¬ a 11 ≤ x := by omega
    obtain ⟨_, _, b2, b3, b4⟩ := hL.2 x (by omega)
    have ih1 : ∀ {l5 : Value}, nl1 l5 → _ := fun {l5} => ih (x + 1) (l5 := l5)
    have es : sm F (x + 1) = sm F x + F x := rfl
    rw [es, hF x (by omega)] at ih1
    have no : ¬ (a (96 + x) ≠ b ∧ (if a (96 + x) = 0 then a (128 + x) ≤ p else p ≤ a (128 + x))) → WP m_X7_depth Q 105 [.ref 40, .int (nI b), .int (nI p), .int (nI (sm F x)), .int (nI x), l5] [.int (nI 0)] g := fun hn => by
      rw [if_neg hn] at ih1
      simp only [e_X7_depth_105, e_X7_depth_107, e_X7_depth_108, e_X7_depth_110, e_X7_depth_126, e_X7_depth_127, e_X7_depth_128, e_X7_depth_129, tand, true_and, and_true, nl1_int, nl1_ref, nl1_null, nl1_ra, cat1_int, cat1_ref, cat1_null, stbs_nil, stbs_cons, stb_int, stb_long, stb_ref, stb_null, stb_ra, alv_nil, alv_cons, alv1_int, alv1_ref, alv1_null, alv1_ra, List.length_nil, List.length_cons, Nat.reduceAdd, Nat.reduceLeDiff, Nat.zero_le, Option.toList_some, Option.toList_none, List.cons_append, List.nil_append, or_true, true_or, or_false, false_or, Nat.reduceEqDiff, not_true_eq_false, not_false_eq_true, false_and, and_false, false_implies, true_implies, implies_true, ne_eq, and_self, ok1, nI_add, n0z, hl5]
      simp only [e_X7_depth_132, tand, true_and, and_true, nl1_int, nl1_ref, nl1_null, nl1_ra, cat1_int, cat1_ref, cat1_null, stbs_nil, stbs_cons, stb_int, stb_long, stb_ref, stb_null, stb_ra, alv_nil, alv_cons, alv1_int, alv1_ref, alv1_null, alv1_ra, List.length_nil, List.length_cons, Nat.reduceAdd, Nat.reduceLeDiff, Nat.zero_le, Option.toList_some, Option.toList_none, List.cons_append, List.nil_append, or_true, true_or, or_false, false_or, Nat.reduceEqDiff, not_true_eq_false, not_false_eq_true, false_and, and_false, false_implies, true_implies, implies_true, ne_eq, and_self, ok1]
      exact ih1 trivial (by omega)
    have yes : (a (96 + x) ≠ b ∧ (if a (96 + x) = 0 then a (128 + x) ≤ p else p ≤ a (128 + x))) → WP m_X7_depth Q 105 [.ref 40, .int (nI b), .int (nI p), .int (nI (sm F x)), .int (nI x), l5] [.int (nI 1)] g := fun hn => by
      rw [if_pos hn] at ih1
      simp (disch := omega) only [e_X7_depth_105, e_X7_depth_107, e_X7_depth_108, e_X7_depth_110, e_X7_depth_113, e_X7_depth_114, e_X7_depth_117, e_X7_depth_119, e_X7_depth_121, e_X7_depth_122, e_X7_depth_123, e_X7_depth_127, e_X7_depth_128, e_X7_depth_129, tand, true_and, and_true, nl1_int, nl1_ref, nl1_null, nl1_ra, cat1_int, cat1_ref, cat1_null, stbs_nil, stbs_cons, stb_int, stb_long, stb_ref, stb_null, stb_ra, alv_nil, alv_cons, alv1_int, alv1_ref, alv1_null, alv1_ra, List.length_nil, List.length_cons, Nat.reduceAdd, Nat.reduceLeDiff, Nat.zero_le, Option.toList_some, Option.toList_none, List.cons_append, List.nil_append, or_true, true_or, or_false, false_or, Nat.reduceEqDiff, not_true_eq_false, not_false_eq_true, false_and, and_false, false_implies, true_implies, implies_true, ne_eq, and_self, ok1, M.k40, M.r40, z41, M.k41, M.n41, isIA, vpT, nI_clamp, nI_add, M.rd, gK_pI, gN_pI, gR_pI, gI_same, gI_diff, u1_eq, u1_ne, n1z, hl5]
      simp only [e_X7_depth_132, tand, true_and, and_true, nl1_int, nl1_ref, nl1_null, nl1_ra, cat1_int, cat1_ref, cat1_null, stbs_nil, stbs_cons, stb_int, stb_long, stb_ref, stb_null, stb_ra, alv_nil, alv_cons, alv1_int, alv1_ref, alv1_null, alv1_ra, List.length_nil, List.length_cons, Nat.reduceAdd, Nat.reduceLeDiff, Nat.zero_le, Option.toList_some, Option.toList_none, List.cons_append, List.nil_append, or_true, true_or, or_false, false_or, Nat.reduceEqDiff, not_true_eq_false, not_false_eq_true, false_and, and_false, false_implies, true_implies, implies_true, ne_eq, and_self, ok1]
      exact ih1 trivial (by omega)
    have hbb : b = 0 ∨ b = 1 := by omega
    rcases hbb with e | e
    · subst e
      simp (disch := omega) only [e_X7_depth_19, e_X7_depth_21, e_X7_depth_22, e_X7_depth_25, e_X7_depth_27, e_X7_depth_28, e_X7_depth_31, e_X7_depth_32, e_X7_depth_71, e_X7_depth_72, e_X7_depth_75, e_X7_depth_77, e_X7_depth_79, e_X7_depth_80, e_X7_depth_81, e_X7_depth_82, tand, true_and, and_true, nl1_int, nl1_ref, nl1_null, nl1_ra, cat1_int, cat1_ref, cat1_null, stbs_nil, stbs_cons, stb_int, stb_long, stb_ref, stb_null, stb_ra, alv_nil, alv_cons, alv1_int, alv1_ref, alv1_null, alv1_ra, List.length_nil, List.length_cons, Nat.reduceAdd, Nat.reduceLeDiff, Nat.zero_le, Option.toList_some, Option.toList_none, List.cons_append, List.nil_append, or_true, true_or, or_false, false_or, Nat.reduceEqDiff, not_true_eq_false, not_false_eq_true, false_and, and_false, false_implies, true_implies, implies_true, ne_eq, and_self, ok1, M.k40, M.r40, z41, M.k41, M.n41, isIA, vpT, nI_clamp, nI_add, M.rd, gK_pI, gN_pI, gR_pI, gI_same, gI_diff, u1_eq, u1_ne, nI_leE, hle, n0z, nI_eqE]
      refine ⟨fun h1 => ?_, fun h1 => ?_⟩
      · simp only [e_X7_depth_104, tand, true_and, and_true, nl1_int, nl1_ref, nl1_null, nl1_ra, cat1_int, cat1_ref, cat1_null, stbs_nil, stbs_cons, stb_int, stb_long, stb_ref, stb_null, stb_ra, alv_nil, alv_cons, alv1_int, alv1_ref, alv1_null, alv1_ra, List.length_nil, List.length_cons, Nat.reduceAdd, Nat.reduceLeDiff, Nat.zero_le, Option.toList_some, Option.toList_none, List.cons_append, List.nil_append, or_true, true_or, or_false, false_or, Nat.reduceEqDiff, not_true_eq_false, not_false_eq_true, false_and, and_false, false_implies, true_implies, implies_true, ne_eq, and_self, ok1]
        exact no fun z => by omega
      · simp (disch := omega) only [e_X7_depth_85, e_X7_depth_86, e_X7_depth_89, e_X7_depth_92, e_X7_depth_94, e_X7_depth_95, e_X7_depth_96, e_X7_depth_97, e_X7_depth_100, e_X7_depth_101, tand, true_and, and_true, nl1_int, nl1_ref, nl1_null, nl1_ra, cat1_int, cat1_ref, cat1_null, stbs_nil, stbs_cons, stb_int, stb_long, stb_ref, stb_null, stb_ra, alv_nil, alv_cons, alv1_int, alv1_ref, alv1_null, alv1_ra, List.length_nil, List.length_cons, Nat.reduceAdd, Nat.reduceLeDiff, Nat.zero_le, Option.toList_some, Option.toList_none, List.cons_append, List.nil_append, or_true, true_or, or_false, false_or, Nat.reduceEqDiff, not_true_eq_false, not_false_eq_true, false_and, and_false, false_implies, true_implies, implies_true, ne_eq, and_self, ok1, M.k40, M.r40, z41, M.k41, M.n41, isIA, vpT, nI_clamp, nI_add, M.rd, gK_pI, gN_pI, gR_pI, gI_same, gI_diff, u1_eq, u1_ne, nI_ltE]
        refine ⟨fun h2 => ?_, fun h2 => ?_⟩
        · simp only [e_X7_depth_104, tand, true_and, and_true, nl1_int, nl1_ref, nl1_null, nl1_ra, cat1_int, cat1_ref, cat1_null, stbs_nil, stbs_cons, stb_int, stb_long, stb_ref, stb_null, stb_ra, alv_nil, alv_cons, alv1_int, alv1_ref, alv1_null, alv1_ra, List.length_nil, List.length_cons, Nat.reduceAdd, Nat.reduceLeDiff, Nat.zero_le, Option.toList_some, Option.toList_none, List.cons_append, List.nil_append, or_true, true_or, or_false, false_or, Nat.reduceEqDiff, not_true_eq_false, not_false_eq_true, false_and, and_false, false_implies, true_implies, implies_true, ne_eq, and_self, ok1]
          refine no fun z => ?_
          rw [if_neg (by omega)] at z
          omega
        · refine yes ⟨by omega, ?_⟩
          rw [if_neg (by omega)]
          omega
    · subst e
      simp (disch := omega) only [e_X7_depth_19, e_X7_depth_21, e_X7_depth_22, e_X7_depth_25, e_X7_depth_27, e_X7_depth_28, e_X7_depth_31, e_X7_depth_32, e_X7_depth_35, e_X7_depth_36, e_X7_depth_39, e_X7_depth_41, e_X7_depth_43, e_X7_depth_44, e_X7_depth_45, tand, true_and, and_true, nl1_int, nl1_ref, nl1_null, nl1_ra, cat1_int, cat1_ref, cat1_null, stbs_nil, stbs_cons, stb_int, stb_long, stb_ref, stb_null, stb_ra, alv_nil, alv_cons, alv1_int, alv1_ref, alv1_null, alv1_ra, List.length_nil, List.length_cons, Nat.reduceAdd, Nat.reduceLeDiff, Nat.zero_le, Option.toList_some, Option.toList_none, List.cons_append, List.nil_append, or_true, true_or, or_false, false_or, Nat.reduceEqDiff, not_true_eq_false, not_false_eq_true, false_and, and_false, false_implies, true_implies, implies_true, ne_eq, and_self, ok1, M.k40, M.r40, z41, M.k41, M.n41, isIA, vpT, nI_clamp, nI_add, M.rd, gK_pI, gN_pI, gR_pI, gI_same, gI_diff, u1_eq, u1_ne, nI_leE, hle, n1z, nI_eq0]
      refine ⟨fun h1 => ?_, fun h1 => ?_⟩
      · simp only [e_X7_depth_67, e_X7_depth_68, tand, true_and, and_true, nl1_int, nl1_ref, nl1_null, nl1_ra, cat1_int, cat1_ref, cat1_null, stbs_nil, stbs_cons, stb_int, stb_long, stb_ref, stb_null, stb_ra, alv_nil, alv_cons, alv1_int, alv1_ref, alv1_null, alv1_ra, List.length_nil, List.length_cons, Nat.reduceAdd, Nat.reduceLeDiff, Nat.zero_le, Option.toList_some, Option.toList_none, List.cons_append, List.nil_append, or_true, true_or, or_false, false_or, Nat.reduceEqDiff, not_true_eq_false, not_false_eq_true, false_and, and_false, false_implies, true_implies, implies_true, ne_eq, and_self, ok1]
        exact no fun z => by omega
      · have h1' : a (96 + x) = 0 := by omega
        simp (disch := omega) only [e_X7_depth_48, e_X7_depth_49, e_X7_depth_52, e_X7_depth_55, e_X7_depth_57, e_X7_depth_58, e_X7_depth_59, e_X7_depth_60, e_X7_depth_63, e_X7_depth_64, tand, true_and, and_true, nl1_int, nl1_ref, nl1_null, nl1_ra, cat1_int, cat1_ref, cat1_null, stbs_nil, stbs_cons, stb_int, stb_long, stb_ref, stb_null, stb_ra, alv_nil, alv_cons, alv1_int, alv1_ref, alv1_null, alv1_ra, List.length_nil, List.length_cons, Nat.reduceAdd, Nat.reduceLeDiff, Nat.zero_le, Option.toList_some, Option.toList_none, List.cons_append, List.nil_append, or_true, true_or, or_false, false_or, Nat.reduceEqDiff, not_true_eq_false, not_false_eq_true, false_and, and_false, false_implies, true_implies, implies_true, ne_eq, and_self, ok1, M.k40, M.r40, z41, M.k41, M.n41, isIA, vpT, nI_clamp, nI_add, M.rd, gK_pI, gN_pI, gR_pI, gI_same, gI_diff, u1_eq, u1_ne, nI_ltE]
        refine ⟨fun h2 => ?_, fun h2 => ?_⟩
        · simp only [e_X7_depth_67, e_X7_depth_68, tand, true_and, and_true, nl1_int, nl1_ref, nl1_null, nl1_ra, cat1_int, cat1_ref, cat1_null, stbs_nil, stbs_cons, stb_int, stb_long, stb_ref, stb_null, stb_ra, alv_nil, alv_cons, alv1_int, alv1_ref, alv1_null, alv1_ra, List.length_nil, List.length_cons, Nat.reduceAdd, Nat.reduceLeDiff, Nat.zero_le, Option.toList_some, Option.toList_none, List.cons_append, List.nil_append, or_true, true_or, or_false, false_or, Nat.reduceEqDiff, not_true_eq_false, not_false_eq_true, false_and, and_false, false_implies, true_implies, implies_true, ne_eq, and_self, ok1]
          refine no fun z => ?_
          rw [if_pos h1'] at z
          omega
        · refine yes ⟨by omega, ?_⟩
          rw [if_pos h1']
          omega
theorem d_depth1 {b : Nat} {x : Int32} (h : MB g w hist st kept snap t n) (hx : ¬ ∃ p, x = nI p ∧ 1 ≤ p ∧ p ≤ 500) (q : Q (some (.int (-2))) g) : w_X7_depth [.ref 40, .int (nI b), .int x] g Q := by
  refine wm_at rfl ⟨trivial, trivial, trivial, trivial⟩ (show WP m_X7_depth Q 0 [.ref 40, .int (nI b), .int x, .retAddr 0, .retAddr 0, .retAddr 0] [] g from ?_)
  simp only [e_X7_depth_0, e_X7_depth_1, e_X7_depth_2, e_X7_depth_5, tand, true_and, and_true, nl1_int, nl1_ref, nl1_null, nl1_ra, cat1_int, cat1_ref, cat1_null, stbs_nil, stbs_cons, stb_int, stb_long, stb_ref, stb_null, stb_ra, alv_nil, alv_cons, alv1_int, alv1_ref, alv1_null, alv1_ra, List.length_nil, List.length_cons, Nat.reduceAdd, Nat.reduceLeDiff, Nat.zero_le, Option.toList_some, Option.toList_none, List.cons_append, List.nil_append, or_true, true_or, or_false, false_or, Nat.reduceEqDiff, not_true_eq_false, not_false_eq_true, false_and, and_false, false_implies, true_implies, implies_true, ne_eq, and_self, ok1, h.k40]
  refine c_X7_inF (by omega) (by omega) hx ?_
  simp only [e_X7_depth_8, e_X7_depth_11, e_X7_depth_13, tand, true_and, and_true, nl1_int, nl1_ref, nl1_null, nl1_ra, cat1_int, cat1_ref, cat1_null, stbs_nil, stbs_cons, stb_int, stb_long, stb_ref, stb_null, stb_ra, alv_nil, alv_cons, alv1_int, alv1_ref, alv1_null, alv1_ra, List.length_nil, List.length_cons, Nat.reduceAdd, Nat.reduceLeDiff, Nat.zero_le, Option.toList_some, Option.toList_none, List.cons_append, List.nil_append, or_true, true_or, or_false, false_or, Nat.reduceEqDiff, not_true_eq_false, not_false_eq_true, false_and, and_false, false_implies, true_implies, implies_true, ne_eq, and_self, ok1, n0z]
  exact q
theorem d_depth2 {b p : Nat} (hb : b ≤ 1) (h : MB g w hist st kept snap t n) (hB : TB w) (hI : InvA w) (h1 : 1 ≤ p) (h2 : p ≤ 500) (q : Q (some (.int (nI (dpN w b p 17)))) g) : w_X7_depth [.ref 40, .int (nI b), .int (nI p)] g Q := by
  refine wm_at rfl ⟨trivial, trivial, trivial, trivial⟩ (show WP m_X7_depth Q 0 [.ref 40, .int (nI b), .int (nI p), .retAddr 0, .retAddr 0, .retAddr 0] [] g from ?_)
  simp only [e_X7_depth_0, e_X7_depth_1, e_X7_depth_2, e_X7_depth_5, tand, true_and, and_true, nl1_int, nl1_ref, nl1_null, nl1_ra, cat1_int, cat1_ref, cat1_null, stbs_nil, stbs_cons, stb_int, stb_long, stb_ref, stb_null, stb_ra, alv_nil, alv_cons, alv1_int, alv1_ref, alv1_null, alv1_ra, List.length_nil, List.length_cons, Nat.reduceAdd, Nat.reduceLeDiff, Nat.zero_le, Option.toList_some, Option.toList_none, List.cons_append, List.nil_append, or_true, true_or, or_false, false_or, Nat.reduceEqDiff, not_true_eq_false, not_false_eq_true, false_and, and_false, false_implies, true_implies, implies_true, ne_eq, and_self, ok1, h.k40]
  refine c_X7_inT ⟨h1, h2⟩ (by omega) ?_
  simp only [e_X7_depth_8, e_X7_depth_14, e_X7_depth_15, e_X7_depth_16, e_X7_depth_17, tand, true_and, and_true, nl1_int, nl1_ref, nl1_null, nl1_ra, cat1_int, cat1_ref, cat1_null, stbs_nil, stbs_cons, stb_int, stb_long, stb_ref, stb_null, stb_ra, alv_nil, alv_cons, alv1_int, alv1_ref, alv1_null, alv1_ra, List.length_nil, List.length_cons, Nat.reduceAdd, Nat.reduceLeDiff, Nat.zero_le, Option.toList_some, Option.toList_none, List.cons_append, List.nil_append, or_true, true_or, or_false, false_or, Nat.reduceEqDiff, not_true_eq_false, not_false_eq_true, false_and, and_false, false_implies, true_implies, implies_true, ne_eq, and_self, ok1, n1z]
  obtain ⟨A, pos, M, R, up⟩ := h.at
  generalize A 41 = a at *
  have hL := R.1.lb hB fun i hi => (hI.2.1 i hi).1
  refine depth_loopM M hL hb h2 (F := fun x => if a (96 + x) ≠ b ∧ (if a (96 + x) = 0 then a (128 + x) ≤ p else p ≤ a (128 + x)) then a (112 + x) else 0) (fun _ _ => rfl) ?_ (a 11) 0 trivial (Nat.zero_add _)
  unfold dpN at q
  rw [R.sum (F := fun i => if wF w i 1 ≠ b ∧ meF w i p = true then wF w i 3 else 0) (fun x hx => ?_) (fun i hi h0 => ?_)]
  · exact q
  · obtain ⟨⟨p1, _⟩, ⟨c0, c1, c2, c3, c4⟩, _⟩ := R.1.o hx
    rw [c2, c3, c4]
    unfold meF
    by_cases e : wF w (pos x) 1 = 0
    · simp only [e, if_true, decide_eq_true_eq]
    · simp only [e, if_false, decide_eq_true_eq]
  · rw [h0]
    split <;> rfl
end Mtl
