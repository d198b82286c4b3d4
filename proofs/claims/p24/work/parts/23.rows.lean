/-! ===== permits that go, oldest first ===== -/
/-- taken of a year when m are taken, the oldest first -/
def tk (r : Nat → Nat) (m y : Nat) : Nat := min (m - sm r y) (r y)
def rsu (r : Nat → Nat) (m : Nat) : Nat → Nat := fun y => r y - tk r m y
def rgo (b r : Nat → Nat) (m : Nat) : Nat → Nat := fun y => b y + tk r m y
theorem tk_le {r : Nat → Nat} {m y : Nat} : tk r m y ≤ r y := Nat.min_le_right _ _
theorem sm_tk {r : Nat → Nat} {m : Nat} : ∀ n, sm (tk r m) n = min (sm r n) m
  | 0 => by simp [sm]
  | n + 1 => by
    simp only [sm]
    rw [sm_tk n]
    unfold tk
    omega
theorem rt_tk {r : Nat → Nat} {m : Nat} (h : m ≤ rt r) : rt (tk r m) = m := by
  unfold rt at h ⊢
  rw [sm_tk]
  omega
theorem rt_rsu {r : Nat → Nat} {m : Nat} (h : m ≤ rt r) : rt (rsu r m) = rt r - m := by
  have h1 : sm (fun i => rsu r m i + tk r m i) 2000 = sm r 2000 := sm_eq _ fun i _ => by
    have := tk_le (r := r) (m := m) (y := i)
    unfold rsu
    omega
  rw [sm_add] at h1
  have h2 := rt_tk h
  unfold rt at *
  omega
theorem rt_rgo {b r : Nat → Nat} {m : Nat} (h : m ≤ rt r) : rt (rgo b r m) = rt b + m := by
  have h2 := rt_tk h
  unfold rt at *
  unfold rgo
  rw [sm_add]
  omega
theorem sm_mono {r : Nat → Nat} {a b : Nat} (h : a ≤ b) : sm r a ≤ sm r b := by
  induction b with
  | zero => rw [Nat.le_zero.mp h]; exact Nat.le_refl _
  | succ b ih =>
    by_cases h1 : a ≤ b
    · exact Nat.le_trans (ih h1) (Nat.le_add_right _ _)
    · rw [show a = b + 1 by omega]; exact Nat.le_refl _
theorem tk_done {r : Nat → Nat} {m y z : Nat} (h : m ≤ sm r y) (hz : y ≤ z) : tk r m z = 0 := by
  have := sm_mono (r := r) hz
  unfold tk
  omega
/-- the first years done -/
def rsy (r : Nat → Nat) (m y : Nat) : Nat → Nat := fun z => if z < y then rsu r m z else r z
def rgy (b r : Nat → Nat) (m y : Nat) : Nat → Nat := fun z => if z < y then rgo b r m z else b z
theorem rsy_end {r : Nat → Nat} {m y : Nat} (h : ∀ z, y ≤ z → tk r m z = 0) : rsy r m y = rsu r m := by
  funext z
  unfold rsy rsu
  by_cases hz : z < y
  · rw [if_pos hz]
  · rw [if_neg hz, h z (by omega), Nat.sub_zero]
theorem rgy_end {b r : Nat → Nat} {m y : Nat} (h : ∀ z, y ≤ z → tk r m z = 0) : rgy b r m y = rgo b r m := by
  funext z
  unfold rgy rgo
  by_cases hz : z < y
  · rw [if_pos hz]
  · rw [if_neg hz, h z (by omega), Nat.add_zero]
theorem rgy_next {b r : Nat → Nat} {m y : Nat} : rad (rgy b r m y) y (tk r m y) = rgy b r m (y + 1) := by
  funext z
  unfold rad rgy rgo
  by_cases h1 : z = y
  · rw [if_pos h1, if_neg (by omega), if_pos (by omega), h1]
  · rw [if_neg h1]
    by_cases h2 : z < y
    · rw [if_pos h2, if_pos (by omega)]
    · rw [if_neg h2, if_neg (by omega)]
theorem rt_rgy {b r : Nat → Nat} {m y : Nat} (h : m ≤ rt r) : rt (rgy b r m y) ≤ rt b + m := by
  rw [← rt_rgo h]
  refine sm_le _ fun z _ => ?_
  unfold rgy rgo
  split <;> omega
section Prow
variable {Q : mQ}
theorem c_leaveOut {g : mG} {p m yn : Nat} {r : Nat → Nat} (hP : PermX g p r yn (rt r + m)) (hb : rt r + m < 2 ^ 30)
    (h : ∀ g' yn', Fr (fun b => b = p) g g' → gC g' = gC g → gS g' = gS g → (∀ b, gN g' b = gN g b) → PermR g' p r yn' → Q none g') : w_X4_leaveOut [.ref p, .int (nI m)] g Q := by
  refine wm_at rfl ⟨trivial, trivial, trivial⟩ (show WP m_X4_leaveOut Q 0 [.ref p, .int (nI m)] [] g from ?_)
  obtain ⟨a1, a2, a3, a4, a5, a6, a7, a8⟩ := id hP
  have hsub : rt r + m - m = rt r := by omega
  have hle : m ≤ rt r + m := by omega
  have hne : p ≠ p + 1 := by omega
  simp (disch := omega) only [e_X4_leaveOut_0, e_X4_leaveOut_1, e_X4_leaveOut_2, e_X4_leaveOut_5, e_X4_leaveOut_6, e_X4_leaveOut_7, e_X4_leaveOut_10, e_X4_leaveOut_11, e_X4_leaveOut_14, e_X4_leaveOut_17, e_X4_leaveOut_18, e_X4_leaveOut_19, e_X4_leaveOut_22, tand, true_and, and_true, nl1_int, nl1_ref, nl1_null, nl1_ra, cat1_int, cat1_ref, cat1_null, stbs_nil, stbs_cons, stb_int, stb_long, stb_ref, stb_null, stb_ra, alv_nil, alv_cons, alv1_int, alv1_ref, alv1_null, alv1_ra, List.length_nil, List.length_cons, Nat.reduceAdd, Nat.reduceLeDiff, Nat.zero_le, Option.toList_some, Option.toList_none, List.cons_append, List.nil_append, or_true, true_or, or_false, false_or, Nat.reduceEqDiff, not_true_eq_false, not_false_eq_true, false_and, and_false, false_implies, true_implies, implies_true, ne_eq, and_self, ok1, a1, gK_pI, a8, pk_sub hle, hsub, gI_pI_eq, if_true, nI_eq0]
  have b7 : gI (pI g p 2 (nI (rt r))) (p + 1) = gI g (p + 1) := gI_pI_ne hne.symm
  refine ⟨fun h0 => ?_, fun h0 => ?_⟩
  · refine h _ yn (Fr.pI (X := fun b => b = p) rfl) rfl rfl (fun _ => rfl) ⟨a1, a2, by rw [gI_pI_eq, if_neg (by decide)]; exact a3, a4, a5, fun y hy => by rw [b7]; exact a6 y hy, a7, by rw [gI_pI_eq, if_pos rfl]⟩
  · refine h _ 0 ((Fr.pI (X := fun b => b = p) rfl).tr (Fr.pI rfl)) rfl rfl (fun _ => rfl) ⟨a1, a2, by rw [gI_pI_eq, if_pos rfl], ⟨Nat.zero_le _, Nat.zero_le _⟩, a5, fun y hy => absurd hy (Nat.not_lt_zero y), fun y _ => ?_, by rw [gI_pI_eq, if_neg (by decide), gI_pI_eq, if_pos rfl]⟩
    by_cases hy : y < 2000
    · have := rt_ge (r := r) hy
      omega
    · exact a7 y (by omega)
theorem left_0 {r : Nat → Nat} {m y yn : Nat} (hm : m ≤ rt r) (h0 : ∀ z, yn ≤ z → r z = 0) (hy : y ≤ 2000) (h : yn ≤ y ∨ m - sm r y = 0) : m ≤ sm r y := by
  rcases h with h | h
  · have : rt r = sm r y := sm_split 2000 hy fun i h1 _ => h0 i (by omega)
    omega
  · omega
theorem rsy_step {g : mG} {p m y yn t : Nat} {r : Nat → Nat} (hP : PermX g p (rsy r m y) yn t) (hy : y < yn) : PermX (pI g (p + 1) y (nI (r y - tk r m y))) p (rsy r m (y + 1)) yn t := by
  obtain ⟨a1, a2, a3, a4, a5, a6, a7, a8⟩ := hP
  have hne : p ≠ p + 1 := by omega
  refine ⟨a1, a2, by rw [gI_pI_ne hne]; exact a3, a4, a5, fun z hz => ?_, fun z hz => ?_, by rw [gI_pI_ne hne]; exact a8⟩
  · rw [gI_pI_eq]
    unfold rsy rsu
    by_cases h1 : z = y
    · rw [if_pos h1, if_pos (by omega), h1]
    · rw [if_neg h1, a6 z hz]
      unfold rsy rsu
      by_cases h2 : z < y
      · rw [if_pos h2, if_pos (by omega)]
      · rw [if_neg h2, if_neg (by omega)]
  · have := a7 z hz
    unfold rsy at this ⊢
    by_cases h2 : z < y
    · omega
    · rw [if_neg h2] at this
      rw [if_neg (by omega)]
      exact this
theorem rsy_0 {r : Nat → Nat} {m y yn : Nat} (h : ∀ z, yn ≤ z → rsy r m y z = 0) (hy : y ≤ yn) : ∀ z, yn ≤ z → r z = 0 := fun z hz => by
  have := h z hz
  unfold rsy at this
  rw [if_neg (by omega)] at this
  exact this
theorem give_loop {p q m : Nat} {r b : Nat → Nat} {yn : Nat} (hp : isP p) (hq : isP q) (hpq : p ≠ q ∧ p ≠ q + 1 ∧ q ≠ p + 1) (hm : m ≤ rt r) (hb : rt r < 2 ^ 29) : ∀ (k : Nat) {g : mG} {y yb : Nat} {l5 : Value}, (∀ g, stb g l5 = True) → yn - y ≤ k → y ≤ yn → Scr g → JR g → PermX g p (rsy r m y) yn (rt r) → PermR g q (rgy b r m y) yb →
    (∀ g' yn' yb', Fr (fun z => XP p z ∨ XP q z) g g' → JR g' → PermR g' p (rsu r m) yn' → PermR g' q (rgo b r m) yb' → Q none g') → WP m_X4_giveOldest Q 5 [.ref p, .int (nI m), .ref q, .int (nI (m - sm r y)), .int (nI y), l5] [] g := by
  intro k
  induction k with
  | zero =>
    intro g y yb l5 hl5 hk hyn hS hJ hP hR h
    obtain ⟨a1, a2, a3, a4, a5, a6, a7, a8⟩ := id hP
    have hyy : yn ≤ y := by omega
    have r0 := rsy_0 a7 hyn
    have hle := left_0 (y := y) hm r0 (by omega) (Or.inl hyy)
    have e0 : m - sm r y = 0 := by omega
    have hts : ∀ z, y ≤ z → tk r m z = 0 := fun z hz => tk_done hle hz
    have e1 : m - 0 = m := by omega
    simp (disch := omega) only [e_X4_giveOldest_5, e_X4_giveOldest_7, e_X4_giveOldest_8, e_X4_giveOldest_11, e_X4_giveOldest_62, e_X4_giveOldest_63, e_X4_giveOldest_64, e_X4_giveOldest_65, e_X4_giveOldest_66, tand, true_and, and_true, nl1_int, nl1_ref, nl1_null, nl1_ra, cat1_int, cat1_ref, cat1_null, stbs_nil, stbs_cons, stb_int, stb_long, stb_ref, stb_null, stb_ra, alv_nil, alv_cons, alv1_int, alv1_ref, alv1_null, alv1_ra, List.length_nil, List.length_cons, Nat.reduceAdd, Nat.reduceLeDiff, Nat.zero_le, Option.toList_some, Option.toList_none, List.cons_append, List.nil_append, or_true, true_or, or_false, false_or, Nat.reduceEqDiff, not_true_eq_false, not_false_eq_true, false_and, and_false, false_implies, true_implies, implies_true, ne_eq, and_self, ok1, a1, a3, nI_leE, hyy, e0, nI_le0, pk_sub (Nat.zero_le m), e1, hR.1, hl5]
    rw [rsy_end hts] at hP
    rw [rgy_end hts] at hR
    have e2 := rt_rsu hm
    refine c_leaveOut (r := rsu r m) (yn := yn) (by rw [show rt (rsu r m) + m = rt r by omega]; exact hP) (by omega) fun g' yn' f c1 c2 c3 q1 => ?_
    simp only [e_X4_giveOldest_69, tand, true_and, and_true, nl1_int, nl1_ref, nl1_null, nl1_ra, cat1_int, cat1_ref, cat1_null, stbs_nil, stbs_cons, stb_int, stb_long, stb_ref, stb_null, stb_ra, alv_nil, alv_cons, alv1_int, alv1_ref, alv1_null, alv1_ra, List.length_nil, List.length_cons, Nat.reduceAdd, Nat.reduceLeDiff, Nat.zero_le, Option.toList_some, Option.toList_none, List.cons_append, List.nil_append, or_true, true_or, or_false, false_or, Nat.reduceEqDiff, not_true_eq_false, not_false_eq_true, false_and, and_false, false_implies, true_implies, implies_true, ne_eq, and_self, ok1]
    exact h g' yn' yb (f.up fun b hb => Or.inl (Or.inl hb)) (hJ.same (fun c j _ _ => c3 _) c2 c1) q1 (hR.fr f (Ne.symm hpq.1) (Ne.symm hpq.2.1))
  | succ k ih =>
    intro g y yb l5 hl5 hk hyn hS hJ hP hR h
    obtain ⟨a1, a2, a3, a4, a5, a6, a7, a8⟩ := id hP
    have r0 := rsy_0 a7 hyn
    by_cases hex : yn ≤ y ∨ m - sm r y = 0
    · have hle := left_0 (y := y) hm r0 (by omega) hex
      have e0 : m - sm r y = 0 := by omega
      have hts : ∀ z, y ≤ z → tk r m z = 0 := fun z hz => tk_done hle hz
      have e1 : m - 0 = m := by omega
      simp (disch := omega) only [e_X4_giveOldest_5, e_X4_giveOldest_7, e_X4_giveOldest_8, e_X4_giveOldest_11, e_X4_giveOldest_14, e_X4_giveOldest_15, e_X4_giveOldest_62, e_X4_giveOldest_63, e_X4_giveOldest_64, e_X4_giveOldest_65, e_X4_giveOldest_66, tand, true_and, and_true, nl1_int, nl1_ref, nl1_null, nl1_ra, cat1_int, cat1_ref, cat1_null, stbs_nil, stbs_cons, stb_int, stb_long, stb_ref, stb_null, stb_ra, alv_nil, alv_cons, alv1_int, alv1_ref, alv1_null, alv1_ra, List.length_nil, List.length_cons, Nat.reduceAdd, Nat.reduceLeDiff, Nat.zero_le, Option.toList_some, Option.toList_none, List.cons_append, List.nil_append, or_true, true_or, or_false, false_or, Nat.reduceEqDiff, not_true_eq_false, not_false_eq_true, false_and, and_false, false_implies, true_implies, implies_true, ne_eq, and_self, ok1, a1, a3, nI_leE, e0, nI_le0, pk_sub (Nat.zero_le m), e1, hR.1, hl5]
      rw [rsy_end hts] at hP
      rw [rgy_end hts] at hR
      have e2 := rt_rsu hm
      have fin : w_X4_leaveOut [Value.ref p, Value.int (nI m)] g (fun v g' => WP m_X4_giveOldest Q 69 [.ref p, .int (nI m), .ref q, .int (nI 0), .int (nI y), l5] (v.toList ++ []) g') := by
        refine c_leaveOut (r := rsu r m) (yn := yn) (by rw [show rt (rsu r m) + m = rt r by omega]; exact hP) (by omega) fun g' yn' f c1 c2 c3 q1 => ?_
        simp only [e_X4_giveOldest_69, tand, true_and, and_true, nl1_int, nl1_ref, nl1_null, nl1_ra, cat1_int, cat1_ref, cat1_null, stbs_nil, stbs_cons, stb_int, stb_long, stb_ref, stb_null, stb_ra, alv_nil, alv_cons, alv1_int, alv1_ref, alv1_null, alv1_ra, List.length_nil, List.length_cons, Nat.reduceAdd, Nat.reduceLeDiff, Nat.zero_le, Option.toList_some, Option.toList_none, List.cons_append, List.nil_append, or_true, true_or, or_false, false_or, Nat.reduceEqDiff, not_true_eq_false, not_false_eq_true, false_and, and_false, false_implies, true_implies, implies_true, ne_eq, and_self, ok1]
        exact h g' yn' yb (f.up fun b hb => Or.inl (Or.inl hb)) (hJ.same (fun c j _ _ => c3 _) c2 c1) q1 (hR.fr f (Ne.symm hpq.1) (Ne.symm hpq.2.1))
      exact ⟨fun _ => fin, fun _ => fin⟩
    · have h1 : ¬ yn ≤ y := fun q => hex (Or.inl q)
      have h2 : ¬ m - sm r y = 0 := fun q => hex (Or.inr q)
      have hry : gI g (p + 1) y = nI (r y) := by
        rw [a6 y (by omega)]
        unfold rsy
        rw [if_neg (by omega)]
      have hrb : r y ≤ rt r := rt_ge (by omega)
      have hlt : y < gN g (p + 1) := by omega
      have htk : min (m - sm r y) (r y) = tk r m y := rfl
      have htl := tk_le (r := r) (m := m) (y := y)
      have hsub : nI (r y) - nI (tk r m y) = nI (r y - tk r m y) := pk_sub htl
      simp (disch := omega) only [e_X4_giveOldest_5, e_X4_giveOldest_7, e_X4_giveOldest_8, e_X4_giveOldest_11, e_X4_giveOldest_14, e_X4_giveOldest_15, e_X4_giveOldest_18, e_X4_giveOldest_19, e_X4_giveOldest_20, e_X4_giveOldest_23, e_X4_giveOldest_25, e_X4_giveOldest_26, e_X4_giveOldest_29, e_X4_giveOldest_31, e_X4_giveOldest_32, e_X4_giveOldest_35, e_X4_giveOldest_37, e_X4_giveOldest_38, e_X4_giveOldest_39, e_X4_giveOldest_41, e_X4_giveOldest_42, e_X4_giveOldest_43, e_X4_giveOldest_43n, e_X4_giveOldest_44, e_X4_giveOldest_46, e_X4_giveOldest_48, tand, true_and, and_true, nl1_int, nl1_ref, nl1_null, nl1_ra, cat1_int, cat1_ref, cat1_null, stbs_nil, stbs_cons, stb_int, stb_long, stb_ref, stb_null, stb_ra, alv_nil, alv_cons, alv1_int, alv1_ref, alv1_null, alv1_ra, List.length_nil, List.length_cons, Nat.reduceAdd, Nat.reduceLeDiff, Nat.zero_le, Option.toList_some, Option.toList_none, List.cons_append, List.nil_append, or_true, true_or, or_false, false_or, Nat.reduceEqDiff, not_true_eq_false, not_false_eq_true, false_and, and_false, false_implies, true_implies, implies_true, ne_eq, and_self, ok1, a1, a2, a3, nI_leE, h1, h2, nI_le0, isIA, nI_vp, nI_clamp, hlt, hry, nI_min, htk, hsub, gK_pI, hR.1]
      have hP1 := rsy_step hP (show y < yn by omega)
      have f1 : Fr (XP p) g (pI g (p + 1) y (nI (r y - tk r m y))) := Fr.pI (Or.inr (Or.inl rfl))
      obtain ⟨x1, x2, x3⟩ := hpq
      have n3 := hq.ne
      have hR1 : PermR (pI g (p + 1) y (nI (r y - tk r m y))) q (rgy b r m y) yb := hR.fr (Fr.pI (X := fun z => z = p + 1) rfl) x3 (by omega)
      refine c_add (hS.fr f1) hq hJ.pI hR1 (by omega) (by omega) fun g2 yb2 f2 j2 q2 => ?_
      have hle2 : tk r m y ≤ m - sm r y := Nat.min_le_left _ _
      have hnx : m - sm r y - tk r m y = m - sm r (y + 1) := by
        show m - sm r y - min (m - sm r y) (r y) = m - (sm r y + r y)
        omega
      simp (disch := omega) only [e_X4_giveOldest_51, e_X4_giveOldest_52, e_X4_giveOldest_54, e_X4_giveOldest_55, e_X4_giveOldest_56, e_X4_giveOldest_59, tand, true_and, and_true, nl1_int, nl1_ref, nl1_null, nl1_ra, cat1_int, cat1_ref, cat1_null, stbs_nil, stbs_cons, stb_int, stb_long, stb_ref, stb_null, stb_ra, alv_nil, alv_cons, alv1_int, alv1_ref, alv1_null, alv1_ra, List.length_nil, List.length_cons, Nat.reduceAdd, Nat.reduceLeDiff, Nat.zero_le, Option.toList_some, Option.toList_none, List.cons_append, List.nil_append, or_true, true_or, or_false, false_or, Nat.reduceEqDiff, not_true_eq_false, not_false_eq_true, false_and, and_false, false_implies, true_implies, implies_true, ne_eq, and_self, ok1, pk_sub hle2, hnx, nI_add]
      rw [rgy_next] at q2
      have n4 := hp.ne
      refine ih (by intro g; rfl) (by omega) (by omega) ((hS.fr f1).fr f2) j2 (hP1.fr f2 (fun z => ?_) (fun z => ?_)) q2 fun g' yn' yb' f j c d => h g' yn' yb' (Fr.tr ((f1.up fun _ z => Or.inl z).tr (f2.up fun _ z => Or.inr z)) f) j c d
      · rcases z with z | z | z <;> omega
      · rcases z with z | z | z <;> omega
/-- the oldest m permits of p go to q -/
theorem c_giveOldest {g : mG} {p q m yn yb : Nat} {r b : Nat → Nat} (hp : isP p) (hq : isP q) (hpq : p ≠ q ∧ p ≠ q + 1 ∧ q ≠ p + 1) (hm : m ≤ rt r) (hb : rt r < 2 ^ 29) (hS : Scr g) (hJ : JR g) (hP : PermR g p r yn) (hR : PermR g q b yb)
    (h : ∀ g' yn' yb', Fr (fun z => XP p z ∨ XP q z) g g' → JR g' → PermR g' p (rsu r m) yn' → PermR g' q (rgo b r m) yb' → Q none g') : w_X4_giveOldest [.ref p, .int (nI m), .ref q] g Q := by
  refine wm_at rfl ⟨trivial, trivial, trivial, trivial⟩ (show WP m_X4_giveOldest Q 0 [.ref p, .int (nI m), .ref q, .retAddr 0, .retAddr 0, .retAddr 0] [] g from ?_)
  simp only [e_X4_giveOldest_0, e_X4_giveOldest_1, e_X4_giveOldest_2, e_X4_giveOldest_3, tand, true_and, and_true, nl1_int, nl1_ref, nl1_null, nl1_ra, cat1_int, cat1_ref, cat1_null, stbs_nil, stbs_cons, stb_int, stb_long, stb_ref, stb_null, stb_ra, alv_nil, alv_cons, alv1_int, alv1_ref, alv1_null, alv1_ra, List.length_nil, List.length_cons, Nat.reduceAdd, Nat.reduceLeDiff, Nat.zero_le, Option.toList_some, Option.toList_none, List.cons_append, List.nil_append, or_true, true_or, or_false, false_or, Nat.reduceEqDiff, not_true_eq_false, not_false_eq_true, false_and, and_false, false_implies, true_implies, implies_true, ne_eq, and_self, ok1]
  have e1 : rsy r m 0 = r := by funext z; unfold rsy; rw [if_neg (Nat.not_lt_zero z)]
  have e2 : rgy b r m 0 = b := by funext z; unfold rgy; rw [if_neg (Nat.not_lt_zero z)]
  have := give_loop hp hq hpq hm hb (yn := yn) yn (g := g) (y := 0) (yb := yb) (l5 := .retAddr 0) (fun _ => rfl) (by omega) (Nat.zero_le _) hS hJ (by rw [e1]; exact hP) (by rw [e2]; exact hR) h
  exact this
end Prow
