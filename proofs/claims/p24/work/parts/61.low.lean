/-! ===== the law's small helpers: low, cell ===== -/
theorem vpT {n N : Nat} (h : n < N) (hN : N < 2 ^ 31) : vp_in (nI n) N = True := by rw [nI_vp (by omega) hN]; exact propext ⟨fun _ => trivial, fun _ => h⟩
theorem msk_nI (v : Int32) : ∃ z, z < 2 ^ 31 ∧ v &&& nI 2147483647 = nI z := by
  refine ⟨(v &&& nI 2147483647).toBitVec.toNat, ?_, ?_⟩
  · rw [Int32.toBitVec_and, BitVec.toNat_and]
    have e : (nI 2147483647).toBitVec.toNat = 2147483647 := by decide +kernel
    rw [e]
    exact Nat.lt_of_le_of_lt Nat.and_le_right (by decide)
  · have e : ∀ x : Int32, Int32.ofNat x.toBitVec.toNat = x := fun x => by
      apply Int32.toBitVec_inj.mp
      show BitVec.ofNat 32 x.toBitVec.toNat = x.toBitVec
      simp
    exact (e _).symm
/-- what low(v, n) answers -/
def lowN (v : Int32) (n : Nat) : Nat := (v &&& nI 2147483647).toNatClampNeg % n
theorem lowN_lt {v : Int32} {n : Nat} (h : 0 < n) : lowN v n < n := Nat.mod_lt _ h
/-- the script: L ints xs -/
def SX (g : mG) (xs : Nat → Int32) (L : Nat) : Prop := gK g 2 = 10 ∧ gN g 2 = L ∧ ∀ j, j < L → gI g 2 j = xs j
def cellV (xs : Nat → Int32) (L k : Nat) : Int32 := if k < L then xs k else nI 2750207 * nI k + nI 1759
section Low
variable {g : mG} {Q : mQ}
theorem c_low {v : Int32} {n : Nat} (h0 : 0 < n) (hn : n < 2 ^ 31) (q : Q (some (.int (nI (lowN v n)))) g) : w_L_low [.int v, .int (nI n)] g Q := by
  refine wm_at rfl ⟨trivial, trivial, trivial⟩ (show WP m_L_low Q 0 [.int v, .int (nI n)] [] g from ?_)
  obtain ⟨z, hz, ez⟩ := msk_nI v
  have e1 : nI z / nI n = nI (z / n) := pk_div hz h0 hn
  have e2 : nI (z / n) * nI n = nI (z / n * n) := pk_mul _ _
  have e3 : nI z - nI (z / n * n) = nI (z - z / n * n) := pk_sub (Nat.div_mul_le_self z n)
  have e4 : z - z / n * n = z % n := by
    have h1 := Nat.mod_add_div z n
    have h2 := Nat.mul_comm n (z / n)
    omega
  have q' : Q (some (.int (nI (z % n)))) g := by
    unfold lowN at q
    rw [ez, nI_clamp hz] at q
    exact q
  have nz : (nI n = 0) = False := by
    rw [nI_eq0 hn]
    exact propext ⟨fun h => by omega, fun h => h.elim⟩
  simp (disch := omega) only [e_L_low_0, e_L_low_1, e_L_low_3, e_L_low_4, e_L_low_5, e_L_low_6, tand, true_and, and_true, nl1_int, nl1_ref, nl1_null, nl1_ra, cat1_int, cat1_ref, cat1_null, stbs_nil, stbs_cons, stb_int, stb_long, stb_ref, stb_null, stb_ra, alv_nil, alv_cons, alv1_int, alv1_ref, alv1_null, alv1_ra, List.length_nil, List.length_cons, Nat.reduceAdd, Nat.reduceLeDiff, Nat.zero_le, Option.toList_some, Option.toList_none, List.cons_append, List.nil_append, or_true, true_or, or_false, false_or, Nat.reduceEqDiff, not_true_eq_false, not_false_eq_true, false_and, and_false, false_implies, true_implies, implies_true, ne_eq, and_self, ok1, ez, e1, e2, e3, e4, nz]
  exact q'
theorem c_cell {xs : Nat → Int32} {L k : Nat} (h : SX g xs L) (hL : L < 2 ^ 30) (hk : k < 2 ^ 30) (q : Q (some (.int (cellV xs L k))) g) : w_L_cell [.ref 2, .int (nI k)] g Q := by
  refine wm_at rfl ⟨trivial, trivial, trivial⟩ (show WP m_L_cell Q 0 [.ref 2, .int (nI k)] [] g from ?_)
  obtain ⟨k2, n2, r2⟩ := h
  unfold cellV at q
  simp (disch := omega) only [e_L_cell_0, e_L_cell_1, e_L_cell_1n, e_L_cell_2, e_L_cell_3, tand, true_and, and_true, nl1_int, nl1_ref, nl1_null, nl1_ra, cat1_int, cat1_ref, cat1_null, stbs_nil, stbs_cons, stb_int, stb_long, stb_ref, stb_null, stb_ra, alv_nil, alv_cons, alv1_int, alv1_ref, alv1_null, alv1_ra, List.length_nil, List.length_cons, Nat.reduceAdd, Nat.reduceLeDiff, Nat.zero_le, Option.toList_some, Option.toList_none, List.cons_append, List.nil_append, or_true, true_or, or_false, false_or, Nat.reduceEqDiff, not_true_eq_false, not_false_eq_true, false_and, and_false, false_implies, true_implies, implies_true, ne_eq, and_self, ok1, k2, n2, nI_leE]
  refine ⟨fun h1 => ?_, fun h1 => ?_⟩
  · rw [if_neg (by omega)] at q
    simp (disch := omega) only [e_L_cell_12, e_L_cell_14, e_L_cell_15, e_L_cell_16, e_L_cell_19, e_L_cell_20, tand, true_and, and_true, nl1_int, nl1_ref, nl1_null, nl1_ra, cat1_int, cat1_ref, cat1_null, stbs_nil, stbs_cons, stb_int, stb_long, stb_ref, stb_null, stb_ra, alv_nil, alv_cons, alv1_int, alv1_ref, alv1_null, alv1_ra, List.length_nil, List.length_cons, Nat.reduceAdd, Nat.reduceLeDiff, Nat.zero_le, Option.toList_some, Option.toList_none, List.cons_append, List.nil_append, or_true, true_or, or_false, false_or, Nat.reduceEqDiff, not_true_eq_false, not_false_eq_true, false_and, and_false, false_implies, true_implies, implies_true, ne_eq, and_self, ok1]
    exact q
  · have hlt : k < L := by omega
    rw [if_pos hlt] at q
    simp (disch := omega) only [e_L_cell_6, e_L_cell_6n, e_L_cell_7, e_L_cell_8, e_L_cell_9, e_L_cell_20, tand, true_and, and_true, nl1_int, nl1_ref, nl1_null, nl1_ra, cat1_int, cat1_ref, cat1_null, stbs_nil, stbs_cons, stb_int, stb_long, stb_ref, stb_null, stb_ra, alv_nil, alv_cons, alv1_int, alv1_ref, alv1_null, alv1_ra, List.length_nil, List.length_cons, Nat.reduceAdd, Nat.reduceLeDiff, Nat.zero_le, Option.toList_some, Option.toList_none, List.cons_append, List.nil_append, or_true, true_or, or_false, false_or, Nat.reduceEqDiff, not_true_eq_false, not_false_eq_true, false_and, and_false, false_implies, true_implies, implies_true, ne_eq, and_self, ok1, k2, n2, isIA, vpT, nI_clamp, r2 k hlt]
    exact q
end Low
