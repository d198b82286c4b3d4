/-! ===== ranks: standing orders of a kind, counted ===== -/
def cB (w : Rw) (b : Nat) : Nat := sm (fun i => nB (stF w b i)) 17
theorem sm_le1 {p : Nat → Bool} : ∀ (n : Nat), (∀ i j, i < n → j < n → p i = true → p j = true → i = j) → sm (fun i => nB (p i)) n ≤ 1
  | 0, _ => Nat.zero_le _
  | n + 1, h => by
    have ih := sm_le1 n fun i j hi hj => h i j (by omega) (by omega)
    show sm (fun i => nB (p i)) n + nB (p n) ≤ 1
    by_cases hp : p n = true
    · have e : sm (fun i => nB (p i)) n = 0 := sm_0 n fun i hi => by
        have hf : p i = false := by
          cases hpi : p i with
          | false => rfl
          | true =>
            have := h i n (by omega) (by omega) hpi hp
            omega
        rw [hf]; rfl
      rw [e, hp]; decide
    · have hf : p n = false := by simpa using hp
      rw [hf]
      exact ih
/-- a sum over standing orders of a kind with a rank below n -/
def rkS (w : Rw) (b : Nat) (f : Nat → Nat) (n : Nat) : Nat := sm (fun j => if stF w b j = true ∧ btN w j < n then f j else 0) 17
section Rnk
variable {w : Rw} {b i j n : Nat} {f : Nat → Nat}
theorem btN_cB (hi : i < 17) (si : stF w b i = true) : btN w i < cB w b := by
  unfold btN cB
  rw [(stF_spec si).2]
  refine sm_lt (a := i) 17 hi (fun j _ => nB_le fun z => ?_) ?_
  · rw [Bool.and_eq_true] at z
    exact z.1
  · show nB (stF w b i && beF w i i) < nB (stF w b i)
    rw [beF_ir, si]
    decide
theorem rank_ex (hI : InvA w) {r : Nat} (hr : r < cB w b) : ∃ i, i < 17 ∧ stF w b i = true ∧ btN w i = r := by
  refine Classical.byContradiction fun hno => ?_
  have c1 : ∀ x, sm (fun i => nB (stF w b i && decide (btN w i = x))) 17 ≤ 1 := fun x => sm_le1 17 fun i j hi hj h1 h2 => by
    rw [Bool.and_eq_true, decide_eq_true_eq] at h1 h2
    exact btN_inj hI hi hj h1.1 h2.1 (h1.2.trans h2.2.symm)
  have c2 : sm (fun x => sm (fun i => nB (stF w b i && decide (btN w i = x))) 17) (cB w b) = cB w b := by
    rw [sm_swap]
    show _ = sm (fun i => nB (stF w b i)) 17
    refine sm_eq 17 fun i hi => ?_
    by_cases si : stF w b i = true
    · have e : (fun x => nB (stF w b i && decide (btN w i = x))) = fun x => if x = btN w i then 1 else 0 := by
        funext x
        rw [si, Bool.true_and]
        by_cases ex : btN w i = x
        · rw [decide_eq_true ex, if_pos ex.symm]; rfl
        · rw [decide_eq_false ex, if_neg (Ne.symm ex)]; rfl
      show sm (fun x => nB (stF w b i && decide (btN w i = x))) (cB w b) = _
      rw [e, sm_one, if_pos (btN_cB hi si), si]
      rfl
    · have sf : stF w b i = false := by simpa using si
      rw [sf]
      exact sm_0 _ fun x _ => rfl
  have c3 : sm (fun i => nB (stF w b i && decide (btN w i = r))) 17 = 0 := sm_0 17 fun i hi => by
    by_cases si : stF w b i = true
    · have hne : ¬ btN w i = r := fun e => hno ⟨i, hi, si, e⟩
      rw [decide_eq_false hne, Bool.and_false]; rfl
    · have sf : stF w b i = false := by simpa using si
      rw [sf]; rfl
  have c4 := sm_lt (f := fun x => sm (fun i => nB (stF w b i && decide (btN w i = x))) 17) (g := fun _ => 1) (a := r) (cB w b) hr (fun x _ => c1 x) (by
    show sm (fun i => nB (stF w b i && decide (btN w i = r))) 17 < 1
    rw [c3]; decide)
  have c5 : ∀ m, sm (fun _ => 1) m = m := fun m => by
    induction m with
    | zero => rfl
    | succ m ih => show sm (fun _ => 1) m + 1 = m + 1; rw [ih]
  rw [c2, c5] at c4
  omega
theorem rkS_0 : rkS w b f 0 = 0 := sm_0 17 fun j _ => if_neg fun z => by omega
theorem rkS_s (hI : InvA w) (hi : i < 17) (si : stF w b i = true) (er : btN w i = n) : rkS w b f (n + 1) = rkS w b f n + f i := by
  have h := sm_upd (f := fun j => if stF w b j = true ∧ btN w j < n then f j else 0) (g := fun j => if stF w b j = true ∧ btN w j < n + 1 then f j else 0) (a := i) 17 hi (fun j hj hne => by
    show (if stF w b j = true ∧ btN w j < n + 1 then f j else 0) = if stF w b j = true ∧ btN w j < n then f j else 0
    by_cases sj : stF w b j = true
    · have hb : btN w j ≠ n := fun e => hne (btN_inj hI hj hi sj si (e.trans er.symm))
      by_cases hlt : btN w j < n
      · rw [if_pos ⟨sj, by omega⟩, if_pos ⟨sj, hlt⟩]
      · rw [if_neg (fun z => by omega), if_neg (fun z => hlt z.2)]
    · rw [if_neg (fun z => sj z.1), if_neg (fun z => sj z.1)])
  rw [if_neg (by omega), if_pos ⟨si, by omega⟩] at h
  exact h
theorem rkS_all : rkS w b f (cB w b) = sm (fun j => if stF w b j = true then f j else 0) 17 := sm_eq 17 fun j hj => by
  by_cases sj : stF w b j = true
  · rw [if_pos ⟨sj, btN_cB hj sj⟩, if_pos sj]
  · rw [if_neg (fun z => sj z.1), if_neg sj]
theorem rank_ord (hI : InvA w) (hi : i < 17) (hj : j < 17) (si : stF w b i = true) (sj : stF w b j = true) (h : btN w i < btN w j) : beF w i j = true := by
  refine Decidable.byContradiction fun hno => ?_
  obtain ⟨i1, i2⟩ := stF_spec si
  obtain ⟨j1, j2⟩ := stF_spec sj
  have hn : wF w i 0 ≠ wF w j 0 := fun e => by
    have := hI.2.2.1 i j hi hj i1 j1 e
    rw [this] at h
    omega
  have := btN_lt hj sj si (beF_to (i2.trans j2.symm) hn hno)
  omega
/-- what may be traded at the price of rank n, or better -/
theorem rkS_dep (hI : InvA w) (hb : b ≤ 1) (hi : i < 17) (si : stF w b i = true) (er : btN w i = n) : rkS w b (fun j => wF w j 3) (n + 1) ≤ dpN w (1 - b) (wF w i 4) 17 := by
  refine sm_le 17 fun j hj => ?_
  show (if stF w b j = true ∧ btN w j < n + 1 then wF w j 3 else 0) ≤ if wF w j 1 ≠ 1 - b ∧ meF w j (wF w i 4) = true then wF w j 3 else 0
  by_cases hc : stF w b j = true ∧ btN w j < n + 1
  · obtain ⟨sj, hlt⟩ := hc
    obtain ⟨j1, j2⟩ := stF_spec sj
    obtain ⟨i1, i2⟩ := stF_spec si
    have hme : meF w j (wF w i 4) = true := by
      unfold meF
      by_cases e : btN w j = n
      · have : j = i := btN_inj hI hj hi sj si (e.trans er.symm)
        rw [this]
        split
        · exact decide_eq_true (Nat.le_refl _)
        · exact decide_eq_true (Nat.le_refl _)
      · have hbe := beF_iff.mp (rank_ord hI hj hi sj si (by omega))
        split
        next h0 => exact decide_eq_true (by omega)
        next h0 => exact decide_eq_true (by omega)
    rw [if_pos ⟨sj, hlt⟩, if_pos ⟨by omega, hme⟩]
    exact Nat.le_refl _
  · rw [if_neg hc]
    exact Nat.zero_le _
theorem dpN_all (hI : InvA w) (hp : ∀ i, i < 17 → wF w i 4 ≤ 500 ∧ (0 < wF w i 3 → 1 ≤ wF w i 4)) (hb : b ≤ 1) : dpN w (1 - b) (if b = 1 then 1 else 500) 17 = rkS w b (fun j => wF w j 3) (cB w b) := by
  rw [rkS_all]
  refine sm_eq 17 fun j hj => ?_
  show (if wF w j 1 ≠ 1 - b ∧ meF w j (if b = 1 then 1 else 500) = true then wF w j 3 else 0) = if stF w b j = true then wF w j 3 else 0
  have k1 := (hI.2.1 j hj).1
  obtain ⟨p1, p2⟩ := hp j hj
  by_cases sj : stF w b j = true
  · obtain ⟨j1, j2⟩ := stF_spec sj
    have p2' := p2 j1
    have hme : meF w j (if b = 1 then 1 else 500) = true := by
      unfold meF
      split
      next h0 => rw [if_neg (by omega)]; exact decide_eq_true p1
      next h0 => rw [if_pos (by omega)]; exact decide_eq_true p2'
    rw [if_pos sj, if_pos ⟨by omega, hme⟩]
  · rw [if_neg sj]
    by_cases hl : 0 < wF w j 3
    · have hk : wF w j 1 ≠ b := fun e => sj (by unfold stF; rw [decide_eq_true hl, decide_eq_true e]; rfl)
      rw [if_neg (fun z => z.1 (by omega))]
    · have e0 : wF w j 3 = 0 := by omega
      rw [e0]
      exact ite_self _
/-- all standing orders are bids or asks -/
theorem cB_sum (hI : InvA w) : cB w 0 + cB w 1 = cntN w := by
  unfold cB cntN
  rw [← sm_add]
  refine sm_eq 17 fun i hi => ?_
  have k1 := (hI.2.1 i hi).1
  show nB (stF w 0 i) + nB (stF w 1 i) = nB (decide (0 < wF w i 3))
  unfold stF
  by_cases h0 : wF w i 1 = 0
  · rw [decide_eq_true h0, decide_eq_false (show ¬ wF w i 1 = 1 by omega), Bool.and_true, Bool.and_false]
    rfl
  · rw [decide_eq_false h0, decide_eq_true (show wF w i 1 = 1 by omega), Bool.and_true, Bool.and_false]
    exact Nat.zero_add _
/-- what is held back -/
theorem rkS_held (hI : InvA w) (hb : b ≤ 1) : rkS w b (fun j => if b = 1 then wF w j 3 * wF w j 4 else wF w j 3) (cB w b) = if b = 1 then sm (hbF w) 17 else sm (fun i => rt (wO w i)) 17 := by
  rw [rkS_all]
  by_cases hb1 : b = 1
  · subst hb1
    rw [if_pos rfl]
    refine sm_eq 17 fun j hj => ?_
    have k1 := (hI.2.1 j hj).1
    unfold hbF stF
    by_cases h0 : wF w j 1 = 0
    · rw [decide_eq_false (show ¬ wF w j 1 = 1 by omega), Bool.and_false, if_neg (by decide), if_pos h0]
    · rw [decide_eq_true (show wF w j 1 = 1 by omega), Bool.and_true, if_neg h0, if_pos rfl]
      by_cases hl : 0 < wF w j 3
      · rw [decide_eq_true hl, if_pos rfl]
      · rw [decide_eq_false hl, if_neg (by decide), show wF w j 3 = 0 by omega, Nat.zero_mul]
  · have hb0 : b = 0 := by omega
    subst hb0
    rw [if_neg (by decide)]
    refine sm_eq 17 fun j hj => ?_
    have k1 := (hI.2.1 j hj).2.2
    show (if stF w 0 j = true then (if (0 : Nat) = 1 then wF w j 3 * wF w j 4 else wF w j 3) else 0) = rt (wO w j)
    rw [k1, if_neg (show ¬ (0 : Nat) = 1 by decide)]
    unfold stF
    by_cases h0 : wF w j 1 = 0
    · rw [decide_eq_true h0, Bool.and_true, if_pos h0]
      by_cases hl : 0 < wF w j 3
      · rw [decide_eq_true hl, if_pos rfl]
      · rw [decide_eq_false hl, if_neg (by decide)]; omega
    · rw [decide_eq_false h0, Bool.and_false, if_neg (by decide), if_neg h0]
end Rnk
