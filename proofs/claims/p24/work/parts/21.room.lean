/-! ===== how much the rows of years can make: a potential ===== -/
def rowL (c j : Nat) : Nat := 100 * (j + 1) + (if c < 6 then 6 + 3 * c else 24 + 3 * (c - 6))
theorem rowL_inj {c j c' j' : Nat} (h1 : c < 23) (h2 : c' < 23) (h : rowL c j = rowL c' j') : c = c' ∧ j = j' := by
  unfold rowL at h
  split at h <;> split at h <;> omega
noncomputable def rowD (l : Nat → Nat) (x : Nat) : Nat := sm (fun v => @ite Nat (x < v ∧ ∃ j, j < 7 ∧ l j = v) (Classical.propDecidable _) v 0) 2000
theorem rowD_same {l l' : Nat → Nat} {x : Nat} (h : ∀ j, j < 7 → l' j = l j) : rowD l' x = rowD l x := by
  unfold rowD
  refine sm_eq _ fun v _ => ?_
  have : (∃ j, j < 7 ∧ l' j = v) = (∃ j, j < 7 ∧ l j = v) := propext ⟨fun ⟨j, a, b⟩ => ⟨j, a, by rw [← h j a]; exact b⟩, fun ⟨j, a, b⟩ => ⟨j, a, by rw [h j a]; exact b⟩⟩
  rw [this]
theorem rowD_mono {l l' : Nat → Nat} {x x' : Nat} (hx : x ≤ x') (h : ∀ v, x' < v → (∃ j, j < 7 ∧ l' j = v) → ∃ j, j < 7 ∧ l j = v) : rowD l' x' ≤ rowD l x := by
  refine sm_le _ fun v _ => ?_
  by_cases h1 : x' < v ∧ ∃ j, j < 7 ∧ l' j = v
  · rw [if_pos h1, if_pos ⟨by omega, h v h1.1 h1.2⟩]
    exact Nat.le_refl _
  · rw [if_neg h1]
    exact Nat.zero_le _
noncomputable def psi (l : Nat → Nat) : Nat := sm (fun q => rowD l (l q)) 7
theorem psi_same {l l' : Nat → Nat} (h : ∀ j, j < 7 → l' j = l j) : psi l' = psi l := by
  unfold psi
  exact sm_eq _ fun q hq => by rw [h q hq, rowD_same h]
theorem psi_copy {l l' : Nat → Nat} {p q : Nat} (hp : p < 7) (hq : q < 7) (hlt : l q < l p) (hM : l p < 2000) (hq' : l' q = l p) (ho : ∀ j, j < 7 → j ≠ q → l' j = l j) : psi l' + l p ≤ psi l := by
  have hsub : ∀ v, (∃ j, j < 7 ∧ l' j = v) → ∃ j, j < 7 ∧ l j = v := by
    rintro v ⟨j, h1, h2⟩
    by_cases hj : j = q
    · exact ⟨p, hp, by rw [← h2, hj, hq']⟩
    · exact ⟨j, h1, by rw [← h2, ho j h1 hj]⟩
  have hD : rowD l' (l p) + l p ≤ rowD l (l q) := by
    have e : l p = sm (fun v => if v = l p then l p else 0) 2000 := by rw [sm_one, if_pos hM]
    conv => lhs; rhs; rw [e]
    unfold rowD
    rw [← sm_add]
    refine sm_le _ fun v _ => ?_
    by_cases hv : v = l p
    · rw [if_neg (fun z => absurd z.1 (by omega)), if_pos hv, if_pos ⟨by omega, p, hp, hv.symm⟩]
      omega
    · rw [if_neg hv, Nat.add_zero]
      by_cases h1 : l p < v ∧ ∃ j, j < 7 ∧ l' j = v
      · rw [if_pos h1, if_pos ⟨by omega, hsub v h1.2⟩]
        exact Nat.le_refl _
      · rw [if_neg h1]
        exact Nat.zero_le _
  have h2 : sm (fun i => rowD l' (l' i) + (if i = q then l p else 0)) 7 ≤ psi l := by
    refine sm_le _ fun i hi => ?_
    by_cases hiq : i = q
    · rw [if_pos hiq, hiq, hq']
      exact hD
    · rw [if_neg hiq, ho i hi hiq, Nat.add_zero]
      exact rowD_mono (Nat.le_refl _) fun v _ hv => hsub v hv
  rw [sm_add, sm_one, if_pos hq] at h2
  exact h2
theorem psi_add {l l' : Nat → Nat} {q n : Nat} (hq : q < 7) (hlt : l q < n) (hq' : l' q = n) (ho : ∀ j, j < 7 → j ≠ q → l' j = l j) : psi l' ≤ psi l + 6 * n := by
  have hsub : ∀ v, v ≠ n → (∃ j, j < 7 ∧ l' j = v) → ∃ j, j < 7 ∧ l j = v := by
    rintro v hv ⟨j, h1, h2⟩
    by_cases hj : j = q
    · exact absurd (by rw [← h2, hj, hq']) hv
    · exact ⟨j, h1, by rw [← h2, ho j h1 hj]⟩
  have hD : ∀ x, rowD l' x ≤ rowD l x + n := by
    intro x
    have e : sm (fun v => if v = n then n else 0) 2000 ≤ n := by
      rw [sm_one]
      split <;> omega
    refine Nat.le_trans ?_ (Nat.add_le_add_left e _)
    unfold rowD
    rw [← sm_add]
    refine sm_le _ fun v _ => ?_
    by_cases hv : v = n
    · rw [if_pos hv]
      by_cases h1 : x < v ∧ ∃ j, j < 7 ∧ l' j = v
      · rw [if_pos h1]; omega
      · rw [if_neg h1]; omega
    · rw [if_neg hv, Nat.add_zero]
      by_cases h1 : x < v ∧ ∃ j, j < 7 ∧ l' j = v
      · rw [if_pos h1, if_pos ⟨h1.1, hsub v hv h1.2⟩]
        exact Nat.le_refl _
      · rw [if_neg h1]
        exact Nat.zero_le _
  have h2 : psi l' ≤ sm (fun i => rowD l (l i) + (if i = q then 0 else n)) 7 := by
    refine sm_le _ fun i hi => ?_
    by_cases hiq : i = q
    · rw [if_pos hiq, hiq, hq', Nat.add_zero]
      refine rowD_mono (by omega) fun v h1 hv => hsub v (by omega) hv
    · rw [if_neg hiq, ho i hi hiq]
      exact hD _
  have h3 : sm (fun i => if i = q then 0 else n) 7 = 6 * n := by
    have h4 := sm_upd (f := fun _ => n) (g := fun i => if i = q then 0 else n) (a := q) 7 hq (fun i _ hi => by simp [hi])
    have h5 : sm (fun _ => n) 7 = 7 * n := by simp only [sm]; omega
    simp only [if_true] at h4
    omega
  rw [sm_add, h3] at h2
  exact h2
/-- the room of the rows -/
def JR (g : mG) : Prop :=
  (∀ c j, c < 23 → j < 7 → 8 ≤ gN g (rowL c j) ∧ gN g (rowL c j) ≤ 1998) ∧
  gS g + sm (fun c => psi (fun j => gN g (rowL c j))) 23 ≤ 200000 + 14 * sm (fun c => sm (fun j => gN g (rowL c j)) 7) 23 ∧
  8 * gC g ≤ 8000 + gS g
theorem JR.same {g g' : mG} (h : JR g) (hn : ∀ c j, c < 23 → j < 7 → gN g' (rowL c j) = gN g (rowL c j)) (hs : gS g' = gS g) (hc : gC g' = gC g) : JR g' := by
  obtain ⟨h1, h2, h3⟩ := h
  have e1 : sm (fun c => psi (fun j => gN g' (rowL c j))) 23 = sm (fun c => psi (fun j => gN g (rowL c j))) 23 := sm_eq _ fun c hc => psi_same fun j hj => hn c j hc hj
  have e2 : sm (fun c => sm (fun j => gN g' (rowL c j)) 7) 23 = sm (fun c => sm (fun j => gN g (rowL c j)) 7) 23 := sm_eq _ fun c hc => sm_eq _ fun j hj => hn c j hc hj
  exact ⟨fun c j a b => by rw [hn c j a b]; exact h1 c j a b, by rw [hs, e1, e2]; exact h2, by rw [hc, hs]; exact h3⟩
theorem JR.grow {g g' : mG} (h : JR g) {c0 j0 n : Nat} (hc0 : c0 < 23) (hj0 : j0 < 7) (hn0 : gN g' (rowL c0 j0) = n) (hn : ∀ c j, c < 23 → j < 7 → ¬ (c = c0 ∧ j = j0) → gN g' (rowL c j) = gN g (rowL c j)) (hs : gS g' = gS g + n) (hc : gC g' = gC g + 1) (h8 : 8 ≤ n) (hM : n ≤ 1998)
    (hp : psi (fun j => gN g' (rowL c0 j)) + n + 14 * gN g (rowL c0 j0) ≤ psi (fun j => gN g (rowL c0 j)) + 14 * n) : JR g' := by
  obtain ⟨h1, h2, h3⟩ := h
  have e1 := sm_upd (f := fun c => psi (fun j => gN g (rowL c j))) (g := fun c => psi (fun j => gN g' (rowL c j))) (a := c0) 23 hc0 (fun c hc hne => psi_same fun j hj => hn c j hc hj (fun z => hne z.1))
  have e2 := sm_upd (f := fun c => sm (fun j => gN g (rowL c j)) 7) (g := fun c => sm (fun j => gN g' (rowL c j)) 7) (a := c0) 23 hc0 (fun c hc hne => sm_eq _ fun j hj => hn c j hc hj (fun z => hne z.1))
  have e3 := sm_upd (f := fun j => gN g (rowL c0 j)) (g := fun j => gN g' (rowL c0 j)) (a := j0) 7 hj0 (fun j hj hne => hn c0 j hc0 hj (fun z => hne z.2))
  try dsimp only at e1 e2 e3
  rw [hn0] at e3
  refine ⟨fun c j a b => ?_, ?_, by omega⟩
  · by_cases hcj : c = c0 ∧ j = j0
    · rw [hcj.1, hcj.2, hn0]; exact ⟨h8, hM⟩
    · rw [hn c j a b hcj]; exact h1 c j a b
  · rw [hs]
    omega
theorem JR.add {g g' : mG} (h : JR g) {c0 j0 n : Nat} (hc0 : c0 < 23) (hj0 : j0 < 7) (hn0 : gN g' (rowL c0 j0) = n) (hn : ∀ c j, c < 23 → j < 7 → ¬ (c = c0 ∧ j = j0) → gN g' (rowL c j) = gN g (rowL c j)) (hs : gS g' = gS g + n) (hc : gC g' = gC g + 1) (h2n : 2 * gN g (rowL c0 j0) ≤ n) (hM : n ≤ 1998) : JR g' := by
  have h8 := (h.1 c0 j0 hc0 hj0).1
  refine h.grow hc0 hj0 hn0 hn hs hc (by omega) hM ?_
  have := psi_add (l := fun j => gN g (rowL c0 j)) (l' := fun j => gN g' (rowL c0 j)) (q := j0) (n := n) hj0 (by omega) hn0 (fun j hj hne => hn c0 j hc0 hj (fun z => hne z.2))
  omega
theorem JR.copy {g g' : mG} (h : JR g) {c0 j0 j1 n : Nat} (hc0 : c0 < 23) (hj0 : j0 < 7) (hj1 : j1 < 7) (hn1 : gN g (rowL c0 j1) = n) (hlt : gN g (rowL c0 j0) < n) (hn0 : gN g' (rowL c0 j0) = n) (hn : ∀ c j, c < 23 → j < 7 → ¬ (c = c0 ∧ j = j0) → gN g' (rowL c j) = gN g (rowL c j)) (hs : gS g' = gS g + n) (hc : gC g' = gC g + 1) : JR g' := by
  have h8 := h.1 c0 j1 hc0 hj1
  rw [hn1] at h8
  refine h.grow hc0 hj0 hn0 hn hs hc (by omega) (by omega) ?_
  have := psi_copy (l := fun j => gN g (rowL c0 j)) (l' := fun j => gN g' (rowL c0 j)) (p := j1) (q := j0) hj1 hj0 (by rw [hn1]; exact hlt) (by rw [hn1]; omega) (by rw [hn1]; exact hn0) (fun j hj hne => hn c0 j hc0 hj (fun z => hne z.2))
  rw [hn1] at this
  omega
theorem JR.total {g : mG} (h : JR g) : gS g ≤ 4800000 ∧ gC g ≤ 600000 := by
  obtain ⟨h1, h2, h3⟩ := h
  have e : sm (fun c => sm (fun j => gN g (rowL c j)) 7) 23 ≤ sm (fun _ => 7 * 1998) 23 := sm_le _ fun c hc => by
    have : sm (fun j => gN g (rowL c j)) 7 ≤ sm (fun _ => 1998) 7 := sm_le _ fun j hj => (h1 c j hc hj).2
    simp only [sm] at this ⊢
    omega
  simp only [sm] at e
  simp only [sm] at h2
  constructor <;> omega
