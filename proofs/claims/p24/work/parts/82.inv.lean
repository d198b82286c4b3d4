/-! ===== what holds of a town after u orders and acts ===== -/
def cS (w : Rw) : Nat := sm (fun k => wK w k 0) 6
def kS (w : Rw) : Nat := sm (fun k => wK w k 1) 6
def pS (w : Rw) : Nat := sm (fun k => rt (wP w k)) 6
def oS (w : Rw) : Nat := sm (fun i => rt (wO w i)) 17
def hS (w : Rw) : Nat := sm (hbF w) 17
def InvS (w : Rw) : Prop := (1 ≤ wS w 11 ∧ wS w 11 ≤ 99) ∧ (100 ≤ wS w 12 ∧ wS w 12 ≤ 500) ∧ wS w 13 ≤ 100 ∧ wS w 14 ≤ 100 ∧ 1 ≤ wS w 15 ∧ wS w 15 ≤ 5
def InvO (w : Rw) : Prop := (∀ i, i < 17 → wF w i 0 ≤ wS w 6 ∧ wF w i 3 ≤ 999 ∧ wF w i 4 ≤ 500 ∧ (0 < wF w i 3 → 1 ≤ wF w i 4)) ∧ (wS w 7 = 0 ↔ wS w 8 = 0) ∧ wS w 8 ≤ 500
def InvC (w : Rw) (u : Nat) : Prop := (cS w + hS w + wS w 9 + wS w 10 = 6000 ∧ pS w + oS w + wS w 2 = wS w 1 + wS w 5) ∧ (wS w 1 ≤ 999 * u ∧ wS w 4 + wS w 5 = 500 ∧ wS w 3 + kS w ≤ 999 * u) ∧ wS w 6 ≤ u ∧ wS w 7 + oS w ≤ 999 * u
def InvK (w : Rw) (u : Nat) : Prop := ∀ k, k < 6 → wK w k 2 ≤ wK w k 1 ∧ wK w k 3 ≤ wK w k 2 ∧ wK w k 2 + wK w k 4 + wK w k 5 + 6 * (wK w k 1 - wK w k 2) ≤ 5994 * u ∧ wK w k 6 + 2 * wK w k 1 ≤ 1998 * u
def InvB (w : Rw) (u : Nat) : Prop := InvA w ∧ InvS w ∧ InvO w ∧ InvC w u ∧ InvK w u
def Inv (w : Rw) (u : Nat) : Prop := InvB w u ∧ cntN w ≤ 16
theorem InvB.up {w : Rw} {u v : Nat} (h : InvB w u) (huv : u ≤ v) : InvB w v := by
  obtain ⟨h1, h2, h3, ⟨⟨c1, c2⟩, ⟨c3, c4, c5⟩, c6, c7⟩, h5⟩ := h
  refine ⟨h1, h2, h3, ⟨⟨c1, c2⟩, ⟨by omega, c4, by omega⟩, by omega, by omega⟩, fun k hk => ?_⟩
  obtain ⟨k1, k2, k3, k4⟩ := h5 k hk
  exact ⟨k1, k2, by omega, by omega⟩
theorem Inv.up {w : Rw} {u v : Nat} (h : Inv w u) (huv : u ≤ v) : Inv w v := ⟨h.1.up huv, h.2⟩
section Ivs
variable {w : Rw} {u : Nat}
theorem InvB.tb (h : InvB w u) (hu : u ≤ 6000) : TB w := by
  obtain ⟨⟨⟨y1, y2, y3⟩, o1, o2, o3⟩, ⟨⟨s1, s1'⟩, ⟨s2, s2'⟩, s3, s4, s5, s6⟩, ⟨p1, p2, p3⟩, ⟨⟨c1, c2⟩, ⟨c3, c4, c5⟩, c6, c7⟩, h5⟩ := h
  refine ⟨fun j hj => ?_, fun k hk => ?_, fun i hi => ?_⟩
  · have : j = 0 ∨ j = 1 ∨ j = 2 ∨ j = 3 ∨ j = 4 ∨ j = 5 ∨ j = 6 ∨ j = 7 ∨ j = 8 ∨ j = 9 ∨ j = 10 ∨ j = 11 ∨ j = 12 ∨ j = 13 ∨ j = 14 ∨ j = 15 := by omega
    rcases this with e | e | e | e | e | e | e | e | e | e | e | e | e | e | e | e <;> subst e <;> omega
  · obtain ⟨k1, k2, k3, k4⟩ := h5 k hk
    have a0 : wK w k 0 ≤ cS w := sm_ge (f := fun k => wK w k 0) 6 hk
    have a1 : wK w k 1 ≤ kS w := sm_ge (f := fun k => wK w k 1) 6 hk
    have ap : rt (wP w k) ≤ pS w := sm_ge (f := fun k => rt (wP w k)) 6 hk
    refine ⟨fun f hf => ?_, by omega⟩
    have : f = 0 ∨ f = 1 ∨ f = 2 ∨ f = 3 ∨ f = 4 ∨ f = 5 ∨ f = 6 := by omega
    rcases this with e | e | e | e | e | e | e <;> subst e <;> omega
  · obtain ⟨q0, q3, q4, _⟩ := p1 i hi
    obtain ⟨r1, r2, r3⟩ := o1 i hi
    have ao : rt (wO w i) ≤ oS w := sm_ge (f := fun i => rt (wO w i)) 17 hi
    refine ⟨fun f hf => ?_, by omega, r2⟩
    have : f = 0 ∨ f = 1 ∨ f = 2 ∨ f = 3 ∨ f = 4 := by omega
    rcases this with e | e | e | e | e <;> subst e <;> omega
theorem InvB.ss (h : InvB w u) (hu : u ≤ 6000) : ∀ k, k < 6 → ssB w k := fun k hk => by
  have hB := h.tb hu
  obtain ⟨_, ⟨_, ⟨s2, s2'⟩, s3, s4, _⟩, _, ⟨_, ⟨c3, c4, c5⟩, _⟩, h5⟩ := h
  obtain ⟨k1, k2, k3, k4⟩ := h5 k hk
  have a1 : wK w k 1 ≤ kS w := sm_ge (f := fun k => wK w k 1) 6 hk
  obtain ⟨b1, b2⟩ := hB.2.1 k hk
  have := Nat.mul_le_mul (show wK w k 3 ≤ 5994000 by omega) (show 100 + wS w 14 ≤ 200 by omega)
  exact ⟨b1, b2, by omega, by omega⟩
theorem InvB.lim (h : InvB w u) (hu : u ≤ 6000) : ∀ k, k < 6 → wK w k 2 * wS w 13 < 2 ^ 31 := fun k hk => by
  obtain ⟨_, ⟨_, _, s3, _⟩, _, ⟨_, ⟨c3, c4, c5⟩, _⟩, h5⟩ := h
  obtain ⟨k1, k2, k3, k4⟩ := h5 k hk
  have a1 : wK w k 1 ≤ kS w := sm_ge (f := fun k => wK w k 1) 6 hk
  have := Nat.mul_le_mul (show wK w k 2 ≤ 5994000 by omega) s3
  omega
theorem Inv.free (h : Inv w u) : ∃ i, i < 17 ∧ wF w i 3 = 0 := by
  refine Decidable.byContradiction fun hno => ?_
  have hall : ∀ i, i < 17 → 0 < wF w i 3 := fun i hi => Decidable.byContradiction fun z => hno ⟨i, hi, by omega⟩
  have e : cntN w = 17 := by
    unfold cntN
    rw [sm_eq (g := fun _ => 1) 17 fun i hi => by rw [decide_eq_true (hall i hi)]; rfl]
    simp only [sm]
  have := h.2
  omega
end Ivs
/-! sums when one cell changes -/
theorem sm_u2 {W : Nat → Nat → Nat} {c f v n : Nat} (hc : c < n) : sm (fun k => u2 W c f v k f) n + W c f = sm (fun k => W k f) n + v := by
  have h := sm_upd (f := fun k => W k f) (g := fun k => u2 W c f v k f) (a := c) n hc (fun i _ hne => by
    show u2 W c f v i f = _
    rw [u2_ne hne])
  have e : u2 W c f v c f = v := by rw [u2_eq, u1_eq]
  rw [e] at h
  exact h
theorem sm_u2n {W : Nat → Nat → Nat} {c f v n d : Nat} (hd : d ≠ f) : sm (fun k => u2 W c f v k d) n = sm (fun k => W k d) n := sm_eq n fun k _ => by
  unfold u2
  split
  · rw [u1_ne hd]
  · rfl
theorem u2_nf {W : Nat → Nat → Nat} {c f v k d : Nat} (hd : d ≠ f) : u2 W c f v k d = W k d := by
  unfold u2
  split
  · rw [u1_ne hd]
  · rfl
theorem sm_ur {W : Nat → Nat → Nat} {c n : Nat} {r : Nat → Nat} (hc : c < n) : sm (fun k => rt (ur W c r k)) n + rt (W c) = sm (fun k => rt (W k)) n + rt r := by
  have h := sm_upd (f := fun k => rt (W k)) (g := fun k => rt (ur W c r k)) (a := c) n hc (fun i _ hne => by
    show rt (ur W c r i) = _
    rw [ur_ne hne])
  rw [ur_eq] at h
  exact h
