/-! ===== what acts keep ===== -/
section Iv2
variable {w w' : Rw} {u k m : Nat}
theorem InvA.same (h : InvA w) (e0 : wS w' 0 = wS w 0) (e6 : wS w' 6 = wS w 6) (eP : ∀ k, k < 6 → ∀ y, wS w 0 < y → wP w' k y = 0) (eF : wF w' = wF w) (eO : wO w' = wO w) : InvA w' := by
  obtain ⟨⟨y1, y2, y3⟩, o1, o2, o3⟩ := h
  unfold InvA
  rw [e0, e6, eF, eO]
  exact ⟨⟨y1, eP, y3⟩, o1, o2, o3⟩
theorem rad_z {r : Nat → Nat} {y n Y : Nat} (h : ∀ y, Y < y → r y = 0) (hy : y ≤ Y) : ∀ z, Y < z → rad r y n z = 0 := fun z hz => by
  unfold rad
  rw [if_neg (by omega)]
  exact h z hz
theorem ur_z {W : Nat → Nat → Nat} {c Y : Nat} {r : Nat → Nat} (h : ∀ k, k < 6 → ∀ y, Y < y → W k y = 0) (hr : ∀ y, Y < y → r y = 0) : ∀ k, k < 6 → ∀ y, Y < y → ur W c r k y = 0 := fun k hk y hy => by
  unfold ur
  split
  · exact hr y hy
  · exact h k hk y hy
theorem Inv.iss (h : Inv w u) (hk : k < 6) (hm : m ≤ 999) : Inv (opIss w k m) (u + 1) := by
  obtain ⟨⟨hA, hI, hO, ⟨⟨c1, c2⟩, ⟨c3, c4, c5⟩, c6, c7⟩, hK⟩, hc⟩ := h
  have m1 : min (wK w k 6) m ≤ wK w k 6 := Nat.min_le_left _ _
  have ec : cS (opIss w k m) = cS w := by
    show sm (fun c => u2 w.2.1 k 6 (wK w k 6 - min (wK w k 6) m) c 0) 6 = _
    exact sm_u2n (by decide)
  have ek : kS (opIss w k m) = kS w := by
    show sm (fun c => u2 w.2.1 k 6 (wK w k 6 - min (wK w k 6) m) c 1) 6 = _
    exact sm_u2n (by decide)
  have ep : pS (opIss w k m) + rt (wP w k) = pS w + rt (rad (wP w k) (wS w 0) (m - min (wK w k 6) m)) := by
    show sm (fun c => rt (ur w.2.2.1 k (rad (wP w k) (wS w 0) (m - min (wK w k 6) m)) c)) 6 + rt (w.2.2.1 k) = _
    exact sm_ur hk
  rw [rt_rad (by have := hA.1.1; omega)] at ep
  refine ⟨⟨hA.same rfl rfl (ur_z hA.1.2.1 (rad_z (hA.1.2.1 k hk) (Nat.le_refl _))) rfl rfl, hI, hO, ⟨⟨?_, ?_⟩, ⟨?_, c4, ?_⟩, ?_, ?_⟩, fun c hc' => ?_⟩, hc⟩
  · show cS (opIss w k m) + hS w + wS w 9 + wS w 10 = 6000
    rw [ec]; exact c1
  · show pS (opIss w k m) + oS w + wS w 2 = wS w 1 + (m - min (wK w k 6) m) + wS w 5
    omega
  · show wS w 1 + (m - min (wK w k 6) m) ≤ 999 * (u + 1)
    omega
  · show wS w 3 + kS (opIss w k m) ≤ 999 * (u + 1)
    omega
  · show wS w 6 ≤ u + 1
    omega
  · show wS w 7 + oS w ≤ 999 * (u + 1)
    omega
  · obtain ⟨k1, k2, k3, k4⟩ := hK c hc'
    show u2 w.2.1 k 6 (wK w k 6 - min (wK w k 6) m) c 2 ≤ u2 w.2.1 k 6 (wK w k 6 - min (wK w k 6) m) c 1 ∧ u2 w.2.1 k 6 (wK w k 6 - min (wK w k 6) m) c 3 ≤ u2 w.2.1 k 6 (wK w k 6 - min (wK w k 6) m) c 2 ∧ u2 w.2.1 k 6 (wK w k 6 - min (wK w k 6) m) c 2 + u2 w.2.1 k 6 (wK w k 6 - min (wK w k 6) m) c 4 + u2 w.2.1 k 6 (wK w k 6 - min (wK w k 6) m) c 5 + 6 * (u2 w.2.1 k 6 (wK w k 6 - min (wK w k 6) m) c 1 - u2 w.2.1 k 6 (wK w k 6 - min (wK w k 6) m) c 2) ≤ 5994 * (u + 1) ∧ u2 w.2.1 k 6 (wK w k 6 - min (wK w k 6) m) c 6 + 2 * u2 w.2.1 k 6 (wK w k 6 - min (wK w k 6) m) c 1 ≤ 1998 * (u + 1)
    have e6 : u2 w.2.1 k 6 (wK w k 6 - min (wK w k 6) m) c 6 ≤ wK w c 6 := by
      by_cases e : c = k
      · rw [e, u2_eq, u1_eq]; omega
      · rw [u2_ne e]; exact Nat.le_refl _
    rw [u2_nf (show 1 ≠ 6 by decide), u2_nf (show 2 ≠ 6 by decide), u2_nf (show 3 ≠ 6 by decide), u2_nf (show 4 ≠ 6 by decide), u2_nf (show 5 ≠ 6 by decide)]
    have q1 : w.2.1 c 1 = wK w c 1 := rfl
    have q2 : w.2.1 c 2 = wK w c 2 := rfl
    have q3 : w.2.1 c 3 = wK w c 3 := rfl
    have q4 : w.2.1 c 4 = wK w c 4 := rfl
    have q5 : w.2.1 c 5 = wK w c 5 := rfl
    omega
theorem Inv.sell (h : Inv w u) (hk : k < 6) (hr : m ≤ wS w 4) (hm : m * wS w 12 ≤ wK w k 0) : Inv (opSell w k m) (u + 1) := by
  obtain ⟨⟨hA, hI, hO, ⟨⟨c1, c2⟩, ⟨c3, c4, c5⟩, c6, c7⟩, hK⟩, hc⟩ := h
  have ec : cS (opSell w k m) + wK w k 0 = cS w + (wK w k 0 - m * wS w 12) := by
    show sm (fun c => u2 w.2.1 k 0 (wK w k 0 - m * wS w 12) c 0) 6 + w.2.1 k 0 = _
    exact sm_u2 hk
  have ek : kS (opSell w k m) = kS w := by
    show sm (fun c => u2 w.2.1 k 0 (wK w k 0 - m * wS w 12) c 1) 6 = _
    exact sm_u2n (by decide)
  have ep : pS (opSell w k m) + rt (wP w k) = pS w + rt (rad (wP w k) (wS w 0) m) := by
    show sm (fun c => rt (ur w.2.2.1 k (rad (wP w k) (wS w 0) m) c)) 6 + rt (w.2.2.1 k) = _
    exact sm_ur hk
  rw [rt_rad (by have := hA.1.1; omega)] at ep
  refine ⟨⟨hA.same rfl rfl (ur_z hA.1.2.1 (rad_z (hA.1.2.1 k hk) (Nat.le_refl _))) rfl rfl, hI, hO, ⟨⟨?_, ?_⟩, ⟨?_, ?_, ?_⟩, ?_, ?_⟩, fun c hc' => ?_⟩, hc⟩
  · show cS (opSell w k m) + hS w + wS w 9 + (wS w 10 + m * wS w 12) = 6000
    omega
  · show pS (opSell w k m) + oS w + wS w 2 = wS w 1 + (wS w 5 + m)
    omega
  · show wS w 1 ≤ 999 * (u + 1)
    omega
  · show (wS w 4 - m) + (wS w 5 + m) = 500
    omega
  · show wS w 3 + kS (opSell w k m) ≤ 999 * (u + 1)
    omega
  · show wS w 6 ≤ u + 1
    omega
  · show wS w 7 + oS w ≤ 999 * (u + 1)
    omega
  · obtain ⟨k1, k2, k3, k4⟩ := hK c hc'
    have e : ∀ f, f ≠ 0 → wK (opSell w k m) c f = wK w c f := fun f hf => u2_nf hf
    rw [e 1 (by decide), e 2 (by decide), e 3 (by decide), e 4 (by decide), e 5 (by decide), e 6 (by decide)]
    exact ⟨k1, k2, by omega, by omega⟩
/-- what changes numbers of one kiln, but not its coins, alone -/
theorem Inv.kil {x : Nat → Nat} (h : Inv w u) (e1 : wS w' = wS w) (eF : wF w' = wF w) (eO : wO w' = wO w) (eP : wP w' = wP w) (hk : k < 6) (e2 : ∀ c, c ≠ k → ∀ f, f < 7 → wK w' c f = wK w c f) (e3 : ∀ f, f < 7 → wK w' k f = x f) (x0 : x 0 = wK w k 0) (x1 : wK w k 1 ≤ x 1 ∧ x 1 ≤ wK w k 1 + 999) (x2 : x 2 ≤ x 1) (x3 : x 3 ≤ x 2) (x4 : x 2 + x 4 + x 5 + 6 * (x 1 - x 2) ≤ 5994 * (u + 1)) (x6 : x 6 + 2 * x 1 ≤ 1998 * (u + 1)) : Inv w' (u + 1) := by
  obtain ⟨⟨hA, hS', hO, ⟨⟨c1, c2⟩, ⟨c3, c4, c5⟩, c6, c7⟩, hK⟩, hc⟩ := h
  have ec : cS w' = cS w := sm_eq 6 fun c hc' => by
    by_cases e : c = k
    · rw [e, e3 0 (by decide), x0]
    · exact e2 c e 0 (by decide)
  have ek : kS w' + wK w k 1 = kS w + x 1 := by
    have h := sm_upd (f := fun c => wK w c 1) (g := fun c => wK w' c 1) (a := k) 6 hk (fun c _ hne => e2 c hne 1 (by decide))
    rw [e3 1 (by decide)] at h
    exact h
  have ep : pS w' = pS w := by unfold pS; rw [eP]
  have eo : oS w' = oS w := by unfold oS; rw [eO]
  have eh : hS w' = hS w := by
    have : hbF w' = hbF w := by
      funext i
      unfold hbF
      rw [eF]
    unfold hS
    rw [this]
  have ecn : cntN w' = cntN w := by unfold cntN; rw [eF]
  refine ⟨⟨hA.same (by rw [e1]) (by rw [e1]) (by rw [eP]; exact hA.1.2.1) eF eO, by unfold InvS; rw [e1]; exact hS', by unfold InvO; rw [e1, eF]; exact hO, ?_, fun c hc' => ?_⟩, by rw [ecn]; exact hc⟩
  · unfold InvC
    rw [e1, ec, ep, eo, eh]
    exact ⟨⟨c1, by omega⟩, ⟨by omega, c4, by omega⟩, by omega, by omega⟩
  · by_cases e : c = k
    · rw [e, e3 1 (by decide), e3 2 (by decide), e3 3 (by decide), e3 4 (by decide), e3 5 (by decide), e3 6 (by decide)]
      exact ⟨x2, x3, x4, x6⟩
    · obtain ⟨k1, k2, k3, k4⟩ := hK c hc'
      rw [e2 c e 1 (by decide), e2 c e 2 (by decide), e2 c e 3 (by decide), e2 c e 4 (by decide), e2 c e 5 (by decide), e2 c e 6 (by decide)]
      exact ⟨k1, k2, by omega, by omega⟩
theorem u2k {W : Nat → Nat → Nat} {k f v d : Nat} : u2 W k f v k d = if d = f then v else W k d := by
  rw [u2_eq]
  rfl
theorem Inv.fir {l : Nat} (h : Inv w u) (hk : k < 6) (hm : m ≤ 999) (hl : l ≤ m) : Inv (sK (sK w k 1 (wK w k 1 + m)) k 2 (wK w k 2 + l)) (u + 1) := by
  obtain ⟨k1, k2, k3, k4⟩ := h.1.2.2.2.2 k hk
  have e : ∀ f, wK (sK (sK w k 1 (wK w k 1 + m)) k 2 (wK w k 2 + l)) k f = if f = 2 then wK w k 2 + l else if f = 1 then wK w k 1 + m else wK w k f := fun f => by
    show u2 (u2 w.2.1 k 1 _) k 2 _ k f = _
    rw [u2k, u2k]
    rfl
  refine h.kil (x := fun f => if f = 2 then wK w k 2 + l else if f = 1 then wK w k 1 + m else wK w k f) rfl rfl rfl rfl hk (fun c hc f _ => ?_) (fun f _ => e f) ?_ ?_ ?_ ?_ ?_ ?_
  · show u2 (u2 w.2.1 k 1 _) k 2 _ c f = _
    rw [u2_ne hc, u2_ne hc]; rfl
  · simp
  · simp; omega
  · simp; omega
  · simp; omega
  · simp; omega
  · simp; omega
theorem Inv.aud (h : Inv w u) (hk : k < 6) (hm : m = wK w k 1 - wK w k 2) : Inv (sK (sK w k 2 (wK w k 2 + m)) k 4 (wK w k 4 + m * wS w 15)) (u + 1) := by
  obtain ⟨k1, k2, k3, k4⟩ := h.1.2.2.2.2 k hk
  have h5 := h.1.2.1.2.2.2.2.2
  have hmul : m * wS w 15 ≤ m * 5 := Nat.mul_le_mul_left m h5
  have e : ∀ f, wK (sK (sK w k 2 (wK w k 2 + m)) k 4 (wK w k 4 + m * wS w 15)) k f = if f = 4 then wK w k 4 + m * wS w 15 else if f = 2 then wK w k 2 + m else wK w k f := fun f => by
    show u2 (u2 w.2.1 k 2 _) k 4 _ k f = _
    rw [u2k, u2k]
    rfl
  refine h.kil (x := fun f => if f = 4 then wK w k 4 + m * wS w 15 else if f = 2 then wK w k 2 + m else wK w k f) rfl rfl rfl rfl hk (fun c hc f _ => ?_) (fun f _ => e f) ?_ ?_ ?_ ?_ ?_ ?_
  · show u2 (u2 w.2.1 k 2 _) k 4 _ c f = _
    rw [u2_ne hc, u2_ne hc]; rfl
  · simp
  · simp
  · simp; omega
  · simp; omega
  · simp; omega
  · simp; omega
theorem Inv.bor (h : Inv w u) (hk : k < 6) (hm : wK w k 3 + m ≤ wK w k 2 * wS w 13 / 100) : Inv (sK w k 3 (wK w k 3 + m)) (u + 1) := by
  obtain ⟨k1, k2, k3, k4⟩ := h.1.2.2.2.2 k hk
  have h5 := h.1.2.1.2.2.1
  have hmul : wK w k 2 * wS w 13 ≤ wK w k 2 * 100 := Nat.mul_le_mul_left _ h5
  have e : ∀ f, wK (sK w k 3 (wK w k 3 + m)) k f = if f = 3 then wK w k 3 + m else wK w k f := fun f => by
    show u2 w.2.1 k 3 _ k f = _
    rw [u2k]
    rfl
  refine h.kil (x := fun f => if f = 3 then wK w k 3 + m else wK w k f) rfl rfl rfl rfl hk (fun c hc f _ => ?_) (fun f _ => e f) ?_ ?_ ?_ ?_ ?_ ?_
  · show u2 w.2.1 k 3 _ c f = _
    rw [u2_ne hc]; rfl
  · simp
  · simp
  · simp; omega
  · simp; omega
  · simp; omega
  · simp; omega
theorem Inv.set {s y : Nat} (h : Inv w u) (hs : s < 5) (h1 : seL s ≤ y) (h2 : y ≤ seM s) : Inv (sS w (11 + s) y) (u + 1) := by
  obtain ⟨⟨hA, hI, hO, ⟨⟨c1, c2⟩, ⟨c3, c4, c5⟩, c6, c7⟩, hK⟩, hc⟩ := h
  have eS : ∀ j, j < 11 → wS (sS w (11 + s) y) j = wS w j := fun j hj => u1_ne (by omega)
  refine ⟨⟨hA.same (eS 0 (by decide)) (eS 6 (by decide)) hA.1.2.1 rfl rfl, ?_, ?_, ?_, fun c hc' => ?_⟩, hc⟩
  · obtain ⟨⟨a1, a2⟩, ⟨b1, b2⟩, s3, s4, s5, s6⟩ := hI
    have : s = 0 ∨ s = 1 ∨ s = 2 ∨ s = 3 ∨ s = 4 := by omega
    rcases this with e | e | e | e | e
    · subst e
      exact ⟨⟨h1, h2⟩, ⟨b1, b2⟩, s3, s4, s5, s6⟩
    · subst e
      exact ⟨⟨a1, a2⟩, ⟨h1, h2⟩, s3, s4, s5, s6⟩
    · subst e
      exact ⟨⟨a1, a2⟩, ⟨b1, b2⟩, h2, s4, s5, s6⟩
    · subst e
      exact ⟨⟨a1, a2⟩, ⟨b1, b2⟩, s3, h2, s5, s6⟩
    · subst e
      exact ⟨⟨a1, a2⟩, ⟨b1, b2⟩, s3, s4, h1, h2⟩
  · unfold InvO
    rw [eS 6 (by decide), eS 7 (by decide), eS 8 (by decide)]
    exact hO
  · unfold InvC
    rw [eS 9 (by decide), eS 10 (by decide), eS 2 (by decide), eS 1 (by decide), eS 5 (by decide), eS 4 (by decide), eS 3 (by decide), eS 6 (by decide), eS 7 (by decide)]
    have q1 : cS (sS w (11 + s) y) = cS w := rfl
    have q2 : hS (sS w (11 + s) y) = hS w := rfl
    have q3 : pS (sS w (11 + s) y) = pS w := rfl
    have q4 : oS (sS w (11 + s) y) = oS w := rfl
    have q5 : kS (sS w (11 + s) y) = kS w := rfl
    rw [q1, q2, q3, q4, q5]
    exact ⟨⟨c1, by omega⟩, ⟨by omega, c4, by omega⟩, by omega, by omega⟩
  · obtain ⟨k1, k2, k3, k4⟩ := hK c hc'
    exact ⟨k1, k2, Nat.le_trans k3 (by omega), Nat.le_trans k4 (by omega)⟩
end Iv2
