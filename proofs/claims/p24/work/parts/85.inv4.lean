/-! ===== what the market keeps ===== -/
section Iv4
variable {w : Rw} {u : Nat}
theorem rgo_z {b r : Nat → Nat} {m Y : Nat} (hb : ∀ y, Y < y → b y = 0) (hr : ∀ y, Y < y → r y = 0) : ∀ y, Y < y → rgo b r m y = 0 := fun y hy => by
  unfold rgo
  have := tk_le (r := r) (m := m) (y := y)
  rw [hr y hy] at this
  rw [hb y hy]
  omega
theorem rsu_z {r : Nat → Nat} {m Y : Nat} (hr : ∀ y, Y < y → r y = 0) : ∀ y, Y < y → rsu r m y = 0 := fun y hy => by
  unfold rsu
  rw [hr y hy, Nat.zero_sub]
theorem ur_z17 {W : Nat → Nat → Nat} {c Y : Nat} {r : Nat → Nat} (h : ∀ k, k < 17 → ∀ y, Y < y → W k y = 0) (hr : ∀ y, Y < y → r y = 0) : ∀ k, k < 17 → ∀ y, Y < y → ur W c r k y = 0 := fun k hk y hy => by
  unfold ur
  split
  · exact hr y hy
  · exact h k hk y hy
theorem InvB.trade {i j p : Nat} (h : InvB w u) (hi : i < 17) (hj : j < 17) (k1 : wF w i 1 = 1) (k0 : wF w j 1 = 0) (l1 : 0 < wF w i 3) (l0 : 0 < wF w j 3) (p1 : p ≤ wF w i 4) (p2 : wF w j 4 ≤ p) : InvB (opTrade w i j p) u := by
  obtain ⟨⟨⟨y1, y2, y3⟩, o1, o2, o3⟩, hI, ⟨q1, q2, q3⟩, ⟨⟨c1, c2⟩, ⟨c3, c4, c5⟩, c6, c7⟩, hK⟩ := h
  obtain ⟨i1, i2, i3⟩ := o1 i hi
  obtain ⟨j1, j2, j3⟩ := o1 j hj
  rw [if_neg (by omega)] at i3
  rw [if_pos k0] at j3
  have hij : i ≠ j := fun e => by rw [e] at k1; omega
  obtain ⟨a0, a3, a4, a5⟩ := q1 i hi
  obtain ⟨b0, b3, b4, b5⟩ := q1 j hj
  have b5' := b5 l0
  generalize hn : min (wF w i 3) (wF w j 3) = n
  have n1 : n ≤ wF w i 3 := by omega
  have n2 : n ≤ wF w j 3 := by omega
  have n0 : 0 < n := by omega
  have hne : n ≤ rt (wO w j) := by omega
  have eF3 : ∀ c, wF (opTrade w i j p) c 3 = if c = j then wF w j 3 - n else if c = i then wF w i 3 - n else wF w c 3 := fun c => by rw [opTrade_f3, hn]
  have eF : ∀ c f, f ≠ 3 → wF (opTrade w i j p) c f = wF w c f := fun c f hf => opTrade_F hf
  have le3 : ∀ c, wF (opTrade w i j p) c 3 ≤ wF w c 3 := fun c => opTrade_L
  have eP : wP (opTrade w i j p) = ur (wP w) (wF w i 2) (rgo (wP w (wF w i 2)) (wO w j) n) := by rw [← hn]; rfl
  have eO : wO (opTrade w i j p) = ur (wO w) j (rsu (wO w j) n) := by rw [← hn]; rfl
  have eK : wK (opTrade w i j p) = u2 (u2 (wK w) (wF w j 2) 0 (wK w (wF w j 2) 0 + n * p)) (wF w i 2) 0 (u2 (wK w) (wF w j 2) 0 (wK w (wF w j 2) 0 + n * p) (wF w i 2) 0 + n * (wF w i 4 - p)) := by rw [← hn]; rfl
  have eS : ∀ c, c ≠ 7 → c ≠ 8 → wS (opTrade w i j p) c = wS w c := fun c h7 h8 => by
    show u1 (u1 w.1 7 (wS w 7 + min (wF w i 3) (wF w j 3))) 8 p c = _
    rw [u1_ne h8, u1_ne h7]; rfl
  have eS7 : wS (opTrade w i j p) 7 = wS w 7 + n := by rw [← hn]; rfl
  have eS8 : wS (opTrade w i j p) 8 = p := rfl
  -- sums
  have sC : cS (opTrade w i j p) = cS w + n * p + n * (wF w i 4 - p) := by
    unfold cS
    rw [eK]
    have x1 := sm_u2 (W := u2 (wK w) (wF w j 2) 0 (wK w (wF w j 2) 0 + n * p)) (c := wF w i 2) (f := 0) (v := u2 (wK w) (wF w j 2) 0 (wK w (wF w j 2) 0 + n * p) (wF w i 2) 0 + n * (wF w i 4 - p)) (n := 6) i2
    have x2 := sm_u2 (W := wK w) (c := wF w j 2) (f := 0) (v := wK w (wF w j 2) 0 + n * p) (n := 6) j2
    omega
  have sK1 : kS (opTrade w i j p) = kS w := by
    unfold kS
    rw [eK, sm_u2n (by decide), sm_u2n (by decide)]
  have sP1 : pS (opTrade w i j p) = pS w + n := by
    unfold pS
    rw [eP]
    have x1 := sm_ur (W := wP w) (c := wF w i 2) (n := 6) (r := rgo (wP w (wF w i 2)) (wO w j) n) i2
    rw [rt_rgo hne] at x1
    omega
  have sO1 : oS (opTrade w i j p) + n = oS w := by
    unfold oS
    rw [eO]
    have x1 := sm_ur (W := wO w) (c := j) (n := 17) (r := rsu (wO w j) n) hj
    rw [rt_rsu hne] at x1
    omega
  have sH : hS (opTrade w i j p) + n * wF w i 4 = hS w := by
    have x1 := sm_upd (f := hbF w) (g := hbF (opTrade w i j p)) (a := i) 17 hi (fun c _ hc => by
      unfold hbF
      rw [eF c 1 (by decide), eF c 4 (by decide), eF3 c]
      by_cases ej : c = j
      · rw [if_pos (by rw [ej]; exact k0), if_pos (by rw [ej]; exact k0)]
      · rw [if_neg ej, if_neg hc])
    have hi1 : hbF w i = wF w i 3 * wF w i 4 := by unfold hbF; rw [if_neg (by omega)]
    have hi2 : hbF (opTrade w i j p) i = (wF w i 3 - n) * wF w i 4 := by
      unfold hbF
      rw [eF i 1 (by decide), eF i 4 (by decide), eF3 i, if_neg hij, if_pos rfl, if_neg (by omega)]
    rw [hi1, hi2] at x1
    have x2 : wF w i 3 * wF w i 4 = (wF w i 3 - n) * wF w i 4 + n * wF w i 4 := by
      rw [← Nat.add_mul]
      congr 1
      omega
    show sm (hbF (opTrade w i j p)) 17 + _ = sm (hbF w) 17
    omega
  have xm : n * p + n * (wF w i 4 - p) = n * wF w i 4 := by
    rw [← Nat.mul_add]
    congr 1
    omega
  refine ⟨⟨⟨by rw [eS 0 (by decide) (by decide)]; exact y1, ?_, ?_⟩, fun c hc => ?_, fun c d hc hd hc3 hd3 he => ?_, fun c hc hc3 => ?_⟩, ?_, ⟨fun c hc => ?_, ?_, ?_⟩, ⟨⟨?_, ?_⟩, ⟨?_, ?_, ?_⟩, ?_, ?_⟩, fun c hc => ?_⟩
  · rw [eS 0 (by decide) (by decide), eP]
    exact ur_z y2 (rgo_z (y2 _ i2) (y3 j hj))
  · rw [eS 0 (by decide) (by decide), eO]
    exact ur_z17 y3 (rsu_z (y3 j hj))
  · rw [eF c 1 (by decide), eF c 2 (by decide), eF3 c, eO]
    obtain ⟨d1, d2, d3⟩ := o1 c hc
    refine ⟨d1, d2, ?_⟩
    unfold ur
    by_cases ej : c = j
    · rw [if_pos ej, if_pos (by rw [ej]; exact k0), if_pos ej, rt_rsu hne]
      omega
    · rw [if_neg ej, if_neg ej, d3]
      by_cases ei : c = i
      · rw [if_neg (by rw [ei]; omega), if_neg (by rw [ei]; omega)]
      · rw [if_neg ei]
  · rw [eF c 0 (by decide), eF d 0 (by decide)] at he
    exact o2 c d hc hd (Nat.lt_of_lt_of_le hc3 (le3 c)) (Nat.lt_of_lt_of_le hd3 (le3 d)) he
  · rw [eF c 0 (by decide), eS 6 (by decide) (by decide)]
    exact o3 c hc (Nat.lt_of_lt_of_le hc3 (le3 c))
  · unfold InvS
    rw [eS 11 (by decide) (by decide), eS 12 (by decide) (by decide), eS 13 (by decide) (by decide), eS 14 (by decide) (by decide), eS 15 (by decide) (by decide)]
    exact hI
  · obtain ⟨d0, d3, d4, d5⟩ := q1 c hc
    rw [eF c 0 (by decide), eF c 4 (by decide), eS 6 (by decide) (by decide)]
    have := le3 c
    exact ⟨d0, by omega, d4, fun z => d5 (by omega)⟩
  · rw [eS7, eS8]
    exact ⟨fun z => by omega, fun z => by omega⟩
  · rw [eS8]; omega
  · rw [eS 9 (by decide) (by decide), eS 10 (by decide) (by decide)]; omega
  · rw [eS 2 (by decide) (by decide), eS 1 (by decide) (by decide), eS 5 (by decide) (by decide)]; omega
  · rw [eS 1 (by decide) (by decide)]; exact c3
  · rw [eS 4 (by decide) (by decide), eS 5 (by decide) (by decide)]; exact c4
  · rw [eS 3 (by decide) (by decide), sK1]; exact c5
  · rw [eS 6 (by decide) (by decide)]; exact c6
  · rw [eS7]; omega
  · rw [eK]
    obtain ⟨d1, d2, d3, d4⟩ := hK c hc
    have e : ∀ f, f ≠ 0 → u2 (u2 (wK w) (wF w j 2) 0 (wK w (wF w j 2) 0 + n * p)) (wF w i 2) 0 (u2 (wK w) (wF w j 2) 0 (wK w (wF w j 2) 0 + n * p) (wF w i 2) 0 + n * (wF w i 4 - p)) c f = wK w c f := fun f hf => by rw [u2_nf hf, u2_nf hf]
    rw [e 1 (by decide), e 2 (by decide), e 3 (by decide), e 4 (by decide), e 5 (by decide), e 6 (by decide)]
    exact ⟨d1, d2, d3, d4⟩
theorem InvB.m (hu : u ≤ 6000) : mInv (fun w => InvB w u) := ⟨fun w h => ⟨h.tb hu, fun i hi k0 => by
  have := (h.1.2.1 i hi).2.2
  rw [if_pos k0] at this
  exact this⟩, fun w i j p h hi hj k1 k0 l1 l0 p1 p2 _ => h.trade hi hj k1 k0 l1 l0 p1 p2⟩
theorem InvB.put {i b k n p : Nat} (h : InvB w u) (hb : b ≤ 1) (hk : k < 6) (n1 : 1 ≤ n) (n2 : n ≤ 999) (p1 : wS w 11 ≤ p) (p2 : p ≤ wS w 12) (y1' : b = 1 → n * p ≤ wK w k 0) (y2' : b = 0 → n ≤ rt (wP w k)) (hi : i < 17) (h0 : wF w i 3 = 0) : InvB (opPut w i b k n p) (u + 1) := by
  obtain ⟨⟨⟨y1, y2, y3⟩, o1, o2, o3⟩, hI, ⟨q1, q2, q3⟩, ⟨⟨c1, c2⟩, ⟨c3, c4, c5⟩, c6, c7⟩, hK⟩ := h
  obtain ⟨⟨f0, f1, f2, f3, f4⟩, fc, s6, s0⟩ := opPut_F (w := w) (i := i) (b := b) (k := k) (l := n) (p := p)
  have ri : rt (wO w i) = 0 := by
    rw [(o1 i hi).2.2, h0]
    split <;> rfl
  have hb0 : hbF w i = 0 := by
    unfold hbF
    rw [h0, Nat.zero_mul]
    split <;> rfl
  have eS : ∀ c, c ≠ 6 → wS (opPut w i b k n p) c = wS w c := fun c hc => by
    unfold opPut
    by_cases hb1 : b = 1
    · rw [if_pos hb1]; exact u1_ne hc
    · rw [if_neg hb1]; exact u1_ne hc
  have eh : ∀ c, c ≠ i → hbF (opPut w i b k n p) c = hbF w c := fun c hc => by
    unfold hbF
    rw [fc c 1 hc, fc c 3 hc, fc c 4 hc]
  have ehi : hbF (opPut w i b k n p) i = if b = 0 then 0 else n * p := by
    unfold hbF
    rw [f1, f3, f4]
  have sH := sm_upd (f := hbF w) (g := hbF (opPut w i b k n p)) (a := i) 17 hi (fun c _ hc => eh c hc)
  rw [ehi, hb0] at sH
  have sH' : hS (opPut w i b k n p) = hS w + (if b = 0 then 0 else n * p) := sH
  have kin : ∀ c, c < 17 → wF (opPut w i b k n p) c 1 ≤ 1 ∧ wF (opPut w i b k n p) c 2 < 6 := fun c hc => by
    by_cases e : c = i
    · rw [e, f1, f2]; exact ⟨hb, hk⟩
    · rw [fc c 1 e, fc c 2 e]; exact ⟨(o1 c hc).1, (o1 c hc).2.1⟩
  have nums : ∀ c d, c < 17 → d < 17 → 0 < wF (opPut w i b k n p) c 3 → 0 < wF (opPut w i b k n p) d 3 → wF (opPut w i b k n p) c 0 = wF (opPut w i b k n p) d 0 → c = d := fun c d hc hd c3 d3 he => by
    by_cases ec : c = i <;> by_cases ed : d = i
    · omega
    · rw [ec, f0, fc d 0 ed] at he
      rw [fc d 3 ed] at d3
      have := o3 d hd d3
      omega
    · rw [ed, f0, fc c 0 ec] at he
      rw [fc c 3 ec] at c3
      have := o3 c hc c3
      omega
    · rw [fc c 0 ec, fc d 0 ed] at he
      rw [fc c 3 ec] at c3
      rw [fc d 3 ed] at d3
      exact o2 c d hc hd c3 d3 he
  have numb : ∀ c, c < 17 → 0 < wF (opPut w i b k n p) c 3 → wF (opPut w i b k n p) c 0 < wS w 6 + 1 := fun c hc c3 => by
    by_cases ec : c = i
    · rw [ec, f0]; omega
    · rw [fc c 3 ec] at c3
      rw [fc c 0 ec]
      have := o3 c hc c3
      omega
  have hS' : InvS (opPut w i b k n p) := by
    unfold InvS
    rw [eS 11 (by decide), eS 12 (by decide), eS 13 (by decide), eS 14 (by decide), eS 15 (by decide)]
    exact hI
  have hO' : InvO (opPut w i b k n p) := by
    refine ⟨fun c hc => ?_, by rw [eS 7 (by decide), eS 8 (by decide)]; exact q2, by rw [eS 8 (by decide)]; exact q3⟩
    rw [s6]
    by_cases ec : c = i
    · rw [ec, f0, f3, f4]
      have := hI.1.1
      have := hI.2.1.2
      exact ⟨by omega, n2, by omega, fun _ => by omega⟩
    · rw [fc c 0 ec, fc c 3 ec, fc c 4 ec]
      obtain ⟨d0, d3, d4, d5⟩ := q1 c hc
      exact ⟨by omega, d3, d4, d5⟩
  have hbb : b = 1 ∨ b = 0 := by omega
  rcases hbb with e | e
  · subst e
    have yy := y1' rfl
    have eK : wK (opPut w i 1 k n p) = u2 (wK w) k 0 (wK w k 0 - n * p) := by unfold opPut; rw [if_pos rfl]; rfl
    have eP : wP (opPut w i 1 k n p) = wP w := by unfold opPut; rw [if_pos rfl]; rfl
    have eO : wO (opPut w i 1 k n p) = wO w := by unfold opPut; rw [if_pos rfl]; rfl
    have sC : cS (opPut w i 1 k n p) + wK w k 0 = cS w + (wK w k 0 - n * p) := by
      unfold cS
      rw [eK]
      exact sm_u2 hk
    have sK1 : kS (opPut w i 1 k n p) = kS w := by
      unfold kS
      rw [eK, sm_u2n (by decide)]
    have sP1 : pS (opPut w i 1 k n p) = pS w := by unfold pS; rw [eP]
    have sO1 : oS (opPut w i 1 k n p) = oS w := by unfold oS; rw [eO]
    rw [if_neg (by decide)] at sH'
    refine ⟨⟨⟨by rw [s0]; exact y1, by rw [s0, eP]; exact y2, by rw [s0, eO]; exact y3⟩, fun c hc => ⟨(kin c hc).1, (kin c hc).2, ?_⟩, nums, by rw [s6]; exact numb⟩, hS', hO', ⟨⟨?_, ?_⟩, ⟨?_, ?_, ?_⟩, ?_, ?_⟩, fun c hc => ?_⟩
    · rw [eO]
      by_cases ec : c = i
      · rw [ec, f1, if_neg (by decide)]; exact ri
      · rw [fc c 1 ec, fc c 3 ec]; exact (o1 c hc).2.2
    · rw [eS 9 (by decide), eS 10 (by decide)]; omega
    · rw [eS 2 (by decide), eS 1 (by decide), eS 5 (by decide)]; omega
    · rw [eS 1 (by decide)]; omega
    · rw [eS 4 (by decide), eS 5 (by decide)]; exact c4
    · rw [eS 3 (by decide), sK1]; omega
    · rw [s6]; omega
    · rw [eS 7 (by decide)]; omega
    · rw [eK]
      obtain ⟨d1, d2, d3, d4⟩ := hK c hc
      rw [u2_nf (show 1 ≠ 0 by decide), u2_nf (show 2 ≠ 0 by decide), u2_nf (show 3 ≠ 0 by decide), u2_nf (show 4 ≠ 0 by decide), u2_nf (show 5 ≠ 0 by decide), u2_nf (show 6 ≠ 0 by decide)]
      exact ⟨d1, d2, by omega, by omega⟩
  · subst e
    have yy := y2' rfl
    have eK : wK (opPut w i 0 k n p) = wK w := by unfold opPut; rw [if_neg (by decide)]; rfl
    have eP : wP (opPut w i 0 k n p) = ur (wP w) k (rsu (wP w k) n) := by unfold opPut; rw [if_neg (by decide)]; rfl
    have eO : wO (opPut w i 0 k n p) = ur (wO w) i (rgo (wO w i) (wP w k) n) := by unfold opPut; rw [if_neg (by decide)]; rfl
    have sC : cS (opPut w i 0 k n p) = cS w := by unfold cS; rw [eK]
    have sK1 : kS (opPut w i 0 k n p) = kS w := by unfold kS; rw [eK]
    have sP1 : pS (opPut w i 0 k n p) + n = pS w := by
      unfold pS
      rw [eP]
      have x1 := sm_ur (W := wP w) (c := k) (n := 6) (r := rsu (wP w k) n) hk
      rw [rt_rsu yy] at x1
      omega
    have rg : rt (rgo (wO w i) (wP w k) n) = n := by rw [rt_rgo yy, ri, Nat.zero_add]
    have sO1 : oS (opPut w i 0 k n p) = oS w + n := by
      unfold oS
      rw [eO]
      have x1 := sm_ur (W := wO w) (c := i) (n := 17) (r := rgo (wO w i) (wP w k) n) hi
      rw [rg, ri] at x1
      exact x1
    rw [if_pos rfl] at sH'
    refine ⟨⟨⟨by rw [s0]; exact y1, by rw [s0, eP]; exact ur_z y2 (rsu_z (y2 k hk)), by rw [s0, eO]; exact ur_z17 y3 (rgo_z (y3 i hi) (y2 k hk))⟩, fun c hc => ⟨(kin c hc).1, (kin c hc).2, ?_⟩, nums, by rw [s6]; exact numb⟩, hS', hO', ⟨⟨?_, ?_⟩, ⟨?_, ?_, ?_⟩, ?_, ?_⟩, fun c hc => ?_⟩
    · rw [eO]
      by_cases ec : c = i
      · rw [ec, f1, if_pos rfl, ur_eq, rg, f3]
      · rw [fc c 1 ec, fc c 3 ec, ur_ne ec]; exact (o1 c hc).2.2
    · rw [eS 9 (by decide), eS 10 (by decide)]; omega
    · rw [eS 2 (by decide), eS 1 (by decide), eS 5 (by decide)]; omega
    · rw [eS 1 (by decide)]; omega
    · rw [eS 4 (by decide), eS 5 (by decide)]; exact c4
    · rw [eS 3 (by decide), sK1]; omega
    · rw [s6]; omega
    · rw [eS 7 (by decide)]; omega
    · rw [eK]
      obtain ⟨d1, d2, d3, d4⟩ := hK c hc
      exact ⟨d1, d2, by omega, by omega⟩
theorem InvB.giv {i : Nat} (h : InvB w u) (hi : i < 17) : InvB (opGive w i) u := by
  obtain ⟨⟨⟨y1, y2, y3⟩, o1, o2, o3⟩, hI, ⟨q1, q2, q3⟩, ⟨⟨c1, c2⟩, ⟨c3, c4, c5⟩, c6, c7⟩, hK⟩ := h
  obtain ⟨i1, i2, i3⟩ := o1 i hi
  have eF : ∀ c f, f ≠ 3 → wF (opGive w i) c f = wF w c f := fun c f hf => u2_nf hf
  have eF3 : ∀ c, wF (opGive w i) c 3 = if c = i then 0 else wF w c 3 := fun c => by
    show u2 w.2.2.2.1 i 3 0 c 3 = _
    by_cases e : c = i
    · rw [e, u2_eq, u1_eq, if_pos rfl]
    · rw [u2_ne e, if_neg e]; rfl
  have le3 : ∀ c, wF (opGive w i) c 3 ≤ wF w c 3 := fun c => by
    rw [eF3]
    split
    · exact Nat.zero_le _
    · exact Nat.le_refl _
  have sC : cS (opGive w i) = cS w + hbF w i := by
    have x := sm_u2 (W := wK w) (c := wF w i 2) (f := 0) (v := wK w (wF w i 2) 0 + hbF w i) (n := 6) i2
    show sm (fun k => u2 (wK w) (wF w i 2) 0 (wK w (wF w i 2) 0 + hbF w i) k 0) 6 = sm (fun k => wK w k 0) 6 + _
    omega
  have sK1 : kS (opGive w i) = kS w := by
    show sm (fun k => u2 (wK w) (wF w i 2) 0 (wK w (wF w i 2) 0 + hbF w i) k 1) 6 = _
    exact sm_u2n (by decide)
  have sP1 : pS (opGive w i) = pS w + rt (wO w i) := by
    have x := sm_ur (W := wP w) (c := wF w i 2) (n := 6) (r := rgo (wP w (wF w i 2)) (wO w i) (rt (wO w i))) i2
    rw [rt_rgo (Nat.le_refl _)] at x
    show sm (fun k => rt (ur (wP w) (wF w i 2) (rgo (wP w (wF w i 2)) (wO w i) (rt (wO w i))) k)) 6 = sm (fun k => rt (wP w k)) 6 + _
    omega
  have sO1 : oS (opGive w i) + rt (wO w i) = oS w := by
    have x := sm_ur (W := wO w) (c := i) (n := 17) (r := rsu (wO w i) (rt (wO w i))) hi
    rw [rt_rsu (Nat.le_refl _), Nat.sub_self] at x
    exact x
  have sH : hS (opGive w i) + hbF w i = hS w := by
    have x1 := sm_upd (f := hbF w) (g := hbF (opGive w i)) (a := i) 17 hi (fun c _ hc => by
      unfold hbF
      rw [eF c 1 (by decide), eF c 4 (by decide), eF3 c, if_neg hc])
    have hi2 : hbF (opGive w i) i = 0 := by
      unfold hbF
      rw [eF3 i, if_pos rfl, Nat.zero_mul]
      split <;> rfl
    rw [hi2] at x1
    exact x1
  refine ⟨⟨⟨y1, ur_z y2 (rgo_z (y2 _ i2) (y3 i hi)), ur_z17 y3 (rsu_z (y3 i hi))⟩, fun c hc => ?_, fun c d hc hd hc3 hd3 he => ?_, fun c hc hc3 => ?_⟩, hI, ⟨fun c hc => ?_, q2, q3⟩, ⟨⟨?_, ?_⟩, ⟨c3, c4, ?_⟩, c6, ?_⟩, fun c hc => ?_⟩
  · rw [eF c 1 (by decide), eF c 2 (by decide), eF3 c]
    obtain ⟨d1, d2, d3⟩ := o1 c hc
    refine ⟨d1, d2, ?_⟩
    show rt (ur (wO w) i (rsu (wO w i) (rt (wO w i))) c) = _
    unfold ur
    by_cases e : c = i
    · rw [if_pos e, if_pos e, rt_rsu (Nat.le_refl _), Nat.sub_self]
      split <;> rfl
    · rw [if_neg e, if_neg e]; exact d3
  · rw [eF c 0 (by decide), eF d 0 (by decide)] at he
    exact o2 c d hc hd (Nat.lt_of_lt_of_le hc3 (le3 c)) (Nat.lt_of_lt_of_le hd3 (le3 d)) he
  · rw [eF c 0 (by decide)]
    exact o3 c hc (Nat.lt_of_lt_of_le hc3 (le3 c))
  · obtain ⟨d0, d3, d4, d5⟩ := q1 c hc
    rw [eF c 0 (by decide), eF c 4 (by decide)]
    have := le3 c
    exact ⟨d0, by omega, d4, fun z => d5 (by omega)⟩
  · show cS (opGive w i) + hS (opGive w i) + wS w 9 + wS w 10 = 6000
    omega
  · show pS (opGive w i) + oS (opGive w i) + wS w 2 = wS w 1 + wS w 5
    omega
  · show wS w 3 + kS (opGive w i) ≤ 999 * u
    omega
  · show wS w 7 + oS (opGive w i) ≤ 999 * u
    omega
  · obtain ⟨d1, d2, d3, d4⟩ := hK c hc
    have e : ∀ f, f ≠ 0 → wK (opGive w i) c f = wK w c f := fun f hf => u2_nf hf
    rw [e 1 (by decide), e 2 (by decide), e 3 (by decide), e 4 (by decide), e 5 (by decide), e 6 (by decide)]
    exact ⟨d1, d2, d3, d4⟩
theorem cnt_giv {i : Nat} (hi : i < 17) : cntN (opGive w i) + nB (decide (0 < wF w i 3)) = cntN w := by
  have eF3 : ∀ c, wF (opGive w i) c 3 = if c = i then 0 else wF w c 3 := fun c => by
    show u2 w.2.2.2.1 i 3 0 c 3 = _
    by_cases e : c = i
    · rw [e, u2_eq, u1_eq, if_pos rfl]
    · rw [u2_ne e, if_neg e]; rfl
  have x := sm_upd (f := fun c => nB (decide (0 < wF w c 3))) (g := fun c => nB (decide (0 < wF (opGive w i) c 3))) (a := i) 17 hi (fun c _ hc => by
    show nB (decide (0 < wF (opGive w i) c 3)) = _
    rw [eF3 c, if_neg hc])
  rw [eF3 i, if_pos rfl] at x
  exact x
theorem cnt_17 : cntN w ≤ 17 := by
  have := sm_le (f := fun i => nB (decide (0 < wF w i 3))) (g := fun _ => 1) 17 (fun i _ => by
    show nB _ ≤ 1
    unfold nB
    split <;> omega)
  have e : sm (fun _ => 1) 17 = 17 := by simp only [sm]
  unfold cntN
  omega
theorem Inv.giv {i : Nat} (h : Inv w u) (hi : i < 17) : Inv (opGive w i) u := ⟨h.1.giv hi, by
  have := cnt_giv (w := w) hi
  have := h.2
  omega⟩
theorem InvB.fin {i : Nat} (h : InvB w u) (hi : i < 17) : Inv (opEnd w i) u := by
  unfold opEnd
  by_cases hc : 0 < wF w i 3 ∧ 16 < cntN w
  · rw [if_pos hc]
    have x := cnt_giv (w := w) hi
    rw [decide_eq_true hc.1] at x
    have e1 : nB true = 1 := rfl
    have := cnt_17 (w := w)
    exact ⟨h.giv hi, by omega⟩
  · rw [if_neg hc]
    refine ⟨h, ?_⟩
    by_cases h0 : 0 < wF w i 3
    · omega
    · have x := sm_upd (f := fun _ => 1) (g := fun c => if c = i then 0 else 1) (a := i) 17 hi (fun c _ hne => if_neg hne)
      have y := sm_le (f := fun c => nB (decide (0 < wF w c 3))) (g := fun c => if c = i then 0 else 1) 17 (fun c _ => by
        show nB _ ≤ if c = i then 0 else 1
        by_cases e : c = i
        · rw [if_pos e, e, decide_eq_false h0]; exact Nat.le_refl _
        · rw [if_neg e]
          unfold nB
          split <;> omega)
      simp only [if_true] at x
      have e : sm (fun _ => 1) 17 = 17 := by simp only [sm]
      unfold cntN
      omega
theorem Inv.com {i b k n p : Nat} (h : Inv w u) (hu : u + 1 ≤ 6000) (hb : b ≤ 1) (hk : k < 6) (n1 : 1 ≤ n) (n2 : n ≤ 999) (p1 : wS w 11 ≤ p) (p2 : p ≤ wS w 12) (y1' : b = 1 → n * p ≤ wK w k 0) (y2' : b = 0 → n ≤ rt (wP w k)) (hi : i < 17) (h0 : wF w i 3 = 0) : Inv (opCome w i b k n p) (u + 1) := by
  have hp := h.1.put hb hk n1 n2 p1 p2 y1' y2' hi h0
  have K := meetF_keeps (InvB.m hu) hi 17 hp (by rw [opPut_F.1.2.1]; exact hb)
  exact K.1.fin hi
end Iv4
