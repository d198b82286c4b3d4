/-! ===== the model: an order comes ===== -/
theorem rsu_all {r : Nat → Nat} {y : Nat} (hy : y < 2000) : rsu r (rt r) y = 0 := by
  unfold rsu tk
  have h : sm r (y + 1) ≤ rt r := sm_mono (by omega)
  have e : sm r (y + 1) = sm r y + r y := rfl
  omega
theorem tk_0 {r : Nat → Nat} {y : Nat} : tk r 0 y = 0 := by
  unfold tk
  omega
theorem rgo_0 {b r : Nat → Nat} : rgo b r 0 = b := by
  funext y
  unfold rgo
  rw [tk_0, Nat.add_zero]
theorem rsu_0 {r : Nat → Nat} : rsu r 0 = r := by
  funext y
  unfold rsu
  rw [tk_0, Nat.sub_zero]
theorem rt_0 {r : Nat → Nat} (h : rt r = 0) {y : Nat} (hy : y < 2000) : r y = 0 := by
  have := rt_ge (r := r) hy
  omega
theorem opPut_F {w : Rw} {i b k l p : Nat} : (wF (opPut w i b k l p) i 0 = wS w 6 ∧ wF (opPut w i b k l p) i 1 = b ∧ wF (opPut w i b k l p) i 2 = k ∧ wF (opPut w i b k l p) i 3 = l ∧ wF (opPut w i b k l p) i 4 = p) ∧ (∀ c f, c ≠ i → wF (opPut w i b k l p) c f = wF w c f) ∧ wS (opPut w i b k l p) 6 = wS w 6 + 1 ∧ wS (opPut w i b k l p) 0 = wS w 0 := by
  have e : wF (opPut w i b k l p) = u2 (u2 (u2 (u2 (u2 w.2.2.2.1 i 0 (wS w 6)) i 1 b) i 2 k) i 3 l) i 4 p := by
    unfold opPut
    by_cases hb : b = 1
    · rw [if_pos hb]; rfl
    · rw [if_neg hb]; rfl
  have eS : wS (opPut w i b k l p) = u1 w.1 6 (wS w 6 + 1) := by
    unfold opPut
    by_cases hb : b = 1
    · rw [if_pos hb]; rfl
    · rw [if_neg hb]; rfl
  rw [e, eS]
  refine ⟨⟨?_, ?_, ?_, ?_, ?_⟩, fun c f hc => ?_, u1_eq, ?_⟩
  · simp only [u2_eq, u1]; rfl
  · simp only [u2_eq, u1]; rfl
  · simp only [u2_eq, u1]; rfl
  · simp only [u2_eq, u1]; rfl
  · simp only [u2_eq, u1]; rfl
  · rw [u2_ne hc, u2_ne hc, u2_ne hc, u2_ne hc, u2_ne hc]; rfl
  · rw [u1_ne (by decide)]; rfl
section Mco
variable {w w' W : Rw} {a a' pos : Nat → Nat} {i : Nat}
theorem RelB.opn (h : RelB w a pos) (hi : i < 17) (h0 : wF w i 3 = 0) (hO : ∀ y, y < 1000 → wO w i y = 0) : RelG (sS w 6 (wS w 6 + 1)) a pos i := by
  obtain ⟨⟨h1, h2, ⟨b0, b1, b2, b3⟩, h4⟩, hN⟩ := h
  refine ⟨⟨fun j hj h6 => ?_, ?_⟩, h2.same (fun _ _ => ⟨fun _ _ => rfl, fun _ _ => rfl⟩) fun _ _ => rfl, ⟨b0, fun x hx => ⟨⟨(b1 x hx).1.1, fun e => ?_⟩, (b1 x hx).2.same (by omega) ⟨fun _ _ => rfl, fun _ _ => rfl⟩ fun _ _ => rfl⟩, b2, fun c hc _ hl => b3 c hc (by omega) hl⟩, ⟨h4.1, fun y hy => ?_⟩⟩
  · show _ = u1 w.1 6 (wS w 6 + 1) j
    rw [u1_ne h6]
    exact h1.1 j hj h6
  · rw [if_pos hi]
    show _ = u1 w.1 6 (wS w 6 + 1) 6
    rw [u1_eq]
    have := h1.2
    simp only [Nat.lt_irrefl, if_false] at this
    omega
  · have := hN x hx
    rw [e] at this
    omega
  · rw [h4.2 y hy]
    unfold exR
    rw [if_neg (by decide), if_pos hi]
    exact (hO y hy).symm
theorem RelG.ever {ex : Nat} (h : RelG w a pos ex) : RelG (sS w 6 (wS w 6 + 1)) (u1 a 2 (a 2 + 1)) pos ex := by
  obtain ⟨h1, h2, h3, h4⟩ := h
  refine ⟨⟨fun j hj h6 => ?_, ?_⟩, h2.same (fun _ _ => ⟨fun _ _ => rfl, fun _ _ => rfl⟩) fun q hq => u1_ne (by omega), h3.same (fun _ _ _ => ⟨fun _ _ => rfl, fun _ _ => rfl⟩) fun q hq => u1_ne (by omega), h4.same h3.1 (fun _ _ _ => rfl) (u1_ne (by omega)) fun q hq _ => u1_ne (by omega)⟩
  · show _ = u1 w.1 6 (wS w 6 + 1) j
    have n2 : scI j ≠ 2 := fun z => h6 (scI_inj j hj 6 (by decide) z)
    rw [u1_ne h6, u1_ne n2]
    exact h1.1 j hj h6
  · show _ = u1 w.1 6 (wS w 6 + 1) 6
    rw [u1_eq, u1_eq]
    have := h1.2
    omega
theorem RelG.shut (h : RelG W a pos i) (hi : i < 17) (h0 : wF W i 3 = 0) (hO : ∀ y, y < 1000 → wO W i y = 0) (e1 : ∀ j, j < 16 → j ≠ 6 → wS w' j = wS W j) (e6 : wS w' 6 = a 2) (e2 : ∀ k, k < 6 → (∀ f, f < 7 → wK w' k f = wK W k f) ∧ ∀ y, y < 1000 → wP w' k y = wP W k y) (e3 : ∀ c, c < 17 → (∀ f, f < 5 → wF w' c f = wF W c f) ∧ ∀ y, y < 1000 → wO w' c y = wO W c y) : RelG w' a pos 17 := by
  obtain ⟨h1, h2, ⟨b0, b1, b2, b3⟩, h4⟩ := h
  refine ⟨⟨fun j hj h6 => ?_, ?_⟩, h2.same e2 fun _ _ => rfl, ⟨b0, fun x hx => ⟨⟨(b1 x hx).1.1, by have := (b1 x hx).1.1; omega⟩, (b1 x hx).2.same (by omega) (e3 _ (b1 x hx).1.1) fun _ _ => rfl⟩, b2, fun c hc _ hl => ?_⟩, ⟨h4.1, fun y hy => ?_⟩⟩
  · rw [e1 j hj h6]; exact h1.1 j hj h6
  · rw [e6, if_neg (by decide)]; rfl
  · by_cases e : c = i
    · rw [e, (e3 i hi).1 3 (by decide), h0] at hl
      omega
    · exact b3 c hc e (by rw [← (e3 c hc).1 3 (by decide)]; exact hl)
  · rw [h4.2 y hy]
    unfold exR
    rw [if_pos hi, if_neg (by decide)]
    exact hO y hy
def psS (pos : Nat → Nat) (x i : Nat) : Nat → Nat := fun z => if z = x then i else pos z
theorem RelG.stand {x : Nat} (h : RelG W a pos i) (hi : i < 17) (hx : a 11 = x) (hx16 : x < 16) (h6 : ∀ j, j < 16 → j ≠ 6 → wS w' j = wS W j) (e6 : wS w' 6 = a 2) (e2 : ∀ k, k < 6 → (∀ f, f < 7 → wK w' k f = wK W k f) ∧ ∀ y, y < 1000 → wP w' k y = wP W k y) (e3 : ∀ c, c < 17 → (∀ f, f < 5 → wF w' c f = wF W c f) ∧ ∀ y, y < 1000 → wO w' c y = wO W c y)
    (g11 : a' 11 = x + 1) (gF : RlF W a' x i) (g0 : ∀ y, y < 1000 → a' (22144 + y) = 0) (gq : ∀ q, q < 22144 → q ≠ 11 → q ≠ 64 + x → q ≠ 80 + x → q ≠ 96 + x → q ≠ 112 + x → q ≠ 128 + x → (q < 6144 + 1000 * x ∨ 6144 + 1000 * x + 1000 ≤ q) → a' q = a q) : RelG w' a' (psS pos x i) 17 := by
  obtain ⟨h1, h2, ⟨b0, b1, b2, b3⟩, h4⟩ := h
  rw [hx] at b0 b1 b2 b3
  have fr : ∀ z, z < x → RlF w' a' z (pos z) := fun z hz => by
    obtain ⟨⟨p1, p2⟩, ⟨c0, c1, c2, c3, c4⟩, c5⟩ := b1 z hz
    exact ⟨⟨by rw [gq _ (by omega) (by omega) (by omega) (by omega) (by omega) (by omega) (by omega) (by omega), (e3 _ p1).1 0 (by decide)]; exact c0, by rw [gq _ (by omega) (by omega) (by omega) (by omega) (by omega) (by omega) (by omega) (by omega), (e3 _ p1).1 2 (by decide)]; exact c1, by rw [gq _ (by omega) (by omega) (by omega) (by omega) (by omega) (by omega) (by omega) (by omega), (e3 _ p1).1 1 (by decide)]; exact c2, by rw [gq _ (by omega) (by omega) (by omega) (by omega) (by omega) (by omega) (by omega) (by omega), (e3 _ p1).1 3 (by decide)]; exact c3, by rw [gq _ (by omega) (by omega) (by omega) (by omega) (by omega) (by omega) (by omega) (by omega), (e3 _ p1).1 4 (by decide)]; exact c4⟩, fun y hy => by rw [gq _ (by omega) (by omega) (by omega) (by omega) (by omega) (by omega) (by omega) (by omega), (e3 _ p1).2 y hy]; exact c5 y hy⟩
  refine ⟨⟨fun j hj j6 => ?_, ?_⟩, h2.same e2 fun q hq => gq q (by omega) (by omega) (by omega) (by omega) (by omega) (by omega) (by omega) (by omega), ?_, ?_⟩
  · obtain ⟨l1, l2⟩ := scI_lt j hj
    rw [gq _ (by omega) l2 (by omega) (by omega) (by omega) (by omega) (by omega) (by omega), h6 j hj j6]
    exact h1.1 j hj j6
  · rw [gq 2 (by omega) (by omega) (by omega) (by omega) (by omega) (by omega) (by omega) (by omega), e6, if_neg (by decide)]; rfl
  · unfold RlO
    rw [g11]
    refine ⟨by omega, fun z hz => ?_, fun u v hu hv huv => ?_, fun c hc _ hl => ?_⟩
    · unfold psS
      by_cases ez : z = x
      · rw [if_pos ez, ez]
        obtain ⟨⟨c0, c1, c2, c3, c4⟩, c5⟩ := gF
        exact ⟨⟨hi, by omega⟩, ⟨by rw [(e3 i hi).1 0 (by decide)]; exact c0, by rw [(e3 i hi).1 2 (by decide)]; exact c1, by rw [(e3 i hi).1 1 (by decide)]; exact c2, by rw [(e3 i hi).1 3 (by decide)]; exact c3, by rw [(e3 i hi).1 4 (by decide)]; exact c4⟩, fun y hy => by rw [(e3 i hi).2 y hy]; exact c5 y hy⟩
      · rw [if_neg ez]
        have := (b1 z (by omega)).1.1
        exact ⟨⟨this, by omega⟩, fr z (by omega)⟩
    · unfold psS at huv
      by_cases eu : u = x <;> by_cases ev : v = x
      · omega
      · rw [if_pos eu, if_neg ev] at huv
        exact absurd huv.symm (b1 v (by omega)).1.2
      · rw [if_neg eu, if_pos ev] at huv
        exact absurd huv (b1 u (by omega)).1.2
      · rw [if_neg eu, if_neg ev] at huv
        exact b2 u v (by omega) (by omega) huv
    · by_cases e : c = i
      · exact ⟨x, by omega, by unfold psS; rw [if_pos rfl]; exact e.symm⟩
      · obtain ⟨z, hz, ez⟩ := b3 c hc e (by rw [← (e3 c hc).1 3 (by decide)]; exact hl)
        exact ⟨z, by omega, by unfold psS; rw [if_neg (by omega)]; exact ez⟩
  · unfold RlZ
    rw [g11]
    refine ⟨fun z z1 z2 y hy => ?_, fun y hy => ?_⟩
    · rw [gq _ (by omega) (by omega) (by omega) (by omega) (by omega) (by omega) (by omega) (by omega)]
      exact h4.1 z (by omega) z2 y hy
    · rw [g0 y hy]
      unfold exR
      rw [if_neg (by decide)]
theorem RelG.cnt (h : RelG w a pos i) (hN : RlN w a pos) (hi : i < 17) (h0 : 0 < wF w i 3) : cntN w = a 11 + 1 := by
  obtain ⟨b0, b1, b2, b3⟩ := h.2.2.1
  unfold cntN
  have e1 := sm_pos (pos := pos) (a 11) (f := fun c => if c = i then 0 else nB (decide (0 < wF w c 3))) b2 (fun x hx => (b1 x hx).1.1) (fun c hc hno => by
    by_cases e : c = i
    · exact if_pos e
    · show (if c = i then 0 else nB (decide (0 < wF w c 3))) = 0
      rw [if_neg e]
      by_cases hl : 0 < wF w c 3
      · obtain ⟨x, hx, ex⟩ := b3 c hc e hl
        exact absurd ex (hno x hx)
      · rw [decide_eq_false hl]; rfl)
  have e2 : sm (fun x => (fun c => if c = i then 0 else nB (decide (0 < wF w c 3))) (pos x)) (a 11) = sm (fun _ => 1) (a 11) := sm_eq _ fun x hx => by
    show (if pos x = i then 0 else nB (decide (0 < wF w (pos x) 3))) = 1
    rw [if_neg (b1 x hx).1.2, decide_eq_true (hN x hx)]; rfl
  have e3 : ∀ m, sm (fun _ => 1) m = m := fun m => by
    induction m with
    | zero => rfl
    | succ m ih => simp only [sm, ih]
  have e4 := sm_upd (f := fun c => nB (decide (0 < wF w c 3))) (g := fun c => if c = i then 0 else nB (decide (0 < wF w c 3))) (a := i) 17 hi (fun c _ hne => if_neg hne)
  simp only [if_true] at e4
  rw [decide_eq_true h0] at e4
  have e5 : nB true = 1 := rfl
  rw [e2, e3] at e1
  omega
end Mco
