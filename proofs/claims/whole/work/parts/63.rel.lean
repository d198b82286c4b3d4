/-! ===== the model's row of numbers holds a town ===== -/
def scI (j : Nat) : Nat := if j = 1 then 3 else if j = 2 then 4 else if j = 3 then 5 else if j = 4 then 1 else if j = 5 then 6 else if j = 6 then 2 else if j < 11 then j else j + 1
theorem scI_lt : ∀ j, j < 16 → scI j < 17 ∧ scI j ≠ 11 := by decide
theorem scI_inj : ∀ i, i < 16 → ∀ j, j < 16 → scI i = scI j → i = j := by decide
def RlS (w : Rw) (a : Nat → Nat) (e : Nat) : Prop := (∀ j, j < 16 → j ≠ 6 → a (scI j) = wS w j) ∧ a 2 + e = wS w 6
def RlK (w : Rw) (a : Nat → Nat) : Prop := ∀ k, k < 6 → (∀ f, f < 7 → a (20 + 6 * f + k) = wK w k f) ∧ ∀ y, y < 1000 → a (144 + 1000 * k + y) = wP w k y
/-- the order x of the model is that of the place i -/
def RlF (w : Rw) (a : Nat → Nat) (x i : Nat) : Prop := (a (64 + x) = wF w i 0 ∧ a (80 + x) = wF w i 2 ∧ a (96 + x) = wF w i 1 ∧ a (112 + x) = wF w i 3 ∧ a (128 + x) = wF w i 4) ∧ ∀ y, y < 1000 → a (6144 + 1000 * x + y) = wO w i y
/-- the standing orders, but that of the place ex; pos: their places -/
def RlO (w : Rw) (a : Nat → Nat) (pos : Nat → Nat) (ex : Nat) : Prop := a 11 ≤ 16 ∧ (∀ x, x < a 11 → (pos x < 17 ∧ pos x ≠ ex) ∧ RlF w a x (pos x)) ∧ (∀ x z, x < a 11 → z < a 11 → pos x = pos z → x = z) ∧ ∀ i, i < 17 → i ≠ ex → 0 < wF w i 3 → ∃ x, x < a 11 ∧ pos x = i
def exR (w : Rw) (ex y : Nat) : Nat := if ex < 17 then wO w ex y else 0
def RlZ (w : Rw) (a : Nat → Nat) (ex : Nat) : Prop := (∀ x, a 11 ≤ x → x < 16 → ∀ y, y < 1000 → a (6144 + 1000 * x + y) = 0) ∧ ∀ y, y < 1000 → a (22144 + y) = exR w ex y
def RelG (w : Rw) (a : Nat → Nat) (pos : Nat → Nat) (ex : Nat) : Prop := RlS w a (if ex < 17 then 1 else 0) ∧ RlK w a ∧ RlO w a pos ex ∧ RlZ w a ex
def RlN (w : Rw) (a : Nat → Nat) (pos : Nat → Nat) : Prop := ∀ x, x < a 11 → 0 < wF w (pos x) 3
section Rels
variable {w w' : Rw} {a a' pos : Nat → Nat} {ex : Nat}
theorem RlS.same {e : Nat} (h : RlS w a e) (h1 : ∀ j, j < 16 → wS w' j = wS w j) (h2 : ∀ q, q < 17 → q ≠ 11 → a' q = a q) : RlS w' a' e := ⟨fun j hj h6 => by rw [h2 _ (scI_lt j hj).1 (scI_lt j hj).2, h1 j hj]; exact h.1 j hj h6, by rw [h2 2 (by decide) (by decide), h1 6 (by decide)]; exact h.2⟩
theorem RlK.same (h : RlK w a) (h1 : ∀ k, k < 6 → (∀ f, f < 7 → wK w' k f = wK w k f) ∧ ∀ y, y < 1000 → wP w' k y = wP w k y) (h2 : ∀ q, (20 ≤ q ∧ q < 62) ∨ (144 ≤ q ∧ q < 6144) → a' q = a q) : RlK w' a' := fun k hk => ⟨fun f hf => by rw [h2 _ (by omega), (h1 k hk).1 f hf]; exact (h k hk).1 f hf, fun y hy => by rw [h2 _ (by omega), (h1 k hk).2 y hy]; exact (h k hk).2 y hy⟩
theorem RlF.same {x i : Nat} (h : RlF w a x i) (hx : x < 16) (h1 : (∀ f, f < 5 → wF w' i f = wF w i f) ∧ ∀ y, y < 1000 → wO w' i y = wO w i y) (h2 : ∀ q, (64 ≤ q ∧ q < 144) ∨ (6144 ≤ q ∧ q < 22144) → a' q = a q) : RlF w' a' x i := by
  obtain ⟨⟨b0, b1, b2, b3, b4⟩, b5⟩ := h
  exact ⟨⟨by rw [h2 _ (by omega), h1.1 0 (by decide)]; exact b0, by rw [h2 _ (by omega), h1.1 2 (by decide)]; exact b1, by rw [h2 _ (by omega), h1.1 1 (by decide)]; exact b2, by rw [h2 _ (by omega), h1.1 3 (by decide)]; exact b3, by rw [h2 _ (by omega), h1.1 4 (by decide)]; exact b4⟩, fun y hy => by rw [h2 _ (by omega), h1.2 y hy]; exact b5 y hy⟩
theorem RlO.same (h : RlO w a pos ex) (h1 : ∀ i, i < 17 → i ≠ ex → (∀ f, f < 5 → wF w' i f = wF w i f) ∧ ∀ y, y < 1000 → wO w' i y = wO w i y) (h2 : ∀ q, q = 11 ∨ (64 ≤ q ∧ q < 144) ∨ (6144 ≤ q ∧ q < 22144) → a' q = a q) : RlO w' a' pos ex := by
  obtain ⟨b0, b1, b2, b3⟩ := h
  unfold RlO
  rw [h2 11 (Or.inl rfl)]
  refine ⟨b0, fun x hx => ⟨(b1 x hx).1, (b1 x hx).2.same (by omega) (h1 _ (b1 x hx).1.1 (b1 x hx).1.2) fun q hq => h2 q (Or.inr hq)⟩, b2, fun i hi he h0 => b3 i hi he ?_⟩
  rw [← (h1 i hi he).1 3 (by decide)]; exact h0
theorem RlZ.same (h : RlZ w a ex) (h0 : a 11 ≤ 16) (h1 : ∀ y, y < 1000 → ex < 17 → wO w' ex y = wO w ex y) (h2 : a' 11 = a 11) (h3 : ∀ q, 6144 + 1000 * a 11 ≤ q → q < 23144 → a' q = a q) : RlZ w' a' ex := by
  unfold RlZ
  rw [h2]
  refine ⟨fun x h5 h6 y hy => by rw [h3 _ (by omega) (by omega)]; exact h.1 x h5 h6 y hy, fun y hy => ?_⟩
  rw [h3 _ (by omega) (by omega), h.2 y hy]
  unfold exR
  by_cases he : ex < 17
  · rw [if_pos he, if_pos he, h1 y hy he]
  · rw [if_neg he, if_neg he]
theorem RlN.same (h : RlN w a pos) (h1 : ∀ i, i < 17 → wF w' i 3 = wF w i 3) (h2 : a' 11 = a 11) (h3 : ∀ x, x < a 11 → pos x < 17) : RlN w' a' pos := fun x hx => by
  rw [h2] at hx
  rw [h1 _ (h3 x hx)]
  exact h x hx
theorem RelG.ext (h : RelG w a pos ex) (e1 : ∀ j, j < 16 → wS w' j = wS w j) (e2 : ∀ k, k < 6 → (∀ f, f < 7 → wK w' k f = wK w k f) ∧ ∀ y, y < 1000 → wP w' k y = wP w k y) (e3 : ∀ i, i < 17 → (∀ f, f < 5 → wF w' i f = wF w i f) ∧ ∀ y, y < 1000 → wO w' i y = wO w i y) : RelG w' a pos ex := ⟨h.1.same e1 fun _ _ _ => rfl, h.2.1.same e2 fun _ _ => rfl, h.2.2.1.same (fun i hi _ => e3 i hi) fun _ _ => rfl, h.2.2.2.same h.2.2.1.1 (fun y hy hi => (e3 ex hi).2 y hy) rfl fun _ _ _ => rfl⟩
theorem RelG.same (h : RelG w a pos ex) (e : ∀ i, i < 23144 → a' i = a i) : RelG w a' pos ex := ⟨h.1.same (fun _ _ => rfl) fun q h1 _ => e q (by omega), h.2.1.same (fun _ _ => ⟨fun _ _ => rfl, fun _ _ => rfl⟩) fun q hq => e q (by omega), h.2.2.1.same (fun _ _ _ => ⟨fun _ _ => rfl, fun _ _ => rfl⟩) fun q hq => e q (by omega), h.2.2.2.same h.2.2.1.1 (fun _ _ _ => rfl) (e 11 (by decide)) fun q _ hq => e q hq⟩
/-- a scalar -/
theorem RelG.setS (h : RelG w a pos ex) {j : Nat} (hj : j < 16) (h6 : j ≠ 6) (v : Nat) : RelG (sS w j v) (u1 a (scI j) v) pos ex := by
  obtain ⟨l1, l2⟩ := scI_lt j hj
  refine ⟨⟨fun i hi hi6 => ?_, ?_⟩, h.2.1.same (fun _ _ => ⟨fun _ _ => rfl, fun _ _ => rfl⟩) fun q hq => u1_ne (by omega), h.2.2.1.same (fun _ _ _ => ⟨fun _ _ => rfl, fun _ _ => rfl⟩) fun q hq => u1_ne (by omega), h.2.2.2.same h.2.2.1.1 (fun _ _ _ => rfl) (u1_ne (by omega)) fun q hq _ => u1_ne (by omega)⟩
  · show _ = u1 w.1 j v i
    by_cases e : i = j
    · rw [e, u1_eq, u1_eq]
    · rw [u1_ne e, u1_ne fun z => e (scI_inj i hi j hj z)]
      exact h.1.1 i hi hi6
  · have e2 : (2 : Nat) ≠ scI j := fun z => h6 (scI_inj j hj 6 (by decide) z.symm)
    show _ = u1 w.1 j v 6
    rw [u1_ne e2, u1_ne (Ne.symm h6)]
    exact h.1.2
theorem RelG.setK (h : RelG w a pos ex) {k f : Nat} (hk : k < 6) (hf : f < 7) (v : Nat) : RelG (sK w k f v) (u1 a (20 + 6 * f + k) v) pos ex := by
  refine ⟨h.1.same (fun _ _ => rfl) fun q h1 h2 => u1_ne (by omega), fun c hc => ⟨fun d hd => ?_, fun y hy => ?_⟩, h.2.2.1.same (fun _ _ _ => ⟨fun _ _ => rfl, fun _ _ => rfl⟩) fun q hq => u1_ne (by omega), h.2.2.2.same h.2.2.1.1 (fun _ _ _ => rfl) (u1_ne (by omega)) fun q hq _ => u1_ne (by omega)⟩
  · show _ = u2 w.2.1 k f v c d
    by_cases e : c = k
    · rw [e, u2_eq]
      by_cases e2 : d = f
      · rw [e2, u1_eq, u1_eq]
      · rw [u1_ne e2, u1_ne (by omega)]
        exact (h.2.1 k hk).1 d hd
    · rw [u2_ne e, u1_ne (by omega)]
      exact (h.2.1 c hc).1 d hd
  · rw [u1_ne (by omega)]
    exact (h.2.1 c hc).2 y hy
/-- permits come to a kiln -/
theorem RelG.addP (h : RelG w a pos ex) {k y : Nat} (hk : k < 6) (hy : y < 1000) (n : Nat) : RelG (sP w k (rad (wP w k) y n)) (u1 a (144 + 1000 * k + y) (wP w k y + n)) pos ex := by
  refine ⟨h.1.same (fun _ _ => rfl) fun q h1 h2 => u1_ne (by omega), fun c hc => ⟨fun d hd => ?_, fun z hz => ?_⟩, h.2.2.1.same (fun _ _ _ => ⟨fun _ _ => rfl, fun _ _ => rfl⟩) fun q hq => u1_ne (by omega), h.2.2.2.same h.2.2.1.1 (fun _ _ _ => rfl) (u1_ne (by omega)) fun q hq _ => u1_ne (by omega)⟩
  · rw [u1_ne (by omega)]
    exact (h.2.1 c hc).1 d hd
  · show _ = ur w.2.2.1 k (rad (wP w k) y n) c z
    by_cases e : c = k
    · rw [e, ur_eq]
      unfold rad
      by_cases e2 : z = y
      · rw [e2, u1_eq, if_pos rfl]
      · rw [u1_ne (by omega), if_neg e2]
        exact (h.2.1 k hk).2 z hz
    · rw [ur_ne e, u1_ne (by omega)]
      exact (h.2.1 c hc).2 z hz
/-- what is left of an order -/
theorem RelG.setL (h : RelG w a pos ex) {x v : Nat} (hx : x < a 11) (hv : v ≤ wF w (pos x) 3) : RelG (sF w (pos x) 3 v) (u1 a (112 + x) v) pos ex := by
  obtain ⟨h1, h2, ⟨b0, b1, b2, b3⟩, h4⟩ := h
  refine ⟨h1.same (fun _ _ => rfl) fun q h1 h2 => u1_ne (by omega), h2.same (fun _ _ => ⟨fun _ _ => rfl, fun _ _ => rfl⟩) fun q hq => u1_ne (by omega), ?_, h4.same b0 (fun _ _ _ => rfl) (u1_ne (by omega)) fun q hq _ => u1_ne (by omega)⟩
  have e11 : u1 a (112 + x) v 11 = a 11 := u1_ne (by omega)
  unfold RlO
  rw [e11]
  refine ⟨b0, fun z hz => ⟨(b1 z hz).1, ?_⟩, b2, fun i hi he h0 => b3 i hi he ?_⟩
  · obtain ⟨⟨c0, c1, c2, c3, c4⟩, c5⟩ := (b1 z hz).2
    have f0 : ∀ f, f ≠ 3 → wF (sF w (pos x) 3 v) (pos z) f = wF w (pos z) f := fun f hf => by
      show u2 w.2.2.2.1 (pos x) 3 v (pos z) f = _
      unfold u2
      split
      · rw [u1_ne hf]; rfl
      · rfl
    refine ⟨⟨by rw [u1_ne (by omega), f0 0 (by decide)]; exact c0, by rw [u1_ne (by omega), f0 2 (by decide)]; exact c1, by rw [u1_ne (by omega), f0 1 (by decide)]; exact c2, ?_, by rw [u1_ne (by omega), f0 4 (by decide)]; exact c4⟩, fun y hy => by rw [u1_ne (by omega)]; exact c5 y hy⟩
    show _ = u2 w.2.2.2.1 (pos x) 3 v (pos z) 3
    by_cases e : z = x
    · rw [e, u2_eq, u1_eq, u1_eq]
    · rw [u1_ne (by omega), u2_ne fun q => e (b2 z x hz hx q)]
      exact c3
  · have : u2 w.2.2.2.1 (pos x) 3 v i 3 ≤ wF w i 3 := by
      unfold u2
      split
      · next e => rw [u1_eq, e]; exact hv
      · exact Nat.le_refl _
    exact Nat.lt_of_lt_of_le h0 this
/-- the order that is met: its numbers lie elsewhere -/
theorem RelG.setE (h : RelG w a pos ex) (f v : Nat) : RelG (sF w ex f v) a pos ex := by
  obtain ⟨h1, h2, h3, h4⟩ := h
  refine ⟨h1.same (fun _ _ => rfl) fun _ _ _ => rfl, h2.same (fun _ _ => ⟨fun _ _ => rfl, fun _ _ => rfl⟩) fun _ _ => rfl, h3.same (fun i hi he => ⟨fun f' hf => ?_, fun _ _ => rfl⟩) fun _ _ => rfl, h4.same h3.1 (fun _ _ _ => rfl) rfl fun _ _ _ => rfl⟩
  show u2 w.2.2.2.1 ex f v i f' = _
  rw [u2_ne he]; rfl
theorem yrw_eq {f Y : Nat} {r : Nat → Nat} (h : ∀ y, y < 1000 → a (f + y) = r y) (h0 : ∀ y, Y < y → r y = 0) (hY : Y < 1000) : yrw a f Y = r := by
  funext y
  unfold yrw
  by_cases e : y ≤ Y
  · rw [if_pos e]; exact h y (by omega)
  · rw [if_neg e, h0 y (by omega)]
theorem mv_f {f t m Y y : Nat} {r : Nat → Nat} (e : yrw a f Y = r) (hy : y < 1000) (hr : a (f + y) = r y) : mvN a f t m Y 1000 (f + y) = rsu r m y := by
  unfold mvN rsu
  rw [if_pos (by omega), e, show f + y - f = y by omega, hr]
theorem mv_t {f t m Y y : Nat} {r b : Nat → Nat} (e : yrw a f Y = r) (hy : y < 1000) (hft : f + 1000 ≤ t ∨ t + 1000 ≤ f) (hb : a (t + y) = b y) : mvN a f t m Y 1000 (t + y) = rgo b r m y := by
  unfold mvN rgo
  rw [if_neg (by omega), if_pos (by omega), e, show t + y - t = y by omega, hb]
theorem mv_n {f t m Y q : Nat} (h1 : q < f ∨ f + 1000 ≤ q) (h2 : q < t ∨ t + 1000 ≤ q) : mvN a f t m Y 1000 q = a q := by
  unfold mvN
  rw [if_neg (by omega), if_neg (by omega)]
/-- permits of an order go to a kiln -/
theorem RelG.mvXK (h : RelG w a pos ex) {x k m Y : Nat} (hx : x < a 11) (hk : k < 6) (hY : Y < 1000) (h0 : ∀ y, Y < y → wO w (pos x) y = 0) : RelG (sO (sP w k (rgo (wP w k) (wO w (pos x)) m)) (pos x) (rsu (wO w (pos x)) m)) (mvN a (6144 + 1000 * x) (144 + 1000 * k) m Y 1000) pos ex := by
  obtain ⟨h1, h2, ⟨b0, b1, b2, b3⟩, h4⟩ := h
  have ey := yrw_eq (b1 x hx).2.2 h0 hY
  refine ⟨h1.same (fun _ _ => rfl) fun q h1 h2 => mv_n (by omega) (by omega), fun c hc => ⟨fun d hd => ?_, fun z hz => ?_⟩, ?_, h4.same b0 (fun y hy he => ?_) (mv_n (by omega) (by omega)) fun q hq _ => mv_n (by omega) (by omega)⟩
  · rw [mv_n (by omega) (by omega)]
    exact (h2 c hc).1 d hd
  · show _ = ur w.2.2.1 k _ c z
    by_cases e : c = k
    · rw [e, ur_eq, mv_t ey hz (by omega) ((h2 k hk).2 z hz)]
    · rw [ur_ne e, mv_n (by omega) (by omega)]
      exact (h2 c hc).2 z hz
  · have e11 : mvN a (6144 + 1000 * x) (144 + 1000 * k) m Y 1000 11 = a 11 := mv_n (by omega) (by omega)
    unfold RlO
    rw [e11]
    refine ⟨b0, fun z hz => ⟨(b1 z hz).1, ?_⟩, b2, b3⟩
    obtain ⟨⟨c0, c1, c2, c3, c4⟩, c5⟩ := (b1 z hz).2
    refine ⟨⟨by rw [mv_n (by omega) (by omega)]; exact c0, by rw [mv_n (by omega) (by omega)]; exact c1, by rw [mv_n (by omega) (by omega)]; exact c2, by rw [mv_n (by omega) (by omega)]; exact c3, by rw [mv_n (by omega) (by omega)]; exact c4⟩, fun y hy => ?_⟩
    show _ = ur w.2.2.2.2 (pos x) _ (pos z) y
    by_cases e : z = x
    · rw [e, ur_eq, mv_f ey hy ((b1 x hx).2.2 y hy)]
    · rw [ur_ne fun q => e (b2 z x hz hx q), mv_n (by omega) (by omega)]
      exact c5 y hy
  · show ur w.2.2.2.2 (pos x) _ ex y = _
    rw [ur_ne (Ne.symm (b1 x hx).1.2)]; rfl
/-- permits of the order that is met go to a kiln -/
theorem RelG.mvIK (h : RelG w a pos ex) {k m Y : Nat} (hx : ex < 17) (hk : k < 6) (hY : Y < 1000) (h0 : ∀ y, Y < y → wO w ex y = 0) : RelG (sO (sP w k (rgo (wP w k) (wO w ex) m)) ex (rsu (wO w ex) m)) (mvN a 22144 (144 + 1000 * k) m Y 1000) pos ex := by
  obtain ⟨h1, h2, h3, h4⟩ := h
  have hr : ∀ y, y < 1000 → a (22144 + y) = wO w ex y := fun y hy => by rw [h4.2 y hy]; exact if_pos hx
  have ey := yrw_eq hr h0 hY
  have b0 := h3.1
  have e11 : mvN a 22144 (144 + 1000 * k) m Y 1000 11 = a 11 := mv_n (by omega) (by omega)
  refine ⟨h1.same (fun _ _ => rfl) fun q h1 h2 => mv_n (by omega) (by omega), fun c hc => ⟨fun d hd => ?_, fun z hz => ?_⟩, h3.same (fun i hi he => ⟨fun _ _ => rfl, fun y hy => ?_⟩) fun q hq => mv_n (by omega) (by omega), ?_⟩
  · rw [mv_n (by omega) (by omega)]
    exact (h2 c hc).1 d hd
  · show _ = ur w.2.2.1 k _ c z
    by_cases e : c = k
    · rw [e, ur_eq, mv_t ey hz (by omega) ((h2 k hk).2 z hz)]
    · rw [ur_ne e, mv_n (by omega) (by omega)]
      exact (h2 c hc).2 z hz
  · show ur w.2.2.2.2 ex _ i y = _
    rw [ur_ne he]; rfl
  · unfold RlZ
    rw [e11]
    refine ⟨fun x h5 h6 y hy => by rw [mv_n (by omega) (by omega)]; exact h4.1 x h5 h6 y hy, fun y hy => ?_⟩
    unfold exR
    rw [if_pos hx]
    show _ = ur w.2.2.2.2 ex _ ex y
    rw [ur_eq, mv_f ey hy (hr y hy)]
/-- permits of a kiln go to the order that comes -/
theorem RelG.mvKI (h : RelG w a pos ex) {k m Y : Nat} (hx : ex < 17) (hk : k < 6) (hY : Y < 1000) (h0 : ∀ y, Y < y → wP w k y = 0) : RelG (sO (sP w k (rsu (wP w k) m)) ex (rgo (wO w ex) (wP w k) m)) (mvN a (144 + 1000 * k) 22144 m Y 1000) pos ex := by
  obtain ⟨h1, h2, h3, h4⟩ := h
  have hr : ∀ y, y < 1000 → a (22144 + y) = wO w ex y := fun y hy => by rw [h4.2 y hy]; exact if_pos hx
  have ey := yrw_eq (h2 k hk).2 h0 hY
  have b0 := h3.1
  have e11 : mvN a (144 + 1000 * k) 22144 m Y 1000 11 = a 11 := mv_n (by omega) (by omega)
  refine ⟨h1.same (fun _ _ => rfl) fun q h1 h2 => mv_n (by omega) (by omega), fun c hc => ⟨fun d hd => ?_, fun z hz => ?_⟩, h3.same (fun i hi he => ⟨fun _ _ => rfl, fun y hy => ?_⟩) fun q hq => mv_n (by omega) (by omega), ?_⟩
  · rw [mv_n (by omega) (by omega)]
    exact (h2 c hc).1 d hd
  · show _ = ur w.2.2.1 k _ c z
    by_cases e : c = k
    · rw [e, ur_eq, mv_f ey hz ((h2 k hk).2 z hz)]
    · rw [ur_ne e, mv_n (by omega) (by omega)]
      exact (h2 c hc).2 z hz
  · show ur w.2.2.2.2 ex _ i y = _
    rw [ur_ne he]; rfl
  · unfold RlZ
    rw [e11]
    refine ⟨fun x h5 h6 y hy => by rw [mv_n (by omega) (by omega)]; exact h4.1 x h5 h6 y hy, fun y hy => ?_⟩
    unfold exR
    rw [if_pos hx]
    show _ = ur w.2.2.2.2 ex _ ex y
    rw [ur_eq, mv_t ey hy (by omega) (hr y hy)]
/-- permits of a kiln are gone -/
theorem RelG.mvKO (h : RelG w a pos ex) {k m Y : Nat} (hk : k < 6) (hY : Y < 1000) (h0 : ∀ y, Y < y → wP w k y = 0) : RelG (sP w k (rsu (wP w k) m)) (mvO a (144 + 1000 * k) m Y 1000) pos ex := by
  obtain ⟨h1, h2, h3, h4⟩ := h
  have ey := yrw_eq (h2 k hk).2 h0 hY
  have b0 := h3.1
  have mn : ∀ q, q < 144 + 1000 * k ∨ 144 + 1000 * k + 1000 ≤ q → mvO a (144 + 1000 * k) m Y 1000 q = a q := fun q hq => by
    unfold mvO
    rw [if_neg (by omega)]
  refine ⟨h1.same (fun _ _ => rfl) fun q h1 h2 => mn q (by omega), fun c hc => ⟨fun d hd => ?_, fun z hz => ?_⟩, h3.same (fun i hi he => ⟨fun _ _ => rfl, fun y hy => rfl⟩) fun q hq => mn q (by omega), h4.same b0 (fun _ _ _ => rfl) (mn 11 (by omega)) fun q hq _ => mn q (by omega)⟩
  · rw [mn _ (by omega)]
    exact (h2 c hc).1 d hd
  · show _ = ur w.2.2.1 k _ c z
    by_cases e : c = k
    · rw [e, ur_eq]
      unfold mvO rsu
      rw [if_pos (by omega), ey, show 144 + 1000 * k + z - (144 + 1000 * k) = z by omega, (h2 k hk).2 z hz]
    · rw [ur_ne e, mn _ (by omega)]
      exact (h2 c hc).2 z hz
end Rels
