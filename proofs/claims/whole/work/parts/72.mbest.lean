/-! ===== the model: the town when an order has left; the best ===== -/
section Mbe
variable {w : Rw} {a a' pos : Nat → Nat} {ex : Nat}
def psL (pos : Nat → Nat) (x : Nat) : Nat → Nat := fun z => if z < x then pos z else pos (z + 1)
theorem RelG.lv {x m Y : Nat} (h : RelG w a pos ex) (hx : x < m) (hm : a 11 = m) (hY : Y < 1000) (h0 : wF w (pos x) 3 = 0) (hz : ∀ i, i < 17 → ∀ y, Y < y → wO w i y = 0) (e : ∀ i, i < 23144 → (i < 64 ∨ 144 ≤ i ∨ (i - 64) % 16 < m - 1) → a' i = lvZ (lvA a x (m - 1) Y) (m - 1) (Y + 1) i) : RelG w a' (psL pos x) ex ∧ a' 11 = m - 1 := by
  obtain ⟨h1, h2, ⟨b0, b1, b2, b3⟩, h4⟩ := h
  rw [hm] at b0 b1 b2 b3
  have low : ∀ q, q ≠ 11 → q < 64 ∨ (144 ≤ q ∧ q < 6144) ∨ (6144 + 1000 * m ≤ q ∧ q < 23144) → a' q = a q := fun q hq hr => by
    rw [e q (by omega) (by omega)]
    unfold lvZ lvA
    rw [if_neg (by omega), if_neg hq, if_neg (by omega), if_neg (by omega)]
  have e11 : a' 11 = m - 1 := by
    rw [e 11 (by decide) (by omega)]
    unfold lvZ
    rw [if_neg (by omega), if_pos rfl]
  have fld : ∀ c z, c < 5 → z < m - 1 → a' (64 + 16 * c + z) = a (64 + 16 * c + (if z < x then z else z + 1)) := fun c z hc hzm => by
    rw [e _ (by omega) (by omega)]
    unfold lvZ lvA
    rw [if_neg (by omega), if_neg (by omega)]
    by_cases hzx : z < x
    · rw [if_neg (by omega), if_neg (by omega), if_pos hzx]
    · rw [if_pos (by omega), if_neg hzx]
      congr 1
  have row : ∀ z y, z < m - 1 → y < 1000 → a' (6144 + 1000 * z + y) = wO w (psL pos x z) y := fun z y hzm hy => by
    rw [e _ (by omega) (by omega)]
    unfold lvZ lvA psL
    rw [if_neg (by omega), if_neg (by omega), if_neg (by omega)]
    by_cases hzx : z < x
    · rw [if_neg (by omega), if_pos hzx]
      exact (b1 z (by omega)).2.2 y hy
    · rw [if_neg hzx]
      by_cases hyY : y ≤ Y
      · rw [if_pos (by omega)]
        have := (b1 (z + 1) (by omega)).2.2 y hy
        rw [← this]
        congr 1; omega
      · rw [if_neg (by omega), hz _ (b1 (z + 1) (by omega)).1.1 y (by omega), (b1 z (by omega)).2.2 y hy, hz _ (b1 z (by omega)).1.1 y (by omega)]
  refine ⟨⟨h1.same (fun _ _ => rfl) fun q hq hn => low q hn (by omega), h2.same (fun _ _ => ⟨fun _ _ => rfl, fun _ _ => rfl⟩) fun q hq => low q (by omega) (by omega), ?_, ?_⟩, e11⟩
  · unfold RlO
    rw [e11]
    refine ⟨by omega, fun z hzm => ?_, fun u v hu hv huv => ?_, fun i hi hex hl => ?_⟩
    · have bz := b1 (if z < x then z else z + 1) (by split <;> omega)
      have ep : pos (if z < x then z else z + 1) = psL pos x z := by
        unfold psL
        split <;> rfl
      rw [ep] at bz
      obtain ⟨p1, ⟨c0, c1, c2, c3, c4⟩, c5⟩ := bz
      exact ⟨p1, ⟨(fld 0 z (by decide) hzm).trans c0, (fld 1 z (by decide) hzm).trans c1, (fld 2 z (by decide) hzm).trans c2, (fld 3 z (by decide) hzm).trans c3, (fld 4 z (by decide) hzm).trans c4⟩, fun y hy => row z y hzm hy⟩
    · unfold psL at huv
      split at huv <;> split at huv
      · exact b2 u v (by omega) (by omega) huv
      · have := b2 u (v + 1) (by omega) (by omega) huv
        omega
      · have := b2 (u + 1) v (by omega) (by omega) huv
        omega
      · have := b2 (u + 1) (v + 1) (by omega) (by omega) huv
        omega
    · obtain ⟨z, hzm, ez⟩ := b3 i hi hex hl
      have hzx : z ≠ x := fun q => by
        rw [q] at ez
        rw [ez] at h0
        omega
      by_cases hlt : z < x
      · exact ⟨z, by omega, by unfold psL; rw [if_pos hlt]; exact ez⟩
      · refine ⟨z - 1, by omega, ?_⟩
        unfold psL
        rw [if_neg (by omega), show z - 1 + 1 = z by omega]
        exact ez
  · unfold RlZ
    rw [e11]
    refine ⟨fun z z1 z2 y hy => ?_, fun y hy => ?_⟩
    · by_cases hzm : z = m - 1
      · by_cases hyY : y ≤ Y
        · rw [e _ (by omega) (by omega)]
          unfold lvZ
          rw [if_pos (by omega)]
        · rw [e _ (by omega) (by omega)]
          unfold lvZ lvA
          rw [if_neg (by omega), if_neg (by omega), if_neg (by omega), if_neg (by omega), hzm, (b1 (m - 1) (by omega)).2.2 y hy]
          exact hz _ (b1 (m - 1) (by omega)).1.1 y (by omega)
      · rw [low _ (by omega) (by omega)]
        exact h4.1 z (by omega) z2 y hy
    · rw [low _ (by omega) (by omega)]
      exact h4.2 y hy
theorem RlN.lv {x m : Nat} (hx : x < m) (hn : ∀ z, z < m → z ≠ x → 0 < wF w (pos z) 3) (e11 : a' 11 = m - 1) : RlN w a' (psL pos x) := fun z hz => by
  rw [e11] at hz
  unfold psL
  split
  · exact hn z (by omega) (by omega)
  · exact hn (z + 1) (by omega) (by omega)
theorem bsF_none {b : Nat} : ∀ (n : Nat), bsF w b n = none → ∀ i, i < n → stF w b i = false
  | 0, _, i, hi => absurd hi (Nat.not_lt_zero i)
  | n + 1, h, i, hi => by
    unfold bsF at h
    by_cases h1 : stF w b n = true
    · rw [if_pos h1] at h
      cases h2 : bsF w b n with
      | none => rw [h2] at h; simp at h
      | some m =>
        rw [h2] at h
        by_cases h3 : beF w n m = true
        · simp [h3] at h
        · simp [h3] at h
    · rw [if_neg h1] at h
      by_cases e : i = n
      · rw [e]; simpa using h1
      · exact bsF_none n h i (by omega)
theorem bsF_best {b : Nat} (hd : ∀ i j, i < 17 → j < 17 → 0 < wF w i 3 → 0 < wF w j 3 → wF w i 0 = wF w j 0 → i = j) : ∀ (n : Nat) {m : Nat}, n ≤ 17 → bsF w b n = some m → ∀ i, i < n → stF w b i = true → i ≠ m → beF w m i = true
  | 0, m, _, h, i, hi, _, _ => absurd hi (Nat.not_lt_zero i)
  | n + 1, m, hn, h, i, hi, hs, hne => by
    obtain ⟨i1, i2⟩ := stF_spec hs
    unfold bsF at h
    by_cases h1 : stF w b n = true
    · obtain ⟨n1, n2⟩ := stF_spec h1
      rw [if_pos h1] at h
      cases h2 : bsF w b n with
      | none =>
        have hno := bsF_none n h2
        rw [h2] at h
        have em : n = m := by simpa using h
        have : i = n := Decidable.byContradiction fun q => by
          have := hno i (by omega)
          rw [hs] at this
          cases this
        omega
      | some m' =>
        rw [h2] at h
        obtain ⟨l1, l2⟩ := bsF_lt n h2
        obtain ⟨m1, m2⟩ := stF_spec l2
        have best := bsF_best hd n (by omega) h2
        by_cases h3 : beF w n m' = true
        · have em : n = m := by simpa [h3] using h
          subst em
          by_cases e : i = m'
          · rw [e]; exact h3
          · exact beF_tr (n2.trans m2.symm) h3 (best i (by omega) hs e)
        · have em : m' = m := by simpa [h3] using h
          subst em
          by_cases e : i = n
          · rw [e]
            refine beF_to (n2.trans m2.symm) (fun q => ?_) h3
            have := hd n m' (by omega) (by omega) n1 m1 q
            omega
          · exact best i (by omega) hs hne
    · rw [if_neg h1] at h
      have : i ≠ n := fun q => h1 (by rw [← q]; exact hs)
      exact bsF_best hd n (by omega) h i (by omega) hs hne
theorem bsM_none {b : Nat} : ∀ (n : Nat), bsM a b n = none → ∀ i, i < n → a (96 + i) ≠ b
  | 0, _, i, hi => absurd hi (Nat.not_lt_zero i)
  | n + 1, h, i, hi => by
    unfold bsM at h
    by_cases h1 : a (96 + n) = b
    · rw [if_pos h1] at h
      cases h2 : bsM a b n with
      | none => rw [h2] at h; simp at h
      | some m =>
        rw [h2] at h
        by_cases h3 : ahB a n m = true
        · simp [h3] at h
        · simp [h3] at h
    · rw [if_neg h1] at h
      by_cases e : i = n
      · rw [e]; exact h1
      · exact bsM_none n h i (by omega)
theorem bsM_best {b : Nat} (h : RelG w a pos ex) (hN : RlN w a pos) (hd : ∀ i j, i < 17 → j < 17 → 0 < wF w i 3 → 0 < wF w j 3 → wF w i 0 = wF w j 0 → i = j) : ∀ (n : Nat) {m : Nat}, n ≤ a 11 → bsM a b n = some m → a (96 + m) = b ∧ ∀ i, i < n → a (96 + i) = b → i ≠ m → beF w (pos m) (pos i) = true
  | 0, m, _, hh => by simp [bsM] at hh
  | n + 1, m, hn, hh => by
    have kd : ∀ x, x < a 11 → a (96 + x) = wF w (pos x) 1 := fun x hx => (h.o hx).2.1.2.2.1
    unfold bsM at hh
    by_cases h1 : a (96 + n) = b
    · rw [if_pos h1] at hh
      cases h2 : bsM a b n with
      | none =>
        have hno := bsM_none n h2
        rw [h2] at hh
        have em : n = m := by simpa using hh
        subst em
        exact ⟨h1, fun i hi hb hne => absurd hb (hno i (by omega))⟩
      | some m' =>
        rw [h2] at hh
        have l1 := bsM_lt n h2
        obtain ⟨best0, best⟩ := bsM_best h hN hd n (by omega) h2
        have ea := h.ah (x := n) (z := m') (by omega) (by omega)
        by_cases h3 : ahB a n m' = true
        · have em : n = m := by simpa [h3] using hh
          subst em
          rw [ea] at h3
          refine ⟨h1, fun i hi hb hne => ?_⟩
          by_cases e : i = m'
          · rw [e]; exact h3
          · exact beF_tr (by rw [← kd n (by omega), ← kd m' (by omega), h1, best0]) h3 (best i (by omega) hb e)
        · have em : m' = m := by simpa [h3] using hh
          subst em
          rw [ea] at h3
          refine ⟨best0, fun i hi hb hne => ?_⟩
          by_cases e : i = n
          · rw [e]
            refine beF_to (by rw [← kd n (by omega), ← kd m' (by omega), h1, best0]) (fun q => ?_) h3
            have := h.2.2.1.2.2.1 n m' (by omega) (by omega) (hd _ _ (h.o (x := n) (by omega)).1.1 (h.o (x := m') (by omega)).1.1 (hN n (by omega)) (hN m' (by omega)) q)
            omega
          · exact best i (by omega) hb hne
    · rw [if_neg h1] at hh
      obtain ⟨best0, best⟩ := bsM_best h hN hd n (by omega) hh
      refine ⟨best0, fun i hi hb hne => best i ?_ hb hne⟩
      have : i ≠ n := fun q => h1 (by rw [← q]; exact hb)
      omega
/-- both take the same order -/
theorem best_none {b : Nat} (h : RelG w a pos ex) (he : ex < 17 → wF w ex 1 ≠ b) (hb : bsM a b (a 11) = none) : bsF w b 17 = none := by
  cases h2 : bsF w b 17 with
  | none => rfl
  | some m =>
    obtain ⟨l1, l2⟩ := bsF_lt 17 h2
    obtain ⟨m1, m2⟩ := stF_spec l2
    obtain ⟨x, hx, ex2⟩ := h.2.2.1.2.2.2 m l1 (fun q => he (by omega) (by rw [← q]; exact m2)) m1
    exact absurd ((h.o hx).2.1.2.2.1.trans (by rw [ex2]; exact m2)) (bsM_none _ hb x hx)
theorem best_some {b x : Nat} (h : RelG w a pos ex) (hN : RlN w a pos) (hd : ∀ i j, i < 17 → j < 17 → 0 < wF w i 3 → 0 < wF w j 3 → wF w i 0 = wF w j 0 → i = j) (he : ex < 17 → wF w ex 1 ≠ b) (hb : bsM a b (a 11) = some x) : bsF w b 17 = some (pos x) := by
  have hx := bsM_lt _ hb
  obtain ⟨bb, best⟩ := bsM_best h hN hd _ (Nat.le_refl _) hb
  have kx : wF w (pos x) 1 = b := by rw [← (h.o hx).2.1.2.2.1]; exact bb
  have sx : stF w b (pos x) = true := by
    unfold stF
    rw [decide_eq_true (hN x hx), decide_eq_true kx]
    rfl
  cases h2 : bsF w b 17 with
  | none =>
    have := bsF_none 17 h2 (pos x) (h.o hx).1.1
    rw [sx] at this
    cases this
  | some m =>
    obtain ⟨l1, l2⟩ := bsF_lt 17 h2
    obtain ⟨m1, m2⟩ := stF_spec l2
    by_cases e : m = pos x
    · rw [e]
    · obtain ⟨z, hz, ez⟩ := h.2.2.1.2.2.2 m l1 (fun q => he (by omega) (by rw [← q]; exact m2)) m1
      have hzx : z ≠ x := fun q => e (by rw [← q]; exact ez.symm)
      have f1 := best z hz (by rw [(h.o hz).2.1.2.2.1, ez]; exact m2) hzx
      have f2 := bsF_best hd 17 (Nat.le_refl _) h2 (pos x) (h.o hx).1.1 sx (Ne.symm e)
      rw [ez] at f1
      have := beF_tr (by rw [kx, m2]) f1 f2
      rw [beF_ir] at this
      cases this
end Mbe
