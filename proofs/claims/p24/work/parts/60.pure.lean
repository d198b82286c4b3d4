/-! ===== pure words of a town: sums, who is ahead, what acts do to the orders ===== -/
theorem sm_pos {pos : Nat → Nat} : ∀ (M : Nat) {f : Nat → Nat}, (∀ x z, x < M → z < M → pos x = pos z → x = z) → (∀ x, x < M → pos x < 17) → (∀ i, i < 17 → (∀ x, x < M → pos x ≠ i) → f i = 0) → sm (fun x => f (pos x)) M = sm f 17
  | 0, f, _, _, hz => by
    rw [sm_0 17 fun i hi => hz i hi fun x hx => absurd hx (Nat.not_lt_zero x)]
    rfl
  | M + 1, f, hi, hl, hz => by
    have ih := sm_pos (pos := pos) M (f := fun i => if i = pos M then 0 else f i) (fun x z hx hz2 e => hi x z (by omega) (by omega) e) (fun x hx => hl x (by omega)) (fun i h17 hno => by
      by_cases e : i = pos M
      · show (if i = pos M then 0 else f i) = 0
        rw [if_pos e]
      · show (if i = pos M then 0 else f i) = 0
        rw [if_neg e]
        refine hz i h17 fun x hx => ?_
        by_cases ex : x = M
        · rw [ex]; exact fun q => e q.symm
        · exact hno x (by omega))
    have e1 : sm (fun x => (fun i => if i = pos M then 0 else f i) (pos x)) M = sm (fun x => f (pos x)) M := sm_eq M fun x hx => by
      show (if pos x = pos M then 0 else f (pos x)) = _
      rw [if_neg]
      intro q
      have := hi x M (by omega) (by omega) q
      omega
    rw [e1] at ih
    have e2 := sm_upd (f := f) (g := fun i => if i = pos M then 0 else f i) (a := pos M) 17 (hl M (by omega)) (fun i _ hne => if_neg hne)
    simp only [if_true] at e2
    show sm (fun x => f (pos x)) M + f (pos M) = _
    omega
theorem sm_swap {f : Nat → Nat → Nat} {m : Nat} : ∀ (n : Nat), sm (fun k => sm (fun i => f k i) m) n = sm (fun i => sm (fun k => f k i) n) m
  | 0 => (sm_0 m fun _ _ => rfl).symm
  | n + 1 => by
    show sm (fun k => sm (fun i => f k i) m) n + sm (fun i => f n i) m = _
    rw [sm_swap n, ← sm_add]
    rfl
def InvA (w : Rw) : Prop := (wS w 0 < 1000 ∧ (∀ k, k < 6 → ∀ y, wS w 0 < y → wP w k y = 0) ∧ ∀ i, i < 17 → ∀ y, wS w 0 < y → wO w i y = 0) ∧
  (∀ i, i < 17 → wF w i 1 ≤ 1 ∧ wF w i 2 < 6 ∧ rt (wO w i) = if wF w i 1 = 0 then wF w i 3 else 0) ∧
  (∀ i j, i < 17 → j < 17 → 0 < wF w i 3 → 0 < wF w j 3 → wF w i 0 = wF w j 0 → i = j) ∧ ∀ i, i < 17 → 0 < wF w i 3 → wF w i 0 < wS w 6
theorem sm_cls {w : Rw} {f : Nat → Nat} (hI : InvA w) : sm (fun k => sm (fun i => if wF w i 2 = k then f i else 0) 17) 6 = sm f 17 := by
  rw [sm_swap]
  refine sm_eq _ fun i hi => ?_
  have e : (fun k => if wF w i 2 = k then f i else 0) = fun k => if k = wF w i 2 then f i else 0 := by
    funext k
    by_cases e : wF w i 2 = k
    · rw [if_pos e, if_pos e.symm]
    · rw [if_neg e, if_neg fun z => e z.symm]
  show sm (fun k => if wF w i 2 = k then f i else 0) 6 = _
  rw [e, sm_one, if_pos (hI.2.1 i hi).2.1]
theorem beF_iff {w : Rw} {i j : Nat} : beF w i j = true ↔ (wF w i 4 = wF w j 4 ∧ wF w i 0 < wF w j 0) ∨ (wF w i 4 ≠ wF w j 4 ∧ ((wF w i 1 = 0 ∧ wF w i 4 < wF w j 4) ∨ (wF w i 1 ≠ 0 ∧ wF w j 4 < wF w i 4))) := by
  unfold beF
  by_cases h1 : wF w i 4 = wF w j 4
  · rw [if_pos h1, decide_eq_true_eq]; omega
  · rw [if_neg h1]
    by_cases h2 : wF w i 1 = 0
    · rw [if_pos h2, decide_eq_true_eq]; omega
    · rw [if_neg h2, decide_eq_true_eq]; omega
theorem beF_tr {w : Rw} {i j k : Nat} (hk : wF w i 1 = wF w j 1) (h1 : beF w i j = true) (h2 : beF w j k = true) : beF w i k = true := by
  rw [beF_iff] at h1 h2 ⊢
  omega
theorem beF_ir {w : Rw} {i : Nat} : beF w i i = false := by
  cases h : beF w i i with
  | false => rfl
  | true => rw [beF_iff] at h; omega
theorem beF_to {w : Rw} {i j : Nat} (hk : wF w i 1 = wF w j 1) (hn : wF w i 0 ≠ wF w j 0) (h : ¬ beF w i j = true) : beF w j i = true := by
  rw [beF_iff] at h ⊢
  omega
theorem sm_lt {f g : Nat → Nat} {a : Nat} : ∀ (n : Nat), a < n → (∀ i, i < n → f i ≤ g i) → f a < g a → sm f n < sm g n
  | 0, h, _, _ => absurd h (Nat.not_lt_zero a)
  | n + 1, h, hle, hlt => by
    simp only [sm]
    by_cases e : a = n
    · have := sm_le n fun i hi => hle i (by omega)
      rw [e] at hlt
      omega
    · have := sm_lt (f := f) (g := g) n (by omega) (fun i hi => hle i (by omega)) hlt
      have := hle n (by omega)
      omega
theorem nB_le {p q : Bool} (h : p = true → q = true) : nB p ≤ nB q := by
  cases p with
  | false => exact Nat.zero_le _
  | true => rw [h rfl]; exact Nat.le_refl _
theorem btN_lt {w : Rw} {b i j : Nat} (hi : i < 17) (si : stF w b i = true) (sj : stF w b j = true) (h : beF w i j = true) : btN w i < btN w j := by
  obtain ⟨i1, i2⟩ := stF_spec si
  obtain ⟨j1, j2⟩ := stF_spec sj
  unfold btN
  rw [i2, j2]
  refine sm_lt (a := i) 17 hi (fun x _ => nB_le fun hx => ?_) ?_
  · rw [Bool.and_eq_true] at hx ⊢
    obtain ⟨x1, x2⟩ := stF_spec hx.1
    exact ⟨hx.1, beF_tr (x2.trans i2.symm) hx.2 h⟩
  · show nB (stF w b i && beF w i i) < nB (stF w b i && beF w i j)
    rw [beF_ir, Bool.and_false, si, h]
    decide
theorem btN_inj {w : Rw} {b i j : Nat} (hI : InvA w) (hi : i < 17) (hj : j < 17) (si : stF w b i = true) (sj : stF w b j = true) (h : btN w i = btN w j) : i = j := by
  obtain ⟨i1, i2⟩ := stF_spec si
  obtain ⟨j1, j2⟩ := stF_spec sj
  by_cases e : wF w i 0 = wF w j 0
  · exact hI.2.2.1 i j hi hj i1 j1 e
  · by_cases h2 : beF w i j = true
    · have := btN_lt hi si sj h2
      omega
    · have := btN_lt hj sj si (beF_to (i2.trans j2.symm) e h2)
      omega
theorem btN_le {w : Rw} {i : Nat} : btN w i ≤ 17 := by
  unfold btN
  have h := sm_le (f := fun j => nB (stF w (wF w i 1) j && beF w j i)) (g := fun _ => 1) 17 (fun j _ => by
    show nB _ ≤ 1
    unfold nB
    split <;> omega)
  have e : sm (fun _ => 1) 17 = 17 := by simp only [sm]
  omega
theorem opTrade_f3 {w : Rw} {i j p c : Nat} : wF (opTrade w i j p) c 3 = if c = j then wF w j 3 - min (wF w i 3) (wF w j 3) else if c = i then wF w i 3 - min (wF w i 3) (wF w j 3) else wF w c 3 := by
  show u2 (u2 w.2.2.2.1 i 3 _) j 3 _ c 3 = _
  unfold u2
  by_cases h1 : c = j
  · rw [if_pos h1, if_pos h1, u1_eq]
  · rw [if_neg h1, if_neg h1]
    by_cases h2 : c = i
    · rw [if_pos h2, if_pos h2, u1_eq]
    · rw [if_neg h2, if_neg h2]; rfl
theorem opTrade_S6 {w : Rw} {i j p : Nat} : wS (opTrade w i j p) 6 = wS w 6 := rfl
theorem opTrade_S0 {w : Rw} {i j p : Nat} : wS (opTrade w i j p) 0 = wS w 0 := rfl
theorem opPut_F {w : Rw} {i b k l p : Nat} : (wF (opPut w i b k l p) i 0 = wS w 6 ∧ wF (opPut w i b k l p) i 1 = b ∧ wF (opPut w i b k l p) i 2 = k ∧ wF (opPut w i b k l p) i 3 = l ∧ wF (opPut w i b k l p) i 4 = p) ∧ (∀ c f, c ≠ i → wF (opPut w i b k l p) c f = wF w c f) ∧ wS (opPut w i b k l p) 6 = wS w 6 + 1 ∧ wS (opPut w i b k l p) 0 = wS w 0 := by
  have e : wF (opPut w i b k l p) = u2 (u2 (u2 (u2 (u2 w.2.2.2.1 i 0 (wS w 6)) i 1 b) i 2 k) i 3 l) i 4 p := by
    unfold opPut
    by_cases hb : b = 1
    · rw [if_pos hb]; rfl
    · rw [if_neg hb]; rfl
  have eS : wS (opPut w i b k l p) = u1 w.1 6 (wS w 6 + 1) := by
    unfold opPut
    by_cases hb : b = 1
    · rw [if_pos hb]; rfl
    · rw [if_neg hb]; rfl
  rw [e, eS]
  refine ⟨⟨?_, ?_, ?_, ?_, ?_⟩, fun c f hc => ?_, u1_eq, ?_⟩
  · simp only [u2_eq, u1]; rfl
  · simp only [u2_eq, u1]; rfl
  · simp only [u2_eq, u1]; rfl
  · simp only [u2_eq, u1]; rfl
  · simp only [u2_eq, u1]; rfl
  · rw [u2_ne hc, u2_ne hc, u2_ne hc, u2_ne hc, u2_ne hc]; rfl
  · rw [u1_ne (by decide)]; rfl
theorem bsF_none {w : Rw} {b : Nat} : ∀ (n : Nat), bsF w b n = none → ∀ i, i < n → stF w b i = false
  | 0, _, i, hi => absurd hi (Nat.not_lt_zero i)
  | n + 1, h, i, hi => by
    unfold bsF at h
    by_cases h1 : stF w b n = true
    · rw [if_pos h1] at h
      cases h2 : bsF w b n with
      | none => rw [h2] at h; simp at h
      | some m =>
        rw [h2] at h
        by_cases h3 : beF w n m = true
        · simp [h3] at h
        · simp [h3] at h
    · rw [if_neg h1] at h
      by_cases e : i = n
      · rw [e]; simpa using h1
      · exact bsF_none n h i (by omega)
theorem bsF_best {w : Rw} {b : Nat} (hd : ∀ i j, i < 17 → j < 17 → 0 < wF w i 3 → 0 < wF w j 3 → wF w i 0 = wF w j 0 → i = j) : ∀ (n : Nat) {m : Nat}, n ≤ 17 → bsF w b n = some m → ∀ i, i < n → stF w b i = true → i ≠ m → beF w m i = true
  | 0, m, _, h, i, hi, _, _ => absurd hi (Nat.not_lt_zero i)
  | n + 1, m, hn, h, i, hi, hs, hne => by
    obtain ⟨i1, i2⟩ := stF_spec hs
    unfold bsF at h
    by_cases h1 : stF w b n = true
    · obtain ⟨n1, n2⟩ := stF_spec h1
      rw [if_pos h1] at h
      cases h2 : bsF w b n with
      | none =>
        have hno := bsF_none n h2
        rw [h2] at h
        have em : n = m := by simpa using h
        have : i = n := Decidable.byContradiction fun q => by
          have := hno i (by omega)
          rw [hs] at this
          cases this
        omega
      | some m' =>
        rw [h2] at h
        obtain ⟨l1, l2⟩ := bsF_lt n h2
        obtain ⟨m1, m2⟩ := stF_spec l2
        have best := bsF_best hd n (by omega) h2
        by_cases h3 : beF w n m' = true
        · have em : n = m := by simpa [h3] using h
          subst em
          by_cases e : i = m'
          · rw [e]; exact h3
          · exact beF_tr (n2.trans m2.symm) h3 (best i (by omega) hs e)
        · have em : m' = m := by simpa [h3] using h
          subst em
          by_cases e : i = n
          · rw [e]
            refine beF_to (n2.trans m2.symm) (fun q => ?_) h3
            have := hd n m' (by omega) (by omega) n1 m1 q
            omega
          · exact best i (by omega) hs hne
    · rw [if_neg h1] at h
      have : i ≠ n := fun q => h1 (by rw [← q]; exact hs)
      exact bsF_best hd n (by omega) h i (by omega) hs hne
theorem acN_eq {w : Rw} (hI : InvA w) : acN w 6 = sm (hbF w) 17 + sm (fun k => wK w k 0) 6 := by
  unfold acN
  rw [sm_add, sm_cls hI]
  omega
theorem apN_eq {w : Rw} (hI : InvA w) : apN w 6 = sm (fun i => rt (wO w i)) 17 + sm (fun k => rt (wP w k)) 6 := by
  unfold apN
  rw [sm_add, sm_cls hI]
  omega
