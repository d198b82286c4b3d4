/-! ===== bids and asks that stand don't cross ===== -/
def NX (w : Rw) : Prop := ∀ i j, i < 17 → j < 17 → stF w 1 i = true → stF w 0 j = true → wF w i 4 < wF w j 4
theorem stF_of {w : Rw} {b i : Nat} (h1 : 0 < wF w i 3) (h2 : wF w i 1 = b) : stF w b i = true := by
  unfold stF
  rw [decide_eq_true h1, decide_eq_true h2]
  rfl
section Nxs
variable {w w' : Rw} {u i : Nat}
theorem NX.le (h : NX w) (e : ∀ c f, f ≠ 3 → wF w' c f = wF w c f) (l : ∀ c, wF w' c 3 ≤ wF w c 3) : NX w' := fun x y hx hy sx sy => by
  obtain ⟨x1, x2⟩ := stF_spec sx
  obtain ⟨y1, y2⟩ := stF_spec sy
  rw [e x 4 (by decide), e y 4 (by decide)]
  have lx := l x
  have ly := l y
  exact h x y hx hy (stF_of (by omega) ((e x 1 (by decide)).symm.trans x2)) (stF_of (by omega) ((e y 1 (by decide)).symm.trans y2))
theorem NX.same (h : NX w) (e : wF w' = wF w) : NX w' := h.le (fun _ _ _ => by rw [e]) (fun _ => by rw [e]; exact Nat.le_refl _)
theorem stlN_F : ∀ n, wF (stlN w n) = wF w
  | 0 => rfl
  | n + 1 => (show wF (stl (stlN w n) n) = wF (stlN w n) from rfl).trans (stlN_F n)
theorem opGive_F {c f : Nat} (hf : f ≠ 3) : wF (opGive w i) c f = wF w c f := u2_nf hf
theorem opGive_L {c : Nat} : wF (opGive w i) c 3 ≤ wF w c 3 := by
  show u2 w.2.2.2.1 i 3 0 c 3 ≤ w.2.2.2.1 c 3
  by_cases e : c = i
  · rw [e, u2_eq, u1_eq]; exact Nat.zero_le _
  · rw [u2_ne e]; exact Nat.le_refl _
theorem NX.giv (h : NX w) : NX (opGive w i) := h.le (fun _ _ hf => opGive_F hf) (fun _ => opGive_L)
theorem meetF_L {a : Nat} : ∀ (k : Nat) {w : Rw}, wF (meetF i k w) a 3 ≤ wF w a 3 := by
  intro k
  induction k with
  | zero => exact fun {w} => Nat.le_refl _
  | succ k ih =>
    intro w
    unfold meetF
    by_cases h0 : wF w i 3 = 0
    · rw [if_pos h0]; exact Nat.le_refl _
    · rw [if_neg h0]
      cases hbs : bsF w (1 - wF w i 1) 17 with
      | none => exact Nat.le_refl _
      | some j =>
        show wF (if meF w j (wF w i 4) then meetF i k (if wF w i 1 = 1 then opTrade w i j (wF w j 4) else opTrade w j i (wF w j 4)) else w) a 3 ≤ _
        by_cases hme : meF w j (wF w i 4) = true
        · simp only [hme, if_true]
          by_cases hbid : wF w i 1 = 1
          · rw [if_pos hbid]; exact Nat.le_trans ih opTrade_L
          · rw [if_neg hbid]; exact Nat.le_trans ih opTrade_L
        · simp only [hme]
          exact Nat.le_refl _
/-- when it has been met: it is filled, or the best of the others is out of reach -/
theorem meet_done (hu : u ≤ 6000) (hi : i < 17) : ∀ (k : Nat) {w : Rw}, InvB w u → wF w i 1 ≤ 1 → cB w (1 - wF w i 1) < k → wF (meetF i k w) i 3 = 0 ∨ ∀ j, j < 17 → stF (meetF i k w) (1 - wF w i 1) j = true → meF (meetF i k w) j (wF w i 4) = false := by
  intro k
  induction k with
  | zero => exact fun {w} _ _ h => absurd h (Nat.not_lt_zero _)
  | succ k ih =>
    intro w hw hb hc
    have hI := hw.1
    unfold meetF
    by_cases h0 : wF w i 3 = 0
    · rw [if_pos h0]; exact Or.inl h0
    · rw [if_neg h0]
      cases hbs : bsF w (1 - wF w i 1) 17 with
      | none =>
        refine Or.inr fun j hj hs => ?_
        have := bsF_none 17 hbs j hj
        have hs' : stF w (1 - wF w i 1) j = true := hs
        rw [this] at hs'
        cases hs'
      | some j =>
        obtain ⟨hj, hst⟩ := bsF_lt _ hbs
        obtain ⟨hst1, hst2⟩ := stF_spec hst
        show wF (if meF w j (wF w i 4) then meetF i k (if wF w i 1 = 1 then opTrade w i j (wF w j 4) else opTrade w j i (wF w j 4)) else w) i 3 = 0 ∨ ∀ c, c < 17 → stF (if meF w j (wF w i 4) then meetF i k (if wF w i 1 = 1 then opTrade w i j (wF w j 4) else opTrade w j i (wF w j 4)) else w) (1 - wF w i 1) c = true → meF (if meF w j (wF w i 4) then meetF i k (if wF w i 1 = 1 then opTrade w i j (wF w j 4) else opTrade w j i (wF w j 4)) else w) c (wF w i 4) = false
        by_cases hme : meF w j (wF w i 4) = true
        · have gen : ∀ w1, InvB w1 u → (∀ a f, f ≠ 3 → wF w1 a f = wF w a f) → (∀ a, wF w1 a 3 ≤ wF w a 3) → (wF w1 i 3 = 0 ∨ wF w1 j 3 = 0) → (wF (meetF i k w1) i 3 = 0 ∨ ∀ c, c < 17 → stF (meetF i k w1) (1 - wF w i 1) c = true → meF (meetF i k w1) c (wF w i 4) = false) := fun w1 v1 e1 l1 d1 => by
            rcases d1 with d1 | d1
            · have := meetF_L (i := i) (a := i) k (w := w1)
              exact Or.inl (by omega)
            · have hlt : cB w1 (1 - wF w i 1) < cB w (1 - wF w i 1) := by
                unfold cB
                refine sm_lt (a := j) 17 hj (fun c _ => nB_le fun z => ?_) ?_
                · obtain ⟨z1, z2⟩ := stF_spec z
                  have := l1 c
                  exact stF_of (by omega) ((e1 c 1 (by decide)).symm.trans z2)
                · have hf : stF w1 (1 - wF w i 1) j = false := by
                    unfold stF
                    rw [decide_eq_false (by omega), Bool.false_and]
                  show nB (stF w1 (1 - wF w i 1) j) < nB (stF w (1 - wF w i 1) j)
                  rw [hf, hst]
                  decide
              have r := ih v1 (by rw [e1 i 1 (by decide)]; exact hb) (by rw [e1 i 1 (by decide)]; omega)
              rw [e1 i 1 (by decide), e1 i 4 (by decide)] at r
              exact r
          have meq := hme
          unfold meF at meq
          simp only [hme, if_true]
          by_cases hbid : wF w i 1 = 1
          · rw [if_pos hbid]
            rw [if_pos (by omega), decide_eq_true_eq] at meq
            have hij : i ≠ j := fun e => by rw [← e] at hst2; omega
            refine gen _ (hw.trade hi hj hbid (by omega) (by omega) hst1 meq (Nat.le_refl _)) (fun a f hf => opTrade_F hf) (fun a => opTrade_L) ?_
            rw [opTrade_f3, opTrade_f3, if_neg hij, if_pos rfl, if_pos rfl]
            omega
          · rw [if_neg hbid]
            rw [if_neg (by omega), decide_eq_true_eq] at meq
            have hij : i ≠ j := fun e => by rw [← e] at hst2; omega
            refine gen _ (hw.trade hj hi (by omega) (by omega) hst1 (by omega) (Nat.le_refl _) meq) (fun a f hf => opTrade_F hf) (fun a => opTrade_L) ?_
            rw [opTrade_f3, opTrade_f3, if_pos rfl, if_neg (Ne.symm hij), if_pos rfl]
            omega
        · have hf : meF w j (wF w i 4) = false := by simpa using hme
          simp only [hf, Bool.false_eq_true, if_false]
          refine Or.inr fun c hc2 hs => ?_
          obtain ⟨c1, c2⟩ := stF_spec hs
          by_cases e : c = j
          · rw [e]; exact hf
          · have hbe := beF_iff.mp (bsF_best hI.2.2.1 17 (Nat.le_refl _) hbs c hc2 hs e)
            cases hm : meF w c (wF w i 4) with
            | false => rfl
            | true =>
              exfalso
              refine hme ?_
              unfold meF at hm ⊢
              by_cases hk : wF w c 1 = 0
              · rw [if_pos hk, decide_eq_true_eq] at hm
                rw [if_pos (by omega), decide_eq_true_eq]
                omega
              · rw [if_neg hk, decide_eq_true_eq] at hm
                rw [if_neg (by omega), decide_eq_true_eq]
                omega
theorem NX.com {b k n p : Nat} (h : NX w) (hu : u + 1 ≤ 6000) (hi : i < 17) (hb : b ≤ 1) (hp : InvB (opPut w i b k n p) (u + 1)) : NX (opCome w i b k n p) := by
  obtain ⟨⟨f0, f1, f2, f3, f4⟩, fc, s6, s0⟩ := opPut_F (w := w) (i := i) (b := b) (k := k) (l := n) (p := p)
  have hb' : wF (opPut w i b k n p) i 1 ≤ 1 := by rw [f1]; exact hb
  have hc : cB (opPut w i b k n p) (1 - wF (opPut w i b k n p) i 1) < 17 := by
    have h1 := sm_lt (f := fun c => nB (stF (opPut w i b k n p) (1 - wF (opPut w i b k n p) i 1) c)) (g := fun _ => 1) (a := i) 17 hi (fun c _ => by
      show nB _ ≤ 1
      unfold nB
      split <;> omega) (by
      show nB (stF (opPut w i b k n p) (1 - wF (opPut w i b k n p) i 1) i) < 1
      unfold stF
      rw [decide_eq_false (show ¬ wF (opPut w i b k n p) i 1 = 1 - wF (opPut w i b k n p) i 1 by omega), Bool.and_false]
      decide)
    have e : sm (fun _ => 1) 17 = 17 := by simp only [sm]
    rw [e] at h1
    exact h1
  have K := (meetF_keeps (InvB.m hu) hi 17 hp hb').2.2
  have D := meet_done hu hi 17 hp hb' hc
  have l : ∀ a, wF (meetF i 17 (opPut w i b k n p)) a 3 ≤ wF (opPut w i b k n p) a 3 := fun a => meetF_L 17
  have main : NX (meetF i 17 (opPut w i b k n p)) := by
    rw [f1, f4] at D
    generalize hW : meetF i 17 (opPut w i b k n p) = W at *
    intro x y hx hy sx sy
    obtain ⟨x1, x2⟩ := stF_spec sx
    obtain ⟨y1, y2⟩ := stF_spec sy
    have lx := l x
    have ly := l y
    have kx := K x 1 (by decide)
    have ky := K y 1 (by decide)
    have px := K x 4 (by decide)
    have py := K y 4 (by decide)
    by_cases ex : x = i
    · rw [ex] at x1 x2 kx px
      rw [f1] at kx
      rw [f4] at px
      have b1 : b = 1 := by omega
      rcases D with D | D
      · omega
      · have hm := D y hy (by rw [b1]; exact sy)
        unfold meF at hm
        rw [if_pos y2, decide_eq_false_iff_not] at hm
        rw [ex, px]
        omega
    · by_cases ey : y = i
      · rw [ey] at y1 y2 ky py
        rw [f1] at ky
        rw [f4] at py
        have b0 : b = 0 := by omega
        rcases D with D | D
        · omega
        · have hm := D x hx (by rw [b0]; exact sx)
          unfold meF at hm
          rw [if_neg (by omega), decide_eq_false_iff_not] at hm
          rw [ey, py]
          omega
      · rw [px, py, fc x 4 ex, fc y 4 ey]
        rw [fc x 3 ex] at lx
        rw [fc y 3 ey] at ly
        exact h x y hx hy (stF_of (by omega) ((fc x 1 ex).symm.trans (kx.symm.trans x2))) (stF_of (by omega) ((fc y 1 ey).symm.trans (ky.symm.trans y2)))
  unfold opCome opEnd
  split
  · exact main.giv
  · exact main
end Nxs
/-- what holds of the town in a run of the law -/
def Good (w : Rw) (u : Nat) : Prop := Inv w u ∧ NX w
theorem Good.up {w : Rw} {u v : Nat} (h : Good w u) (huv : u ≤ v) : Good w v := ⟨h.1.up huv, h.2⟩
