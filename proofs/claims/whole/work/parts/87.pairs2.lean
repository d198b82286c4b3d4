/-! ===== side by side: orders ===== -/
section Pr2
variable {g : mG} {xs : Nat → Int32} {L u V : Nat} {w : Rw}
theorem InvB.ia : ∀ w, InvB w V → InvA w := fun _ h => h.1
theorem Inv.pre (h : Inv w u) (hu : u + 1 ≤ V) (hV : V ≤ 6000) {b : Nat} (hb : b ≤ 1) : PreO (fun w => InvB w V) w b := ⟨h.1.tb (by omega), h.1.2.1.2.1.2, h.free, fun k m p i hk m1 m2 p1 p2 y1 y2 hi h0 => (h.1.put hb hk m1 m2 p1 p2 y1 y2 hi h0).up hu⟩
theorem pr_ord {b : Nat} {x y z : Int32} (hb : b ≤ 1) (h : LV g xs L u) (hu : u + 9 ≤ 6000) : w_X6_oneComes [.ref 20, .int (nI b), .int x, .int y, .int z] g (PQ g xs L (u + 9) (fun g' Q' => w_X7_ordered [.ref 40, .int (nI b), .int x, .int y, .int z] g' Q')) := by
  obtain ⟨hS, w, hist, st, kept, snap, t, n, hA, hB, hw, hh, hs⟩ := id h
  have tb := hw.1.tb (by omega)
  have h9 := h.up (show u ≤ u + 9 by omega)
  obtain ⟨_, hc, hfree, hput⟩ := hw.pre (V := u + 1) (Nat.le_refl _) (by omega) hb
  have hI := InvB.m (u := u + 1) (by omega)
  refine c_oneComes hI hb hA tb hc hfree hput (fun hno => PQ.same h (by omega) (d_ord1 hB hno ⟨rfl, h9⟩)) (fun k hk ev hno => ?_) (fun k n' p' hk ev ex ep n1 n2 p1 p2 y1 y2 => ?_) (fun k m p' i g1 hk ev ex ep m1 m2 p1 p2 y1 y2 hi h0 hA1 f1 => ?_)
  · subst ev
    exact PQ.same h (by omega) (d_ord2 hB tb hc hk hno ⟨rfl, h9⟩)
  · subst ev
    subst ex
    subst ep
    exact PQ.same h (by omega) (d_ord4 hB hw.1.1 tb hb hc hk n1 n2 p1 p2 y1 y2 ⟨rfl, h9⟩)
  · subst ev
    subst ex
    subst ep
    exact ⟨_, rfl, ⟨f1.1, hS.mf f1⟩, d_ord3 hI InvB.ia (hB.mf f1) hw.1.1 tb hb hc hk m1 m2 p1 p2 y1 y2 hi h0 (hput k m p' i hk m1 m2 p1 p2 y1 y2 hi h0) fun g2 hB2 F2 => ⟨rfl, LV.act hS hA1 f1 F2 hB2 (by omega) ((hw.com (by omega) hb hk m1 m2 p1 p2 y1 y2 hi h0).up (by omega)) hw hh hs⟩⟩
theorem pr_bid {x y z : Int32} (h : LV g xs L u) (hu : u + 9 ≤ 6000) : w_X6_bid [.ref 20, .int x, .int y, .int z] g (PQ g xs L (u + 9) (fun g' Q' => w_X7_bid [.ref 40, .int x, .int y, .int z] g' Q')) := by
  have k7 : gK g 20 = 7 := by
    obtain ⟨_, w, hist, st, kept, snap, t, n, hA, _⟩ := h
    obtain ⟨N, _, ⟨a1, _⟩, _⟩ := hA.now
    exact a1
  have k8 : gK g 40 = 8 := by
    obtain ⟨_, w, hist, st, kept, snap, t, n, _, hB, _⟩ := h
    exact hB.k40
  refine c_bid k7 (wm_up lo_X6_oneComes (pr_ord (b := 1) (Nat.le_refl 1) h hu) fun r g1 ⟨a, er, ⟨hk, hS⟩, h7⟩ => ?_)
  subst er
  rw [bid_end]
  exact ⟨a, rfl, ⟨hk, hS⟩, d_bid ((hk 40).trans k8) fun Q' hQ => wm_up lo_X7_ordered h7 fun r' g2 ⟨e, hL⟩ => by
    subst e
    exact hQ a g2 ⟨rfl, hL⟩⟩
theorem pr_ask {x y z : Int32} (h : LV g xs L u) (hu : u + 9 ≤ 6000) : w_X6_ask [.ref 20, .int x, .int y, .int z] g (PQ g xs L (u + 9) (fun g' Q' => w_X7_ask [.ref 40, .int x, .int y, .int z] g' Q')) := by
  have k7 : gK g 20 = 7 := by
    obtain ⟨_, w, hist, st, kept, snap, t, n, hA, _⟩ := h
    obtain ⟨N, _, ⟨a1, _⟩, _⟩ := hA.now
    exact a1
  have k8 : gK g 40 = 8 := by
    obtain ⟨_, w, hist, st, kept, snap, t, n, _, hB, _⟩ := h
    exact hB.k40
  refine c_ask k7 (wm_up lo_X6_oneComes (pr_ord (b := 0) (Nat.zero_le 1) h hu) fun r g1 ⟨a, er, ⟨hk, hS⟩, h7⟩ => ?_)
  subst er
  rw [ask_end]
  exact ⟨a, rfl, ⟨hk, hS⟩, d_ask ((hk 40).trans k8) fun Q' hQ => wm_up lo_X7_ordered h7 fun r' g2 ⟨e, hL⟩ => by
    subst e
    exact hQ a g2 ⟨rfl, hL⟩⟩
/-- the numbers of a line are small -/
def LnB (l : Ln) : Prop := l.1 ≤ 1 ∧ l.2.1 < 2 ^ 28 ∧ l.2.2.1 < 2 ^ 28 ∧ l.2.2.2 < 2 ^ 28
theorem z28 : (0 : Nat) < 2 ^ 28 := by decide
theorem rdL_b {t : Nat → Nat} {n p : Nat} (hp : p ≤ n) : LnB (rdL t n p).2.2 := by
  by_cases h1 : p < n ∧ (t p = 98 ∨ t p = 97)
  · by_cases hd : p + 1 < n ∧ 48 ≤ t (p + 1) ∧ t (p + 1) ≤ 53
    · by_cases h3 : p + 2 < n ∧ t (p + 2) = 58
      · by_cases h4 : (rdN t n 999 60 (p + 3) 0).2 ≠ 0 ∧ (rdN t n 999 60 (p + 3) 0).1 < n ∧ t (rdN t n 999 60 (p + 3) 0).1 = 64
        · rw [rdL_5 h1 hd h3 h4]
          have r1 := rdN_le (t := t) (n := n) (most := 999) 60 (p + 3) 0 (by omega) (by omega)
          have r2 := rdN_le (t := t) (n := n) (most := 500) 60 ((rdN t n 999 60 (p + 3) 0).1 + 1) 0 (by omega) (by omega)
          refine ⟨?_, ?_, ?_, ?_⟩
          · show nB _ ≤ 1
            unfold nB
            split <;> omega
          · show t (p + 1) - 48 < 2 ^ 28
            omega
          · show (rdN t n 999 60 (p + 3) 0).2 < 2 ^ 28
            omega
          · show (rdN t n 500 60 ((rdN t n 999 60 (p + 3) 0).1 + 1) 0).2 < 2 ^ 28
            omega
        · rw [rdL_4 h1 hd h3 h4]; exact ⟨Nat.zero_le 1, z28, z28, z28⟩
      · rw [rdL_3 h1 hd h3]; exact ⟨Nat.zero_le 1, z28, z28, z28⟩
    · rw [rdL_2 h1 hd]; exact ⟨Nat.zero_le 1, z28, z28, z28⟩
  · rw [rdL_1 h1]; exact ⟨Nat.zero_le 1, z28, z28, z28⟩
theorem rdA_b {t : Nat → Nat} {n : Nat} : ∀ (f p : Nat), p ≤ n → ∀ l ∈ (rdA t n f p).2, LnB l
  | 0, p, _, l, hl => absurd hl List.not_mem_nil
  | f + 1, p, hp, l, hl => by
    have hle := rdL_le (t := t) hp
    unfold rdA at hl
    split at hl
    · split at hl
      · rw [List.mem_singleton] at hl
        rw [hl]
        exact rdL_b hp
      · split at hl
        · next h2 =>
          rcases List.mem_cons.mp hl with e | e
          · rw [e]; exact rdL_b hp
          · exact rdA_b f ((rdL t n p).2.1 + 1) (by omega) l e
        · exact absurd hl List.not_mem_nil
    · exact absurd hl List.not_mem_nil
theorem ord_run (hV : V ≤ 6000) : ∀ (Ls : List Ln) {w : Rw} {u acc : Nat} {K : Rw → Nat → Prop} {E : Int32 → Prop}, (∀ l ∈ Ls, LnB l) → Inv w u → u + Ls.length ≤ V →
    (∀ w' acc', Inv w' V → RunP (fun w => InvB w V) Ls w acc w' acc' → K w' acc') → (∀ e, ErrP (fun w => InvB w V) Ls w e → E e) → OrdP (fun w => InvB w V) Ls w acc K E
  | [], w, u, acc, K, E, _, hw, hu, hK, _ => hK w acc (hw.up (by simpa using hu)) ⟨rfl, rfl⟩
  | l :: Ls, w, u, acc, K, E, hb, hw, hu, hK, hE => by
    simp only [List.length_cons] at hu
    have hl := hb l List.mem_cons_self
    have hpre := hw.pre (V := V) (b := l.1) (by omega) hV hl.1
    have lo : LnO l w := ⟨hl, hw.1.1, hpre.1, hpre.2.1⟩
    obtain ⟨b1, b2, b3, b4⟩ := id hl
    refine ⟨b1, by omega, by omega, by omega, hpre, fun h1 => hE _ ⟨lo, Or.inl ⟨h1, rfl⟩⟩, fun h1 h2 => hE _ ⟨lo, Or.inr (Or.inl ⟨h1, fun z => h2 z.2, rfl⟩)⟩, fun h1 m1 m2 p1 p2 y1 y2 => hE _ ⟨lo, Or.inr (Or.inr (Or.inl ⟨⟨h1, ⟨m1, m2⟩, p1, p2⟩, ?_, rfl⟩))⟩, fun h1 m1 m2 p1 p2 y1 y2 i hi h0 => ?_⟩
    · have : l.1 = 1 ∨ l.1 = 0 := by omega
      rcases this with e | e
      · exact Or.inl ⟨e, y1 e⟩
      · exact Or.inr ⟨e, y2 e⟩
    · have hp := hpre.2.2.2 l.2.1 l.2.2.1 l.2.2.2 i h1 m1 m2 p1 p2 y1 y2 hi h0
      exact ord_run hV Ls (fun l' hl' => hb l' (List.mem_cons_of_mem _ hl')) (hw.com (by omega) b1 h1 m1 m2 p1 p2 y1 y2 hi h0) (by omega) (fun w' acc' hw' hr => hK w' acc' hw' ⟨lo, ⟨h1, ⟨m1, m2⟩, p1, p2⟩, ⟨y1, y2⟩, i, hi, h0, hp, hr⟩) fun e he => hE e ⟨lo, Or.inr (Or.inr (Or.inr ⟨⟨h1, ⟨m1, m2⟩, p1, p2⟩, ⟨y1, y2⟩, i, hi, h0, hp, he⟩))⟩
theorem pr_orderAll (h : LV g xs L u) (hu : u + 9 ≤ 6000) : w_X6_orderAll [.ref 20] g (PQ g xs L (u + 9) (fun g' Q' => w_X7_orderAll [.ref 40] g' Q')) := by
  obtain ⟨hS, w, hist, st, kept, snap, t, n, hA, hB, hw, hh, hs⟩ := id h
  have hI := InvB.m (u := u + 9) hu
  have hT := hA.ch
  have fin : ∀ {g1 g2 : mG}, MA g1 w hist st kept snap t n → MF g g1 → MB g2 w hist st kept snap t n → FX g1 g2 → LV g2 xs L (u + 9) := fun {g1 g2} hA1 f1 hB2 F2 => ⟨(hS.mf f1).fx F2, w, hist, st, kept, snap, t, n, hA1.fx F2, hB2, hw.up (by omega), fun j hj => (hh j hj).up (by omega), fun hk => (hs hk).up (by omega)⟩
  refine c_orderAll hI hA (fun p g1 hr hA1 f1 => ?_) (fun hr => ?_)
  · exact ⟨_, rfl, ⟨f1.1, hS.mf f1⟩, d_all1 (hB.mf f1) hT hr fun g2 hB2 F2 => ⟨rfl, fin hA1 f1 hB2 F2⟩⟩
  · refine ord_run hu (rdA t n 9 0).2 (rdA_b 9 0 (Nat.zero_le _)) hw (by have := rdA_len (t := t) (n := n) 9 0; omega) (fun w' acc' hw' hrun g1 hA1 f1 => ?_) fun e he g1 hA1 f1 => ?_
    · exact ⟨_, rfl, ⟨f1.1, hS.mf f1⟩, d_all3 hI InvB.ia (hB.mf f1) hT hr hrun fun g2 hB2 F2 => ⟨rfl, LV.act hS hA1 f1 F2 hB2 (by omega) hw' hw hh hs⟩⟩
    · exact ⟨_, rfl, ⟨f1.1, hS.mf f1⟩, d_all2 hI InvB.ia (hB.mf f1) hT hr he fun g2 hB2 F2 => ⟨rfl, fin hA1 f1 hB2 F2⟩⟩
end Pr2
