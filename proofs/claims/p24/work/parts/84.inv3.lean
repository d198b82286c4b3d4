/-! ===== what the end of a year keeps ===== -/
section Iv3
variable {w : Rw} {u k : Nat}
theorem stl_k {f : Nat} : wK (stl w k) k f = if f = 4 then 0 else if f = 3 then 0 else if f = 2 then 0 else if f = 1 then 0 else if f = 5 then lkN w k else if f = 6 then wK w k 6 + wiN w (wK w k 3) else if f = 0 then wK w k 0 - coN w k else wK w k f := by
  show u2 (u2 (u2 (u2 (u2 (u2 (u2 w.2.1 k 0 _) k 6 _) k 5 _) k 1 _) k 2 _) k 3 _) k 4 _ k f = _
  rw [u2k, u2k, u2k, u2k, u2k, u2k, u2k]
  rfl
theorem Inv.stl1 (h : Inv w u) (hk : k < 6) : Inv (stl w k) u := by
  obtain ⟨⟨hA, hI, hO, ⟨⟨c1, c2⟩, ⟨c3, c4, c5⟩, c6, c7⟩, hK⟩, hc⟩ := h
  obtain ⟨k1, k2, k3, k4⟩ := hK k hk
  have s14 := hI.2.2.2.1
  have hob : obN w k ≤ wK w k 3 := Nat.min_le_left _ _
  have hoo : ooN w k ≤ rt (wP w k) := Nat.min_le_left _ _
  have hlk : lkN w k ≤ duN w k := by unfold lkN; omega
  have hdu : duN w k = wK w k 2 + wK w k 4 + wK w k 5 := rfl
  have hco : coN w k ≤ wK w k 0 := Nat.min_le_left _ _
  have hwi : wiN w (wK w k 3) ≤ 2 * wK w k 3 := by
    have : wK w k 3 * (100 + wS w 14) ≤ wK w k 3 * 200 := Nat.mul_le_mul_left _ (by omega)
    unfold wiN
    omega
  have ec := sm_upd (f := fun c => wK w c 0) (g := fun c => wK (stl w k) c 0) (a := k) 6 hk (fun c _ hne => stl_K hne)
  have ek := sm_upd (f := fun c => wK w c 1) (g := fun c => wK (stl w k) c 1) (a := k) 6 hk (fun c _ hne => stl_K hne)
  have ep := sm_upd (f := fun c => rt (wP w c)) (g := fun c => rt (wP (stl w k) c)) (a := k) 6 hk (fun c _ hne => by
    show rt (wP (stl w k) c) = rt (wP w c)
    rw [stl_P hne])
  have pk : wP (stl w k) k = rsu (wP w k) (ooN w k) := ur_eq
  rw [pk, rt_rsu hoo] at ep
  have ec' : cS (stl w k) + wK w k 0 = cS w + (wK w k 0 - coN w k) := by
    have e0 : wK (stl w k) k 0 = wK w k 0 - coN w k := stl_k
    rw [e0] at ec
    exact ec
  have ek' : kS (stl w k) + wK w k 1 = kS w := by
    have e0 : wK (stl w k) k 1 = 0 := stl_k
    rw [e0] at ek
    exact ek
  have ep' : pS (stl w k) + rt (wP w k) = pS w + (rt (wP w k) - ooN w k) := ep
  refine ⟨⟨hA.same rfl rfl (ur_z hA.1.2.1 fun y hy => ?_) rfl rfl, hI, hO, ⟨⟨?_, ?_⟩, ⟨c3, c4, ?_⟩, c6, c7⟩, fun c hc' => ?_⟩, hc⟩
  · show wP w k y - _ = 0
    rw [hA.1.2.1 k hk y hy, Nat.zero_sub]
  · show cS (stl w k) + hS w + (wS w 9 + coN w k) + wS w 10 = 6000
    omega
  · show pS (stl w k) + oS w + (wS w 2 + ooN w k) = wS w 1 + wS w 5
    omega
  · show (wS w 3 + obN w k) + kS (stl w k) ≤ 999 * u
    omega
  · by_cases e : c = k
    · subst e
      have e1 : wK (stl w c) c 1 = 0 := stl_k
      have e2 : wK (stl w c) c 2 = 0 := stl_k
      have e3 : wK (stl w c) c 3 = 0 := stl_k
      have e4 : wK (stl w c) c 4 = 0 := stl_k
      have e5 : wK (stl w c) c 5 = lkN w c := stl_k
      have e6 : wK (stl w c) c 6 = wK w c 6 + wiN w (wK w c 3) := stl_k
      rw [e1, e2, e3, e4, e5, e6]
      omega
    · rw [stl_K e, stl_K e, stl_K e, stl_K e, stl_K e, stl_K e]
      exact hK c hc'
theorem Inv.stln (h : Inv w u) : ∀ n, n ≤ 6 → Inv (stlN w n) u
  | 0, _ => h
  | n + 1, hn => (Inv.stln h n (by omega)).stl1 (by omega)
theorem Inv.yea (h : Inv w u) (hy : wS w 0 < 999) : Inv (opYear w) (u + 1) := by
  have h6 := (h.stln 6 (Nat.le_refl 6)).up (show u ≤ u + 1 by omega)
  have e0 : wS (stlN w 6) 0 = wS w 0 := stlN_S (by decide) (by decide) (by decide) 6
  unfold opYear
  generalize stlN w 6 = v at *
  obtain ⟨⟨⟨⟨y1, y2, y3⟩, o1, o2, o3⟩, hI, hO, hC, hK⟩, hc⟩ := h6
  refine ⟨⟨⟨⟨?_, fun k hk y hy => y2 k hk y ?_, fun i hi y hy => y3 i hi y ?_⟩, o1, o2, o3⟩, hI, hO, hC, hK⟩, hc⟩
  · show wS w 0 + 1 < 1000
    omega
  · have : wS w 0 + 1 < y := hy
    omega
  · have : wS w 0 + 1 < y := hy
    omega
theorem w0R_inv : Inv w0R 0 := by
  have z : ∀ n, sm (fun _ => 0) n = 0 := fun n => sm_0 n fun _ _ => rfl
  have rz : rt (fun _ => 0) = 0 := z 2000
  have e1 : cS w0R = 6000 := rfl
  have e2 : kS w0R = 0 := rfl
  have e3 : pS w0R = 0 := sm_0 6 fun _ _ => rz
  have e4 : oS w0R = 0 := sm_0 17 fun _ _ => rz
  have e5 : hS w0R = 0 := rfl
  refine ⟨⟨⟨⟨by decide, fun _ _ _ _ => rfl, fun _ _ _ _ => rfl⟩, fun i hi => ⟨Nat.zero_le 1, (show (0 : Nat) < 6 by decide), rz⟩, fun i j _ _ h => absurd h (Nat.lt_irrefl 0), fun i _ h => absurd h (Nat.lt_irrefl 0)⟩, ⟨by decide, by decide, by decide, by decide, by decide⟩, ⟨fun i _ => ⟨Nat.le_refl 0, Nat.zero_le 999, Nat.zero_le 500, fun h => absurd h (Nat.lt_irrefl 0)⟩, ⟨fun _ => rfl, fun _ => rfl⟩, by decide⟩, ⟨⟨?_, ?_⟩, ⟨by decide, by decide, ?_⟩, by decide, ?_⟩, fun k _ => ⟨Nat.le_refl 0, Nat.le_refl 0, Nat.le_refl 0, Nat.le_refl 0⟩⟩, ?_⟩
  · rw [e1, e5]; decide
  · rw [e3, e4]; decide
  · rw [e2]; decide
  · rw [e4]; decide
  · show sm (fun _ => 0) 17 ≤ 16
    rw [z]; decide
end Iv3
