/-! ===== the program and the model, side by side ===== -/
/-- the script: L ints xs -/
def SX (g : mG) (xs : Nat → Int32) (L : Nat) : Prop := gK g 2 = 10 ∧ gN g 2 = L ∧ ∀ j, j < L → gI g 2 j = xs j
/-- both hold the same -/
def LV (g : mG) (xs : Nat → Int32) (L u : Nat) : Prop := SX g xs L ∧ ∃ w hist st kept snap t n, MA g w hist st kept snap t n ∧ MB g w hist st kept snap t n ∧ Inv w u ∧ (∀ j, j < st → Inv (hist j) u) ∧ (kept = 1 → Inv snap u)
/-- what stands between the two calls: the answer, and that the model answers so -/
def PQ (g : mG) (xs : Nat → Int32) (L u : Nat) (W7 : mG → mQ → Prop) : mQ := fun r g' => ∃ a, r = some (.int a) ∧ ((∀ b, gK g' b = gK g b) ∧ SX g' xs L) ∧ W7 g' (fun r' g'' => r' = some (.int a) ∧ LV g'' xs L u)
section Prs
variable {g g' g'' : mG} {xs : Nat → Int32} {L u v : Nat} {w snap w' : Rw} {hist : Nat → Rw} {st kept n : Nat} {t : Nat → Nat}
theorem SX.mf (h : SX g xs L) (f : MF g g') : SX g' xs L := by
  obtain ⟨h1, h2, h3⟩ := h
  obtain ⟨f1, f2, _⟩ := f.2 2 (Or.inl rfl)
  exact ⟨(f.1 2).trans h1, f1.trans h2, fun j hj => by rw [f2]; exact h3 j hj⟩
theorem SX.fx (h : SX g xs L) (f : FX g g') : SX g' xs L := by
  obtain ⟨h1, h2, h3⟩ := h
  exact ⟨(f.1 2).trans h1, (f.2.1 2).trans h2, fun j hj => by rw [f.2.2.2.2 2 fun z => by unfold XD at z; omega]; exact h3 j hj⟩
theorem FX.fr (f : FX g g') : Fr XD g g' := ⟨f.1, fun b hb => ⟨f.2.1 b, f.2.2.2.2 b hb⟩, fun b _ _ => ⟨f.2.1 b, f.2.2.1 b⟩⟩
theorem JR.fx (h : JR g) (f : FX g g') : JR g' := h.same (fun c j _ _ => f.2.1 _) f.2.2.2.1.2 f.2.2.2.1.1
theorem MA.fx (h : MA g w hist st kept snap t n) (f : FX g g') : MA g' w hist st kept snap t n := by
  obtain ⟨W, N, S, H, hM, e⟩ := h
  refine ⟨W, N, S, H, hM.fr f.fr (fun b h1 h2 _ z => by unfold XD at z; omega) (fun T hT => (hM.2.2.2.1 T hT).fr f.fr hT.big fun b b1 b2 z => ?_) (hM.2.2.2.2.2.1.fr f.fr (fun z => by unfold XD at z; omega) fun z => by unfold XD at z; omega) (hM.2.2.2.2.2.2.2.1.fx f), e⟩
  have := hT.big
  unfold XD at z
  omega
theorem MB.mf (h : MB g w hist st kept snap t n) (f : MF g g') : MB g' w hist st kept snap t n := by
  obtain ⟨A, ⟨⟨h1, h2⟩, h3⟩, h4, ⟨h5, h6, h7⟩, h8⟩ := h
  have m : ∀ b, 40 ≤ b → b < 47 → mK b := fun b b1 b2 => Or.inr ⟨b1, by omega⟩
  have i40 := (f.2 40 (m 40 (by decide) (by decide))).2.1
  refine ⟨A, ⟨⟨(f.1 40).trans h1, fun j hj => ?_⟩, fun b b1 b2 => ?_⟩, h4.keep (by rw [i40]) (fun _ _ => rfl), ⟨by rw [i40]; exact h5, by rw [i40]; exact h6, h7⟩, h8⟩
  · rw [(f.2 40 (m 40 (by decide) (by decide))).2.2 (by rw [h1]; decide) j]
    exact h2 j hj
  · obtain ⟨k1, k2, k3⟩ := h3 b b1 b2
    obtain ⟨f1, f2, _⟩ := f.2 b (m b (by omega) b2)
    exact ⟨(f.1 b).trans k1, f1.trans k2, fun i hi => by rw [f2]; exact k3 i hi⟩
theorem MA.ch (h : MA g w hist st kept snap t n) : ChT t n := by
  obtain ⟨W, N, S, H, hM, _⟩ := h
  exact fun i hi => (hM.2.2.2.2.2.1.2.2.2.2.2.2 i hi).2
theorem hcn_inv (hw : Inv w u) (hh : ∀ j, j < st → Inv (hist j) u) : ∀ j, j < min (st + 1) 4 → Inv (hcn w hist j) u := fun j hj => by
  unfold hcn
  by_cases e : j = 0
  · rw [if_pos e]; exact hw
  · rw [if_neg e]; exact hh (j - 1) (by omega)
theorem LV.up (h : LV g xs L u) (huv : u ≤ v) : LV g xs L v := by
  obtain ⟨h1, w, hist, st, kept, snap, t, n, h2, h3, h4, h5, h6⟩ := h
  exact ⟨h1, w, hist, st, kept, snap, t, n, h2, h3, h4.up huv, fun j hj => (h5 j hj).up huv, fun hk => (h6 hk).up huv⟩
/-- nothing has changed -/
theorem PQ.same (h : LV g xs L u) {a : Int32} {W7 : mG → mQ → Prop} (huv : u ≤ v) (hq : W7 g (fun r' g'' => r' = some (.int a) ∧ LV g'' xs L v)) : PQ g xs L v W7 (some (.int a)) g := ⟨a, rfl, ⟨fun _ => rfl, h.1⟩, hq⟩
/-- an act is done by both -/
theorem LV.act (hS : SX g xs L) (hA : MA g' w' (hcn w hist) (min (st + 1) 4) kept snap t n) (f : MF g g') (F : FX g' g'') (hB : MB g'' w' (hcn w hist) (min (st + 1) 4) kept snap t n) (huv : u ≤ v) (hw' : Inv w' v) (hw : Inv w u) (hh : ∀ j, j < st → Inv (hist j) u) (hs : kept = 1 → Inv snap u) : LV g'' xs L v := ⟨(hS.mf f).fx F, w', _, _, kept, snap, t, n, hA.fx F, hB, hw', hcn_inv (hw.up huv) fun j hj => (hh j hj).up huv, fun hk => (hs hk).up huv⟩
theorem pr_issue {x y : Int32} (h : LV g xs L u) (hu : u + 9 ≤ 6000) : w_X6_issue [.ref 20, .int x, .int y] g (PQ g xs L (u + 9) (fun g' Q' => w_X7_issue [.ref 40, .int x, .int y] g' Q')) := by
  obtain ⟨hS, w, hist, st, kept, snap, t, n, hA, hB, hw, hh, hs⟩ := id h
  have tb := hw.1.tb (by omega)
  have h9 := h.up (show u ≤ u + 9 by omega)
  refine c_issue hA tb hw.1.1.1.1 (fun hno => PQ.same h (by omega) (d_issue1 hB hno ⟨rfl, h9⟩)) (fun k hk ev hno => ?_) (fun k m g1 hk ev ex m1 m2 hA1 f1 => ?_)
  · subst ev
    exact PQ.same h (by omega) (d_issue2 hB hk hno ⟨rfl, h9⟩)
  · subst ev
    subst ex
    exact ⟨_, rfl, ⟨f1.1, hS.mf f1⟩, d_issue3 (hB.mf f1) tb hw.1.1.1.1 hk m1 m2 fun g2 hB2 F2 => ⟨rfl, LV.act hS hA1 f1 F2 hB2 (by omega) ((hw.iss hk m2).up (by omega)) hw hh hs⟩⟩
theorem pr_fire {x y z : Int32} (h : LV g xs L u) (hu : u + 9 ≤ 6000) : w_X6_fire [.ref 20, .int x, .int y, .int z] g (PQ g xs L (u + 9) (fun g' Q' => w_X7_fire [.ref 40, .int x, .int y, .int z] g' Q')) := by
  obtain ⟨hS, w, hist, st, kept, snap, t, n, hA, hB, hw, hh, hs⟩ := id h
  have h9 := h.up (show u ≤ u + 9 by omega)
  refine c_fire hA (fun hno => PQ.same h (by omega) (d_fire1 hB hno ⟨rfl, h9⟩)) (fun k hk ev hno => ?_) (fun k m l g1 hk ev ex ey m1 m2 m3 hA1 f1 => ?_)
  · subst ev
    exact PQ.same h (by omega) (d_fire2 hB hk hno ⟨rfl, h9⟩)
  · subst ev
    subst ex
    subst ey
    exact ⟨_, rfl, ⟨f1.1, hS.mf f1⟩, d_fire3 (hB.mf f1) hk m1 m2 m3 fun g2 hB2 F2 => ⟨rfl, LV.act hS hA1 f1 F2 hB2 (by omega) ((hw.fir hk m2 m3).up (by omega)) hw hh hs⟩⟩
theorem pr_audit {x : Int32} (h : LV g xs L u) (hu : u + 9 ≤ 6000) : w_X6_audit [.ref 20, .int x] g (PQ g xs L (u + 9) (fun g' Q' => w_X7_audit [.ref 40, .int x] g' Q')) := by
  obtain ⟨hS, w, hist, st, kept, snap, t, n, hA, hB, hw, hh, hs⟩ := id h
  have tb := hw.1.tb (by omega)
  have h9 := h.up (show u ≤ u + 9 by omega)
  have le : ∀ k, k < 6 → wK w k 2 ≤ wK w k 1 := fun k hk => (hw.1.2.2.2.2 k hk).1
  refine c_audit hA tb le (fun hno => PQ.same h (by omega) (d_audit1 hB hno ⟨rfl, h9⟩)) (fun k hk ev h0 => ?_) (fun k m g1 hk ev em h0 hA1 f1 => ?_)
  · subst ev
    exact PQ.same h (by omega) (d_audit2 hB tb (le k hk) hk h0 ⟨rfl, h9⟩)
  · subst ev
    exact ⟨_, rfl, ⟨f1.1, hS.mf f1⟩, d_audit3 (hB.mf f1) tb (le k hk) hk em h0 fun g2 hB2 F2 => ⟨rfl, LV.act hS hA1 f1 F2 hB2 (by omega) ((hw.aud hk em).up (by omega)) hw hh hs⟩⟩
theorem pr_takeBack {x : Int32} (h : LV g xs L u) (hu : u + 9 ≤ 6000) : w_X6_takeBack [.ref 20, .int x] g (PQ g xs L (u + 9) (fun g' Q' => w_X7_takeBack [.ref 40, .int x] g' Q')) := by
  obtain ⟨hS, w, hist, st, kept, snap, t, n, hA, hB, hw, hh, hs⟩ := id h
  have tb := hw.1.tb (by omega)
  have h9 := h.up (show u ≤ u + 9 by omega)
  refine c_takeBack hA tb (fun hno => PQ.same h (by omega) (d_tb1 hB hno ⟨rfl, h9⟩)) (fun i g1 hi h0 ev hA1 f1 => ?_)
  subst ev
  exact ⟨_, rfl, ⟨f1.1, hS.mf f1⟩, d_tb2 (hB.mf f1) hw.1.1 tb hi h0 fun g2 hB2 F2 => ⟨rfl, LV.act hS hA1 f1 F2 hB2 (by omega) ((hw.giv hi).up (by omega)) hw hh hs⟩⟩
theorem pr_buyReserve {x y : Int32} (h : LV g xs L u) (hu : u + 9 ≤ 6000) : w_X6_buyReserve [.ref 20, .int x, .int y] g (PQ g xs L (u + 9) (fun g' Q' => w_X7_buyReserve [.ref 40, .int x, .int y] g' Q')) := by
  obtain ⟨hS, w, hist, st, kept, snap, t, n, hA, hB, hw, hh, hs⟩ := id h
  have tb := hw.1.tb (by omega)
  have h9 := h.up (show u ≤ u + 9 by omega)
  have hy := hw.1.1.1.1
  have hc := hw.1.2.1.2.1.2
  refine c_buyReserve hA tb hy hc (fun hno => PQ.same h (by omega) (d_buy1 hB hno ⟨rfl, h9⟩)) (fun k hk ev hno => ?_) (fun k m hk ev ex m1 m2 hf => ?_) (fun k m g1 hk ev ex m1 m2 r1 r2 hA1 f1 => ?_)
  · subst ev
    exact PQ.same h (by omega) (d_buy2 hB hk hno ⟨rfl, h9⟩)
  · subst ev
    subst ex
    exact PQ.same h (by omega) (d_buy34 hB tb hy hc hk m1 m2 (fun _ => ⟨rfl, h9⟩) fun r1 r2 => by omega)
  · subst ev
    subst ex
    exact ⟨_, rfl, ⟨f1.1, hS.mf f1⟩, d_buy34 (hB.mf f1) tb hy hc hk m1 m2 (fun z => by omega) fun _ _ g2 hB2 F2 => ⟨rfl, LV.act hS hA1 f1 F2 hB2 (by omega) ((hw.sell hk r1 r2).up (by omega)) hw hh hs⟩⟩
theorem pr_borrow {x y : Int32} (h : LV g xs L u) (hu : u + 9 ≤ 6000) : w_X6_borrow [.ref 20, .int x, .int y] g (PQ g xs L (u + 9) (fun g' Q' => w_X7_borrow [.ref 40, .int x, .int y] g' Q')) := by
  obtain ⟨hS, w, hist, st, kept, snap, t, n, hA, hB, hw, hh, hs⟩ := id h
  have tb := hw.1.tb (by omega)
  have h9 := h.up (show u ≤ u + 9 by omega)
  have lim := hw.1.lim (by omega)
  refine c_borrow hA tb lim (fun hno => PQ.same h (by omega) (d_bor1 hB hno ⟨rfl, h9⟩)) (fun k hk ev hno => ?_) (fun k m hk ev ex m1 m2 hf => ?_) (fun k m g1 hk ev ex m1 m2 r1 hA1 f1 => ?_)
  · subst ev
    exact PQ.same h (by omega) (d_bor2 hB hk hno ⟨rfl, h9⟩)
  · subst ev
    subst ex
    exact PQ.same h (by omega) (d_bor34 hB tb (lim k hk) hk m1 m2 (fun _ => ⟨rfl, h9⟩) fun r1 => by omega)
  · subst ev
    subst ex
    exact ⟨_, rfl, ⟨f1.1, hS.mf f1⟩, d_bor34 (hB.mf f1) tb (lim k hk) hk m1 m2 (fun z => by omega) fun _ g2 hB2 F2 => ⟨rfl, LV.act hS hA1 f1 F2 hB2 (by omega) ((hw.bor hk r1).up (by omega)) hw hh hs⟩⟩
theorem pr_set {x y : Int32} (h : LV g xs L u) (hu : u + 9 ≤ 6000) : w_X6_set [.ref 20, .int x, .int y] g (PQ g xs L (u + 9) (fun g' Q' => w_X7_set [.ref 40, .int x, .int y] g' Q')) := by
  obtain ⟨hS, w, hist, st, kept, snap, t, n, hA, hB, hw, hh, hs⟩ := id h
  have tb := hw.1.tb (by omega)
  have h9 := h.up (show u ≤ u + 9 by omega)
  refine c_set hA tb (fun hno => PQ.same h (by omega) (d_set1 hB hno ⟨rfl, h9⟩)) (fun s y hs' ev ex y1 y2 he => ?_) (fun s y g1 hs' ev ex y1 y2 hne hA1 f1 => ?_)
  · subst ev
    subst ex
    exact PQ.same h (by omega) (d_set23 hB tb hs' y1 y2 (fun _ => ⟨rfl, h9⟩) fun z => absurd he z)
  · subst ev
    subst ex
    exact ⟨_, rfl, ⟨f1.1, hS.mf f1⟩, d_set23 (hB.mf f1) tb hs' y1 y2 (fun z => absurd z hne) fun _ g2 hB2 F2 => ⟨rfl, LV.act hS hA1 f1 F2 hB2 (by omega) ((hw.set hs' y1 y2).up (by omega)) hw hh hs⟩⟩
theorem pr_endYear (h : LV g xs L u) (hu : u + 9 ≤ 6000) : w_X6_endYear [.ref 20] g (PQ g xs L (u + 9) (fun g' Q' => w_X7_endYear [.ref 40] g' Q')) := by
  obtain ⟨hS, w, hist, st, kept, snap, t, n, hA, hB, hw, hh, hs⟩ := id h
  have h9 := h.up (show u ≤ u + 9 by omega)
  have ss := hw.1.ss (by omega)
  have hy := hw.1.1.1.1
  refine c_endYear hA ss hy (fun h1 => PQ.same h (by omega) (d_year1 hB (by omega) ⟨rfl, h9⟩)) (fun g1 h1 hA1 f1 => ?_)
  exact ⟨_, rfl, ⟨f1.1, hS.mf f1⟩, d_year2 (hB.mf f1) ss hw.1.1.1.2.1 h1 fun g2 hB2 F2 => ⟨rfl, LV.act hS hA1 f1 F2 hB2 (by omega) ((hw.yea h1).up (by omega)) hw hh hs⟩⟩
theorem pr_clearText (h : LV g xs L u) (hu : u + 9 ≤ 6000) : w_X6_clearText [.ref 20] g (PQ g xs L (u + 9) (fun g' Q' => w_X7_clearText [.ref 40] g' Q')) := by
  obtain ⟨hS, w, hist, st, kept, snap, t, n, hA, hB, hw, hh, hs⟩ := id h
  exact c_clearText hA fun g1 hA1 f1 => ⟨_, rfl, ⟨f1.1, hS.mf f1⟩, d_clearText (hB.mf f1) fun g2 hB2 F2 => ⟨rfl, (hS.mf f1).fx F2, w, hist, st, kept, snap, t, 0, hA1.fx F2, hB2, hw.up (by omega), fun j hj => (hh j hj).up (by omega), fun hk => (hs hk).up (by omega)⟩⟩
theorem pr_type {c : Nat} (h : LV g xs L u) (hu : u + 9 ≤ 6000) (hc : c < 65536) (hn : narrow .char (.int (nI c)) = .int (nI c)) : w_X6_type [.ref 20, .int (nI c)] g (PQ g xs L (u + 9) (fun g' Q' => w_X7_type [.ref 40, .int (nI c)] g' Q')) := by
  obtain ⟨hS, w, hist, st, kept, snap, t, n, hA, hB, hw, hh, hs⟩ := id h
  have h9 := h.up (show u ≤ u + 9 by omega)
  refine c_type hA hc hn (fun hno => PQ.same h (by omega) (d_type hB (fun _ => ⟨rfl, h9⟩) fun g2 h2 => absurd h2 hno)) (fun g1 h1 hA1 f1 => ?_)
  exact ⟨_, rfl, ⟨f1.1, hS.mf f1⟩, d_type (hB.mf f1) (fun z => absurd h1 z) fun g2 _ hB2 F2 => ⟨rfl, (hS.mf f1).fx F2, w, hist, st, kept, snap, _, _, hA1.fx F2, hB2, hw.up (by omega), fun j hj => (hh j hj).up (by omega), fun hk => (hs hk).up (by omega)⟩⟩
theorem pr_undo (h : LV g xs L u) (hu : u + 9 ≤ 6000) : w_X6_undo [.ref 20] g (PQ g xs L (u + 9) (fun g' Q' => w_X7_undo [.ref 40] g' Q')) := by
  obtain ⟨hS, w, hist, st, kept, snap, t, n, hA, hB, hw, hh, hs⟩ := id h
  have h9 := h.up (show u ≤ u + 9 by omega)
  refine c_undo hA (fun h0 => PQ.same h (by omega) (d_undo hB (fun _ => ⟨rfl, h9⟩) fun g2 h2 => absurd h0 h2)) (fun g1 h1 hA1 f1 => ?_)
  exact ⟨_, rfl, ⟨f1.1, hS.mf f1⟩, d_undo (hB.mf f1) (fun z => absurd z h1) fun g2 _ hB2 F2 => ⟨rfl, (hS.mf f1).fx F2, _, _, _, kept, snap, t, n, hA1.fx F2, hB2, (hh 0 (by omega)).up (by omega), fun j hj => (hh (j + 1) (by omega)).up (by omega), fun hk => (hs hk).up (by omega)⟩⟩
theorem pr_keep (h : LV g xs L u) (hu : u + 9 ≤ 6000) : w_X6_keep [.ref 20] g (PQ g xs L (u + 9) (fun g' Q' => w_X7_keep [.ref 40] g' Q')) := by
  obtain ⟨hS, w, hist, st, kept, snap, t, n, hA, hB, hw, hh, hs⟩ := id h
  exact c_keep hA fun g1 hA1 f1 => ⟨_, rfl, ⟨f1.1, hS.mf f1⟩, d_keep (hB.mf f1) fun g2 hB2 F2 => ⟨rfl, (hS.mf f1).fx F2, w, hist, st, 1, w, t, n, hA1.fx F2, hB2, hw.up (by omega), fun j hj => (hh j hj).up (by omega), fun _ => hw.up (by omega)⟩⟩
theorem pr_restore (h : LV g xs L u) (hu : u + 9 ≤ 6000) : w_X6_restore [.ref 20] g (PQ g xs L (u + 9) (fun g' Q' => w_X7_restore [.ref 40] g' Q')) := by
  obtain ⟨hS, w, hist, st, kept, snap, t, n, hA, hB, hw, hh, hs⟩ := id h
  have h9 := h.up (show u ≤ u + 9 by omega)
  refine c_restore hA (fun h0 => PQ.same h (by omega) (d_restore hB (fun _ => ⟨rfl, h9⟩) fun g2 h2 => by omega)) (fun g1 h1 hA1 f1 => ?_)
  exact ⟨_, rfl, ⟨f1.1, hS.mf f1⟩, d_restore (hB.mf f1) (fun z => by omega) fun g2 _ hB2 F2 => ⟨rfl, LV.act hS hA1 f1 F2 hB2 (by omega) ((hs h1).up (by omega)) hw hh hs⟩⟩
theorem pr_kiln {x y : Int32} (h : LV g xs L u) (hu : u + 9 ≤ 6000) : w_X6_kiln [.ref 20, .int x, .int y] g (PQ g xs L (u + 9) (fun g' Q' => w_X7_kiln [.ref 40, .int x, .int y] g' Q')) := by
  obtain ⟨hS, w, hist, st, kept, snap, t, n, hA, hB, hw, hh, hs⟩ := id h
  have tb := hw.1.tb (by omega)
  have h9 := h.up (show u ≤ u + 9 by omega)
  refine c_kiln hA tb (fun hno => PQ.same h (by omega) (d_kiln1 hB hno ⟨rfl, h9⟩)) (fun k hk ev hno => ?_) (fun k s hk ev s1 s2 ex => ?_) (fun k r hk ev ex hr => ?_)
  · subst ev
    exact PQ.same h (by omega) (d_kiln2 hB hk hno ⟨rfl, h9⟩)
  · subst ev
    subst ex
    exact PQ.same h (by omega) (d_kiln3 hB tb hw.1.1 hk s1 s2 ⟨rfl, h9⟩)
  · subst ev
    subst ex
    exact PQ.same h (by omega) (d_kiln4 hB tb hw.1.1 hk hr ⟨rfl, h9⟩)
theorem pr_ofYear {x y : Int32} (h : LV g xs L u) (hu : u + 9 ≤ 6000) : w_X6_ofYear [.ref 20, .int x, .int y] g (PQ g xs L (u + 9) (fun g' Q' => w_X7_ofYear [.ref 40, .int x, .int y] g' Q')) := by
  obtain ⟨hS, w, hist, st, kept, snap, t, n, hA, hB, hw, hh, hs⟩ := id h
  have h9 := h.up (show u ≤ u + 9 by omega)
  have hy := hw.1.1.1.1
  refine c_ofYear hA hy (fun hno => PQ.same h (by omega) (d_ofYear1 hB hno ⟨rfl, h9⟩)) (fun k hk ev hno => ?_) (fun k y hk ev ex hy2 => ?_)
  · subst ev
    exact PQ.same h (by omega) (d_ofYear2 hB hy hk hno ⟨rfl, h9⟩)
  · subst ev
    subst ex
    exact PQ.same h (by omega) (d_ofYear3 hB hy hk hy2 ⟨rfl, h9⟩)
theorem pr_order {b : Nat} {x y : Int32} (hb : b ≤ 1) (h : LV g xs L u) (hu : u + 9 ≤ 6000) : w_X6_order [.ref 20, .int (nI b), .int x, .int y] g (PQ g xs L (u + 9) (fun g' Q' => w_X7_order [.ref 40, .int (nI b), .int x, .int y] g' Q')) := by
  obtain ⟨hS, w, hist, st, kept, snap, t, n, hA, hB, hw, hh, hs⟩ := id h
  have tb := hw.1.tb (by omega)
  have h9 := h.up (show u ≤ u + 9 by omega)
  refine c_order hb hA tb (fun hno => PQ.same h (by omega) (d_order1 hB hno ⟨rfl, h9⟩)) (fun s hv hs' ex hno => ?_) (fun s i hv hs' ex hi hst ev => ?_)
  · subst ex
    exact PQ.same h (by omega) (d_order2 hb hB tb hw.1.1 hv hs' hno ⟨rfl, h9⟩)
  · subst ex
    subst ev
    exact PQ.same h (by omega) (d_order3 hb hB tb hw.1.1 hv hs' hi hst ⟨rfl, h9⟩)
theorem pr_depth {b : Nat} {x : Int32} (hb : b ≤ 1) (h : LV g xs L u) (hu : u + 9 ≤ 6000) : w_X6_depth [.ref 20, .int (nI b), .int x] g (PQ g xs L (u + 9) (fun g' Q' => w_X7_depth [.ref 40, .int (nI b), .int x] g' Q')) := by
  obtain ⟨hS, w, hist, st, kept, snap, t, n, hA, hB, hw, hh, hs⟩ := id h
  have tb := hw.1.tb (by omega)
  have h9 := h.up (show u ≤ u + 9 by omega)
  refine c_depth hb hA tb (fun hno => PQ.same h (by omega) (d_depth1 hB hno ⟨rfl, h9⟩)) (fun p ex p1 p2 => ?_)
  subst ex
  exact PQ.same h (by omega) (d_depth2 hb hB tb hw.1.1 p1 p2 ⟨rfl, h9⟩)
theorem pr_count {x : Int32} (h : LV g xs L u) (hu : u + 9 ≤ 6000) : w_X6_count [.ref 20, .int x] g (PQ g xs L (u + 9) (fun g' Q' => w_X7_count [.ref 40, .int x] g' Q')) := by
  obtain ⟨hS, w, hist, st, kept, snap, t, n, hA, hB, hw, hh, hs⟩ := id h
  have tb := hw.1.tb (by omega)
  have h9 := h.up (show u ≤ u + 9 by omega)
  have t78 := hw.1.2.2.1.2.1
  refine c_count hA tb (fun hno => PQ.same h (by omega) (d_count1 hB hno ⟨rfl, h9⟩)) (fun ex h0 => ?_) (fun ex h0 => ?_) (fun s s1 s2 ex => ?_)
  · subst ex
    exact PQ.same h (by omega) (d_count2 hB tb (t78.mp h0) ⟨rfl, h9⟩)
  · subst ex
    exact PQ.same h (by omega) (d_count3 hB tb (fun z => h0 (t78.mpr z)) ⟨rfl, h9⟩)
  · subst ex
    exact PQ.same h (by omega) (d_count4 hB tb hw.1.1 s1 s2 ⟨rfl, h9⟩)
end Prs
