/-! ===== an act is a function of the town: its answer, and the town then ===== -/
def ActO (w : Rw) (u : Nat) (spec : mS) (args : List Value) : Prop := ∃ v : Int32,
  (v < 0 ∧ ∀ (g : mG) (hist : Nat → Rw) (st kept : Nat) (snap : Rw) (t : Nat → Nat) (n : Nat) (Q : mQ), MA g w hist st kept snap t n → Q (some (.int v)) g → spec args g Q) ∨
  (0 ≤ v ∧ ∃ w', Good w' (u + 1) ∧ ∀ (g : mG) (hist : Nat → Rw) (st kept : Nat) (snap : Rw) (t : Nat → Nat) (n : Nat) (Q : mQ), MA g w hist st kept snap t n → (∀ g', MA g' w' (hcn w hist) (min (st + 1) 4) kept snap t n → MF g g' → Q (some (.int v)) g') → spec args g Q)
theorem ActO.of {w : Rw} {u : Nat} {spec spec' : mS} {args args' : List Value} (h : ActO w u spec args) (e : ∀ (g : mG) (hist : Nat → Rw) (st kept : Nat) (snap : Rw) (t : Nat → Nat) (n : Nat) (Q : mQ), MA g w hist st kept snap t n → spec args g (fun r g' => ∃ a, r = some (.int a) ∧ Q (some (.int a)) g') → spec' args' g Q) : ActO w u spec' args' := by
  obtain ⟨v, h⟩ := h
  refine ⟨v, ?_⟩
  rcases h with ⟨h0, h⟩ | ⟨h0, w', hw, h⟩
  · exact Or.inl ⟨h0, fun g hist st kept snap t n Q hM q => e g hist st kept snap t n Q hM (h g hist st kept snap t n _ hM ⟨v, rfl, q⟩)⟩
  · exact Or.inr ⟨h0, w', hw, fun g hist st kept snap t n Q hM q => e g hist st kept snap t n Q hM (h g hist st kept snap t n _ hM fun g' hA f => ⟨v, rfl, q g' hA f⟩)⟩
theorem fst_ex {w : Rw} : ∀ (n : Nat), (∃ i, i < n ∧ wF w i 3 = 0) → ∃ i, i < n ∧ fstF w i
  | 0, ⟨_, h, _⟩ => absurd h (Nat.not_lt_zero _)
  | n + 1, ⟨i, hi, h0⟩ => by
    by_cases h : ∃ j, j < n ∧ wF w j 3 = 0
    · obtain ⟨j, hj, hf⟩ := fst_ex n h
      exact ⟨j, by omega, hf⟩
    · have e : i = n := Decidable.byContradiction fun q => h ⟨i, by omega, h0⟩
      subst e
      exact ⟨i, hi, h0, fun j hj z => h ⟨j, hj, z⟩⟩
theorem fst_un {w : Rw} {i j : Nat} (hi : fstF w i) (hj : fstF w j) : i = j := by
  refine Decidable.byContradiction fun q => ?_
  by_cases h : i < j
  · exact hj.2 i h hi.1
  · exact hi.2 j (by omega) hj.1
section Det
variable {w : Rw} {u k m l p r s y b : Nat}
theorem det_issue (hG : Good w u) (hu : u + 1 ≤ 6000) (hk : k < 6) (m1 : 1 ≤ m) (m2 : m ≤ 999) : ActO w u w_X6_issue [.ref 20, .int (nI k), .int (nI m)] := by
  have tb := hG.1.1.tb (by omega)
  have hy := hG.1.1.1.1.1
  refine ⟨nI (m - min (wK w k 6) m), Or.inr ⟨nI_pos' (by omega), opIss w k m, ⟨hG.1.iss hk m2, hG.2.same rfl⟩, fun g hist st kept snap t n Q hM q => ?_⟩⟩
  refine c_issue hM tb hy (fun hno => absurd rfl (hno k hk)) (fun k' hk' e hno => absurd ⟨m, rfl, m1, m2⟩ hno) (fun k' m' g' hk' e e2 _ _ hA f => ?_)
  have e3 := (nI_eq (by omega) (by omega)).mp e
  have e4 := (nI_eq (by omega) (by omega)).mp e2
  subst e3
  subst e4
  exact q g' hA f
theorem det_fire (hG : Good w u) (hu : u + 1 ≤ 6000) (hk : k < 6) (m1 : 1 ≤ m) (m2 : m ≤ 999) (hl : l ≤ m) : ActO w u w_X6_fire [.ref 20, .int (nI k), .int (nI m), .int (nI l)] := by
  have tb := hG.1.1.tb (by omega)
  have k2 := (tb.2.1 k hk).1 2 (by decide)
  refine ⟨nI (wK w k 2 + l), Or.inr ⟨nI_pos' (by omega), sK (sK w k 1 (wK w k 1 + m)) k 2 (wK w k 2 + l), ⟨hG.1.fir hk m2 hl, hG.2.same rfl⟩, fun g hist st kept snap t n Q hM q => ?_⟩⟩
  refine c_fire hM (fun hno => absurd rfl (hno k hk)) (fun k' hk' e hno => absurd ⟨m, l, rfl, rfl, m1, m2, hl⟩ hno) (fun k' m' l' g' hk' e e2 e3 _ _ _ hA f => ?_)
  have e4 := (nI_eq (by omega) (by omega)).mp e
  have e5 := (nI_eq (by omega) (by omega)).mp e2
  have e6 := (nI_eq (by omega) (by omega)).mp e3
  subst e4
  subst e5
  subst e6
  exact q g' hA f
theorem det_audit (hG : Good w u) (hu : u + 1 ≤ 6000) (hk : k < 6) : ActO w u w_X6_audit [.ref 20, .int (nI k)] := by
  have tb := hG.1.1.tb (by omega)
  have hle : ∀ k, k < 6 → wK w k 2 ≤ wK w k 1 := fun k hk => (hG.1.1.2.2.2.2 k hk).1
  have k1 := (tb.2.1 k hk).1 1 (by decide)
  by_cases h0 : wK w k 1 - wK w k 2 = 0
  · refine ⟨-5, Or.inl ⟨by decide, fun g hist st kept snap t n Q hM q => ?_⟩⟩
    refine c_audit hM tb hle (fun hno => absurd rfl (hno k hk)) (fun _ _ _ _ => q) (fun k' m' g' hk' e em hm _ _ => ?_)
    have e4 := (nI_eq (by omega) (by omega)).mp e
    subst e4
    omega
  · refine ⟨nI (wK w k 1 - wK w k 2), Or.inr ⟨nI_pos' (by omega), _, ⟨hG.1.aud hk rfl, hG.2.same rfl⟩, fun g hist st kept snap t n Q hM q => ?_⟩⟩
    refine c_audit hM tb hle (fun hno => absurd rfl (hno k hk)) (fun k' hk' e hz => ?_) (fun k' m' g' hk' e em hm hA f => ?_)
    · have e4 := (nI_eq (by omega) (by omega)).mp e
      subst e4
      omega
    · have e4 := (nI_eq (by omega) (by omega)).mp e
      subst e4
      subst em
      exact q g' hA f
theorem det_endYear (hG : Good w u) (hu : u + 1 ≤ 6000) : ActO w u w_X6_endYear [.ref 20] := by
  have tb := hG.1.1.tb (by omega)
  have hy := hG.1.1.1.1.1
  have ss := hG.1.1.ss (by omega)
  by_cases h0 : 999 ≤ wS w 0
  · refine ⟨-3, Or.inl ⟨by decide, fun g hist st kept snap t n Q hM q => ?_⟩⟩
    exact c_endYear hM ss hy (fun _ => q) (fun g' z => by omega)
  · have hl : sm (lkN w) 6 ≤ sm (fun _ => 5994 * u) 6 := sm_le 6 fun k hk => by
      have hK := (hG.1.1.2.2.2.2 k hk).2.2.1
      have : lkN w k ≤ duN w k := by unfold lkN; omega
      have hd : duN w k = wK w k 2 + wK w k 4 + wK w k 5 := rfl
      show lkN w k ≤ 5994 * u
      omega
    simp only [sm] at hl
    refine ⟨nI (sm (lkN w) 6), Or.inr ⟨nI_pos' (by simp only [sm]; omega), opYear w, ⟨hG.1.yea (by omega), hG.2.same (stlN_F 6)⟩, fun g hist st kept snap t n Q hM q => ?_⟩⟩
    exact c_endYear hM ss hy (fun z => absurd z h0) (fun g' _ hA f => q g' hA f)
theorem det_buyReserve (hG : Good w u) (hu : u + 1 ≤ 6000) (hk : k < 6) (m1 : 1 ≤ m) (m2 : m ≤ 999) : ActO w u w_X6_buyReserve [.ref 20, .int (nI k), .int (nI m)] := by
  have tb := hG.1.1.tb (by omega)
  have hy := hG.1.1.1.1.1
  have hc := hG.1.1.2.1.2.1.2
  have f4 := tb.1 4 (by decide)
  by_cases h0 : m ≤ wS w 4 ∧ m * wS w 12 ≤ wK w k 0
  · refine ⟨nI (wS w 4 - m), Or.inr ⟨nI_pos' (by omega), opSell w k m, ⟨hG.1.sell hk h0.1 h0.2, hG.2.same rfl⟩, fun g hist st kept snap t n Q hM q => ?_⟩⟩
    refine c_buyReserve hM tb hy hc (fun hno => absurd rfl (hno k hk)) (fun k' hk' e hno => absurd ⟨m, rfl, m1, m2⟩ hno) (fun k' m' hk' e e2 _ _ hz => ?_) (fun k' m' g' hk' e e2 _ _ _ _ hA f => ?_)
    · have e3 := (nI_eq (by omega) (by omega)).mp e
      have e4 := (nI_eq (by omega) (by omega)).mp e2
      subst e3
      subst e4
      omega
    · have e3 := (nI_eq (by omega) (by omega)).mp e
      have e4 := (nI_eq (by omega) (by omega)).mp e2
      subst e3
      subst e4
      exact q g' hA f
  · refine ⟨-3, Or.inl ⟨by decide, fun g hist st kept snap t n Q hM q => ?_⟩⟩
    refine c_buyReserve hM tb hy hc (fun hno => absurd rfl (hno k hk)) (fun k' hk' e hno => absurd ⟨m, rfl, m1, m2⟩ hno) (fun _ _ _ _ _ _ _ _ => q) (fun k' m' g' hk' e e2 _ _ z1 z2 _ _ => ?_)
    have e3 := (nI_eq (by omega) (by omega)).mp e
    have e4 := (nI_eq (by omega) (by omega)).mp e2
    subst e3
    subst e4
    exact absurd ⟨z1, z2⟩ h0
theorem det_borrow (hG : Good w u) (hu : u + 1 ≤ 6000) (hk : k < 6) (m1 : 1 ≤ m) (m2 : m ≤ 999) : ActO w u w_X6_borrow [.ref 20, .int (nI k), .int (nI m)] := by
  have tb := hG.1.1.tb (by omega)
  have hl := hG.1.1.lim (by omega)
  have f3 := (tb.2.1 k hk).1 3 (by decide)
  by_cases h0 : wK w k 3 + m ≤ wK w k 2 * wS w 13 / 100
  · refine ⟨nI (wK w k 3 + m), Or.inr ⟨nI_pos' (by omega), sK w k 3 (wK w k 3 + m), ⟨hG.1.bor hk h0, hG.2.same rfl⟩, fun g hist st kept snap t n Q hM q => ?_⟩⟩
    refine c_borrow hM tb hl (fun hno => absurd rfl (hno k hk)) (fun k' hk' e hno => absurd ⟨m, rfl, m1, m2⟩ hno) (fun k' m' hk' e e2 _ _ hz => ?_) (fun k' m' g' hk' e e2 _ _ _ hA f => ?_)
    · have e3 := (nI_eq (by omega) (by omega)).mp e
      have e4 := (nI_eq (by omega) (by omega)).mp e2
      subst e3
      subst e4
      exact absurd h0 (Nat.not_le.mpr hz)
    · have e3 := (nI_eq (by omega) (by omega)).mp e
      have e4 := (nI_eq (by omega) (by omega)).mp e2
      subst e3
      subst e4
      exact q g' hA f
  · refine ⟨-3, Or.inl ⟨by decide, fun g hist st kept snap t n Q hM q => ?_⟩⟩
    refine c_borrow hM tb hl (fun hno => absurd rfl (hno k hk)) (fun k' hk' e hno => absurd ⟨m, rfl, m1, m2⟩ hno) (fun _ _ _ _ _ _ _ _ => q) (fun k' m' g' hk' e e2 _ _ z1 _ _ => ?_)
    have e3 := (nI_eq (by omega) (by omega)).mp e
    have e4 := (nI_eq (by omega) (by omega)).mp e2
    subst e3
    subst e4
    exact absurd z1 h0
theorem det_set (hG : Good w u) (hu : u + 1 ≤ 6000) (hs : s < 5) (hy : y < 2 ^ 30) : ActO w u w_X6_set [.ref 20, .int (nI s), .int (nI y)] := by
  have tb := hG.1.1.tb (by omega)
  have f := tb.1 (11 + s) (by omega)
  by_cases h0 : seL s ≤ y ∧ y ≤ seM s
  · by_cases h1 : wS w (11 + s) = y
    · refine ⟨-5, Or.inl ⟨by decide, fun g hist st kept snap t n Q hM q => ?_⟩⟩
      refine c_set hM tb (fun hno => absurd ⟨s, y, hs, rfl, rfl, h0.1, h0.2⟩ hno) (fun _ _ _ _ _ _ _ _ => q) (fun s' y' g' hs' e e2 y1 y2 hne _ _ => ?_)
      have sM : seM s' ≤ 500 := by unfold seM; split; decide; split; decide; split <;> decide
      have e3 := (nI_eq (by omega) (by omega)).mp e
      have e4 := (nI_eq (by omega) (by omega)).mp e2
      subst e3
      subst e4
      exact absurd h1 hne
    · refine ⟨nI (wS w (11 + s)), Or.inr ⟨nI_pos' (by omega), sS w (11 + s) y, ⟨hG.1.set hs h0.1 h0.2, hG.2.same rfl⟩, fun g hist st kept snap t n Q hM q => ?_⟩⟩
      refine c_set hM tb (fun hno => absurd ⟨s, y, hs, rfl, rfl, h0.1, h0.2⟩ hno) (fun s' y' hs' e e2 y1 y2 he => ?_) (fun s' y' g' hs' e e2 y1 y2 _ hA f => ?_)
      · have sM : seM s' ≤ 500 := by unfold seM; split; decide; split; decide; split <;> decide
        have e3 := (nI_eq (by omega) (by omega)).mp e
        have e4 := (nI_eq (by omega) (by omega)).mp e2
        subst e3
        subst e4
        exact absurd he h1
      · have sM : seM s' ≤ 500 := by unfold seM; split; decide; split; decide; split <;> decide
        have e3 := (nI_eq (by omega) (by omega)).mp e
        have e4 := (nI_eq (by omega) (by omega)).mp e2
        subst e3
        subst e4
        exact q g' hA f
  · refine ⟨-2, Or.inl ⟨by decide, fun g hist st kept snap t n Q hM q => ?_⟩⟩
    refine c_set hM tb (fun _ => q) (fun s' y' hs' e e2 y1 y2 _ => ?_) (fun s' y' g' hs' e e2 y1 y2 _ _ _ => ?_)
    · have sM : seM s' ≤ 500 := by unfold seM; split; decide; split; decide; split <;> decide
      have e3 := (nI_eq (by omega) (by omega)).mp e
      have e4 := (nI_eq (by omega) (by omega)).mp e2
      subst e3
      subst e4
      exact absurd ⟨y1, y2⟩ h0
    · have sM : seM s' ≤ 500 := by unfold seM; split; decide; split; decide; split <;> decide
      have e3 := (nI_eq (by omega) (by omega)).mp e
      have e4 := (nI_eq (by omega) (by omega)).mp e2
      subst e3
      subst e4
      exact absurd ⟨y1, y2⟩ h0
theorem det_takeBack (hG : Good w u) (hu : u + 1 ≤ 6000) (hr : r < 2 ^ 28) : ActO w u w_X6_takeBack [.ref 20, .int (nI r)] := by
  have tb := hG.1.1.tb (by omega)
  have hI := hG.1.1.1
  have f0 : ∀ i, i < 17 → wF w i 0 < 2 ^ 28 := fun i hi => (tb.2.2 i hi).1 0 (by decide)
  by_cases h0 : ∃ i, i < 17 ∧ 0 < wF w i 3 ∧ r = wF w i 0
  · obtain ⟨i, hi, hl, he⟩ := h0
    have f3 := (tb.2.2 i hi).1 3 (by decide)
    refine ⟨nI (wF w i 3), Or.inr ⟨nI_pos' (by omega), opGive w i, ⟨(hG.1.giv hi).up (by omega), hG.2.giv⟩, fun g hist st kept snap t n Q hM q => ?_⟩⟩
    refine c_takeBack hM tb (fun hno => absurd (congrArg nI he) (hno i hi hl)) (fun i' g' hi' hl' e hA f => ?_)
    have b := f0 i' hi'
    have e3 := (nI_eq (by omega) (by omega)).mp e
    have e4 : i' = i := hI.2.2.1 i' i hi' hi hl' hl (e3.symm.trans he)
    subst e4
    exact q g' hA f
  · refine ⟨-1, Or.inl ⟨by decide, fun g hist st kept snap t n Q hM q => ?_⟩⟩
    refine c_takeBack hM tb (fun _ => q) (fun i' g' hi' hl' e _ _ => ?_)
    have b := f0 i' hi'
    have e3 := (nI_eq (by omega) (by omega)).mp e
    exact absurd ⟨i', hi', hl', e3⟩ h0
theorem det_comes (hG : Good w u) (hu : u + 1 ≤ 6000) (hb : b ≤ 1) (hk : k < 6) (m1 : 1 ≤ m) (m2 : m ≤ 999) (p1 : wS w 11 ≤ p) (p2 : p < 2 ^ 28) : ActO w u w_X6_oneComes [.ref 20, .int (nI b), .int (nI k), .int (nI m), .int (nI p)] := by
  have tb := hG.1.1.tb (by omega)
  have hc := hG.1.1.2.1.2.1.2
  have hI : mInv (fun v => InvB v (u + 1)) := InvB.m hu
  have hput : ∀ k m p i, k < 6 → 1 ≤ m → m ≤ 999 → wS w 11 ≤ p → p ≤ wS w 12 → (b = 1 → m * p ≤ wK w k 0) → (b = 0 → m ≤ rt (wP w k)) → i < 17 → wF w i 3 = 0 → InvB (opPut w i b k m p) (u + 1) := fun k m p i hk m1 m2 p1 p2 y1 y2 hi h0 => hG.1.1.put hb hk m1 m2 p1 p2 y1 y2 hi h0
  have hfree := hG.1.free
  by_cases hp : p ≤ wS w 12
  · by_cases hf : (b = 1 → m * p ≤ wK w k 0) ∧ (b = 0 → m ≤ rt (wP w k))
    · obtain ⟨i, hi, hfi⟩ := fst_ex 17 hfree
      refine ⟨nI (m - wF (meetF i 17 (opPut w i b k m p)) i 3), Or.inr ⟨nI_pos' (by omega), opCome w i b k m p, ⟨hG.1.com hu hb hk m1 m2 p1 hp hf.1 hf.2 hi hfi.1, hG.2.com hu hi hb (hput k m p i hk m1 m2 p1 hp hf.1 hf.2 hi hfi.1)⟩, fun g hist st kept snap t n Q hM q => ?_⟩⟩
      refine c_oneComes hI hb hM tb hc hfree hput (fun hno => absurd rfl (hno k hk)) (fun k' hk' e hno => absurd ⟨⟨m, rfl, m1, m2⟩, p, rfl, p1, hp⟩ hno) (fun k' n' p' hk' e e2 e3 x1 x2 x3 x4 x5 x6 => ?_) (fun k' m' p' i' g' hk' e e2 e3 x1 x2 x3 x4 x5 x6 hi' hfi' hA f => ?_)
      · have e4 := (nI_eq (by omega) (by omega)).mp e
        have e5 := (nI_eq (by omega) (by omega)).mp e2
        have e6 := (nI_eq (by omega) (by omega)).mp e3
        subst e4
        subst e5
        subst e6
        have hbb : b = 1 ∨ b = 0 := by omega
        rcases hbb with eb | eb
        · exact absurd (hf.1 eb) (x5 eb)
        · exact absurd (hf.2 eb) (x6 eb)
      · have e4 := (nI_eq (by omega) (by omega)).mp e
        have e5 := (nI_eq (by omega) (by omega)).mp e2
        have e6 := (nI_eq (by omega) (by omega)).mp e3
        have e7 := fst_un hfi hfi'
        subst e4
        subst e5
        subst e6
        subst e7
        exact q g' hA f
    · refine ⟨-3, Or.inl ⟨by decide, fun g hist st kept snap t n Q hM q => ?_⟩⟩
      refine c_oneComes hI hb hM tb hc hfree hput (fun hno => absurd rfl (hno k hk)) (fun k' hk' e hno => absurd ⟨⟨m, rfl, m1, m2⟩, p, rfl, p1, hp⟩ hno) (fun _ _ _ _ _ _ _ _ _ _ _ _ _ => q) (fun k' m' p' i' g' hk' e e2 e3 x1 x2 x3 x4 x5 x6 _ _ _ _ => ?_)
      have e4 := (nI_eq (by omega) (by omega)).mp e
      have e5 := (nI_eq (by omega) (by omega)).mp e2
      have e6 := (nI_eq (by omega) (by omega)).mp e3
      subst e4
      subst e5
      subst e6
      exact absurd ⟨x5, x6⟩ hf
  · refine ⟨-2, Or.inl ⟨by decide, fun g hist st kept snap t n Q hM q => ?_⟩⟩
    refine c_oneComes hI hb hM tb hc hfree hput (fun hno => absurd rfl (hno k hk)) (fun _ _ _ _ => q) (fun k' n' p' hk' e e2 e3 x1 x2 x3 x4 _ _ => ?_) (fun k' m' p' i' g' hk' e e2 e3 x1 x2 x3 x4 _ _ _ _ _ _ => ?_)
    · have e6 := (nI_eq (by omega) (by omega)).mp e3
      omega
    · have e6 := (nI_eq (by omega) (by omega)).mp e3
      omega
theorem det_bid (hG : Good w u) (hu : u + 1 ≤ 6000) (hk : k < 6) (m1 : 1 ≤ m) (m2 : m ≤ 999) (p1 : wS w 11 ≤ p) (p2 : p < 2 ^ 28) : ActO w u w_X6_bid [.ref 20, .int (nI k), .int (nI m), .int (nI p)] :=
  (det_comes hG hu (b := 1) (by decide) hk m1 m2 p1 p2).of fun g hist st kept snap t n Q hM hs => c_bid hM.k20 (wm_up lo_X6_oneComes hs fun r g' hq => by
    obtain ⟨a, er, hq⟩ := hq
    subst er
    rw [bid_end]
    exact hq)
theorem det_ask (hG : Good w u) (hu : u + 1 ≤ 6000) (hk : k < 6) (m1 : 1 ≤ m) (m2 : m ≤ 999) (p1 : wS w 11 ≤ p) (p2 : p < 2 ^ 28) : ActO w u w_X6_ask [.ref 20, .int (nI k), .int (nI m), .int (nI p)] :=
  (det_comes hG hu (b := 0) (by decide) hk m1 m2 p1 p2).of fun g hist st kept snap t n Q hM hs => c_ask hM.k20 (wm_up lo_X6_oneComes hs fun r g' hq => by
    obtain ⟨a, er, hq⟩ := hq
    subst er
    rw [ask_end]
    exact hq)
end Det
