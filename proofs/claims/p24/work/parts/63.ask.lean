/-! ===== the main object asked, at given numbers ===== -/
def fO (s : Nat) : Nat := if s = 0 then 0 else if s = 1 then 2 else if s = 2 then 3 else 4
section Ask
variable {st kept n : Nat} {t : Nat → Nat} {Q : mQ} {g : mG} {w snap : Rw} {hist : Nat → Rw}
theorem MA.k20 (h : MA g w hist st kept snap t n) : gK g 20 = 7 := by
  obtain ⟨N, _, ⟨a1, _⟩, _⟩ := h.now
  exact a1
theorem a_count (h : MA g w hist st kept snap t n) (hB : TB w) {s : Nat} (hs : s ≤ 20) (h10 : s ≠ 10) (q : Q (some (.int (nI (cuN w st n s)))) g) : w_X6_count [.ref 20, .int (nI s)] g Q := by
  refine c_count h hB (fun hno => absurd rfl (hno s hs)) (fun e _ => absurd ((nI_eq (by omega) (by omega)).mp e) h10) (fun e _ => absurd ((nI_eq (by omega) (by omega)).mp e) h10) (fun s' hs' _ e => ?_)
  have := (nI_eq (by omega) (by omega)).mp e
  subst this
  exact q
theorem a_count10 (h : MA g w hist st kept snap t n) (hB : TB w) (q : Q (some (.int (if wS w 7 = 0 then -5 else nI (wS w 8)))) g) : w_X6_count [.ref 20, .int (nI 10)] g Q := by
  refine c_count h hB (fun hno => absurd rfl (hno 10 (by decide))) (fun _ e => ?_) (fun _ e => ?_) (fun s' hs' h' e => absurd ((nI_eq (by omega) (by omega)).mp e).symm h')
  · rw [if_pos e] at q; exact q
  · rw [if_neg e] at q; exact q
theorem a_kiln (h : MA g w hist st kept snap t n) (hB : TB w) {k s : Nat} (hk : k < 6) (hs : s ≤ 11) (h9 : s ≠ 9) (q : Q (some (.int (nI (kaN w k s)))) g) : w_X6_kiln [.ref 20, .int (nI k), .int (nI s)] g Q := by
  refine c_kiln h hB (fun hno => absurd rfl (hno k hk)) (fun k' hk' e hno => absurd rfl (hno s hs)) (fun k' s' hk' e hs' _ e2 => ?_) (fun k' r hk' e e2 _ => absurd ((nI_eq (by omega) (by omega)).mp e2) h9)
  have e3 := (nI_eq (by omega) (by omega)).mp e
  have e4 := (nI_eq (by omega) (by omega)).mp e2
  subst e3
  subst e4
  exact q
theorem a_kiln9 (h : MA g w hist st kept snap t n) (hB : TB w) {k : Nat} (hk : k < 6) (q : ∀ r, OldR (wP w k) r → Q (some (.int r)) g) : w_X6_kiln [.ref 20, .int (nI k), .int (nI 9)] g Q := by
  refine c_kiln h hB (fun hno => absurd rfl (hno k hk)) (fun k' hk' e hno => absurd rfl (hno 9 (by decide))) (fun k' s' hk' e hs' h9 e2 => absurd ((nI_eq (by omega) (by omega)).mp e2).symm h9) (fun k' r hk' e _ hr => ?_)
  have e3 := (nI_eq (by omega) (by omega)).mp e
  subst e3
  exact q r hr
theorem a_ofYear (h : MA g w hist st kept snap t n) (hy : wS w 0 < 1000) {k y : Nat} (hk : k < 6) (hyy : y ≤ wS w 0) (q : Q (some (.int (nI (wP w k y)))) g) : w_X6_ofYear [.ref 20, .int (nI k), .int (nI y)] g Q := by
  refine c_ofYear h hy (fun hno => absurd rfl (hno k hk)) (fun k' hk' e hno => absurd ⟨y, rfl, hyy⟩ hno) (fun k' y' hk' e e2 hy' => ?_)
  have e3 := (nI_eq (by omega) (by omega)).mp e
  have e4 := (nI_eq (by omega) (by omega)).mp e2
  subst e3
  subst e4
  exact q
theorem a_ord (h : MA g w hist st kept snap t n) (hB : TB w) (hI : InvA w) {b r i s : Nat} (hb : b ≤ 1) (hs : s ≤ 3) (hi : i < 17) (si : stF w b i = true) (er : btN w i = r) (q : Q (some (.int (nI (wF w i (fO s))))) g) : w_X6_order [.ref 20, .int (nI b), .int (nI r), .int (nI s)] g Q := by
  have r17 := btN_le (w := w) (i := i)
  have hr0 : ¬ nI r < 0 := nI_pos (by omega)
  refine c_order hb h hB (fun z => ?_) (fun s' _ _ _ hno => absurd (congrArg nI er.symm) (hno i hi si)) (fun s' i' _ hs' e hi' si' ev => ?_)
  · rcases z with z | z
    · exact absurd z hr0
    · exact absurd rfl (z s hs)
  · have e3 := (nI_eq (by omega) (by omega)).mp e
    have r17' := btN_le (w := w) (i := i')
    have e4 := (nI_eq (by omega) (by omega)).mp ev
    have e5 : i' = i := btN_inj hI hi' hi si' si (e4.symm.trans er.symm)
    subst e3
    subst e5
    exact q
theorem a_ord0 (h : MA g w hist st kept snap t n) (hB : TB w) {b r s : Nat} (hb : b ≤ 1) (hs : s ≤ 3) (hr : r < 2 ^ 30) (hno : ∀ i, i < 17 → stF w b i = true → btN w i ≠ r) (q : Q (some (.int (-5))) g) : w_X6_order [.ref 20, .int (nI b), .int (nI r), .int (nI s)] g Q := by
  refine c_order hb h hB (fun z => ?_) (fun _ _ _ _ _ => q) (fun s' i' _ hs' e hi' si' ev => ?_)
  · rcases z with z | z
    · exact absurd z (nI_pos (by omega))
    · exact absurd rfl (z s hs)
  · have r17' := btN_le (w := w) (i := i')
    exact absurd ((nI_eq (by omega) (by omega)).mp ev).symm (hno i' hi' si')
theorem a_ordM (h : MA g w hist st kept snap t n) (hB : TB w) {b : Nat} {x : Int32} (hb : b ≤ 1) (q : Q (some (.int (-2))) g) : w_X6_order [.ref 20, .int (nI b), .int (-1), .int x] g Q := by
  refine c_order hb h hB (fun _ => q) (fun _ h0 => absurd (by decide) h0) (fun _ _ h0 => absurd (by decide) h0)
theorem a_dep (h : MA g w hist st kept snap t n) (hB : TB w) {b p : Nat} (hb : b ≤ 1) (h1 : 1 ≤ p) (h2 : p ≤ 500) (q : Q (some (.int (nI (dpN w b p 17)))) g) : w_X6_depth [.ref 20, .int (nI b), .int (nI p)] g Q := by
  refine c_depth hb h hB (fun hno => absurd ⟨p, rfl, h1, h2⟩ hno) (fun p' e _ h2' => ?_)
  have e3 := (nI_eq (by omega) (by omega)).mp e
  subst e3
  exact q
end Ask
