/-! ===== the claim's beginning: the statics' rows, the classes, the words ===== -/
theorem eqi {args : Array Value} {s : State} {t : Term} {z : Int32} (h : (Cond.eq t (.int z)).before args s = true) : t.eval args s none [] s = some (.int z) := by
  have hz : (Term.int z).eval args s none [] s = some (.int z) := rfl
  cases hv : t.eval args s none [] s with
  | none => simp [Cond.before, Cond.holds, Cond.value, hv] at h
  | some w =>
    simp only [Cond.before, Cond.holds, Cond.value, hv, hz] at h
    cases w <;> simp_all
theorem el_of {args : Array Value} {s : State} {t : Term} {a : Nat} {cell : Cell} {i z : Int32} (ht : t.eval args s none [] s = some (.ref a)) (hc : s.heap[a]? = some cell) (h : (Cond.eq (.elem t (.int i)) (.int z)).before args s = true) : cell.slots[i.toNatClampNeg]? = some (.int z) := by
  obtain ⟨a', j, cell', h1, h2, h3, -, h5⟩ := Term.elem_spec (eqi h)
  cases ht.symm.trans h1
  cases h2
  cases hc.symm.trans (State.arrayAt?_spec h3).1
  exact h5
theorem len_of {args : Array Value} {s : State} {t : Term} {a : Nat} {cell : Cell} (ht : t.eval args s none [] s = some (.ref a)) (hc : s.heap[a]? = some cell) (h : (Cond.eq (.length t) (.int 5)).before args s = true) : cell.slots.size = 5 := by
  have hn := eqi h
  obtain ⟨a', cell', h1, h2, h3⟩ := Term.length_spec hn
  cases ht.symm.trans h1
  cases hc.symm.trans (State.arrayAt?_spec h2).1
  have hlt : cell.slots.size < 2147483648 := by
    by_cases hge : cell.slots.size < 2147483648
    · exact hge
    · exfalso
      simp [Term.eval, ht, h2, hge] at hn
  have e : (5 : Int32) = Int32.ofNat cell.slots.size := by
    injection h3
  have e2 : (5 : Int32).toInt = (Int32.ofNat cell.slots.size).toInt := congrArg Int32.toInt e
  rw [Int32.toInt_ofNat_of_lt hlt] at e2
  have e3 : (5 : Int32).toInt = 5 := by decide
  omega
/-- a static row of five ints -/
def Row5 (s : State) (args : Array Value) (n : String) (v : Nat → Int32) (a : Nat) : Prop :=
  (Term.static RX6 n "[I").eval args s none [] s = some (.ref a) ∧ a < s.heap.size ∧ ∃ cell : Cell, s.heap[a]? = some cell ∧ s.isArrayOf cell .int ∧ cell.vm ≠ .unknown ∧ cell.slots.size = 5 ∧ (∀ j, j < 5 → cell.slots[j]? = some (.int (v j))) ∧ s.vm.findClass "[I" = some cell.cls
theorem row5 {args : Array Value} {s : State} {n : String} {v : Nat → Int32} (h1 : (Cond.arrayOf (.static RX6 n "[I") .int).before args s = true) (h2 : (Cond.eq (.length (.static RX6 n "[I")) (.int 5)).before args s = true)
    (h3 : (Cond.eq (.elem (.static RX6 n "[I") (.int 0)) (.int (v 0))).before args s = true) (h4 : (Cond.eq (.elem (.static RX6 n "[I") (.int 1)) (.int (v 1))).before args s = true) (h5 : (Cond.eq (.elem (.static RX6 n "[I") (.int 2)) (.int (v 2))).before args s = true) (h6 : (Cond.eq (.elem (.static RX6 n "[I") (.int 3)) (.int (v 3))).before args s = true) (h7 : (Cond.eq (.elem (.static RX6 n "[I") (.int 4)) (.int (v 4))).before args s = true)
    (h8 : (Cond.exactly (.static RX6 n "[I") "[I").before args s = true) : ∃ a, Row5 s args n v a := by
  obtain ⟨a, c, cell, k, q1, q2, q3, q4, q5, q6, -⟩ := Cond.exactly_spec h8
  obtain ⟨p1, p2⟩ := Cond.arrayOf_spec h1 q1 q3
  refine ⟨a, q1, (Array.getElem?_eq_some_iff.mp q3).1, cell, q3, p1, p2, len_of q1 q3 h2, fun j hj => ?_, by rw [q6]; exact q2⟩
  match j, hj with
  | 0, _ => exact el_of q1 q3 h3
  | 1, _ => exact el_of q1 q3 h4
  | 2, _ => exact el_of q1 q3 h5
  | 3, _ => exact el_of q1 q3 h6
  | 4, _ => exact el_of q1 q3 h7
theorem nw_of {w : Cond} (h : isNest w = true) {A : Array Value} {U : State} (hb : w.before A U = true) : va_Nw w U := by
  match w, h, hb with
  | .methodLinkNest _ _ _ _, _, hb => exact va_Nw.of rfl hb
  | .fieldLinkNest _ _ _ _ _ _, _, hb => exact va_Nw.of rfl hb
  | .arrayOver (.object _), _, hb => exact va_AO.of hb
  | .castable _ _, _, hb => exact va_Nw.of rfl hb
theorem ar_over {C : String} {A : Array Value} {s : State} (h : (Cond.arrayOver (.object C)).before A s = true) : ∃ cA, ArrOfT s cA (.object C) ∧ va_RA s cA (.object C) := by
  obtain ⟨comp, c, k, h1, h2, h3, h4, h5⟩ := Cond.arrayOver_spec h
  exact ⟨c, fun n z => ⟨(fun k h => by cases h), k, h3, comp, h4⟩, k, comp, h3, h4, h1, h5⟩
theorem nestL {w : Cond} (h : w ∈ nestW) : w ∈ lw_tbl := (List.mem_filter.mp h).1
theorem kf_of {A : Array Value} {s : State} (hts : ∀ w ∈ lw_tbl, w.before A s = true) : ∃ (D : va_G) (cA : Nat → ClassId), KF D cA s := by
  have hk : ∀ kd, ∃ (cC : ClassId) (iS : Nat → Nat), 1 ≤ kd ∧ kd ≤ 8 → u_Kn s (xR kd) (xT kd) (xn kd) cC iS := by
    intro kd
    by_cases h : 1 ≤ kd ∧ kd ≤ 8
    · have hi : ∃ n, (Cond.instantiable (xR kd) n).before A s = true := kd8 (P := fun kd => ∃ n, (Cond.instantiable (xR kd) n).before A s = true) ⟨_, hts _ (inT kn_X0)⟩ ⟨_, hts _ (inT kn_X1)⟩ ⟨_, hts _ (inT kn_X2)⟩ ⟨_, hts _ (inT kn_X3)⟩ ⟨_, hts _ (inT kn_X4)⟩ ⟨_, hts _ (inT kn_X5)⟩ ⟨_, hts _ (inT kn_X6)⟩ ⟨_, hts _ (inT kn_X6)⟩ h
      obtain ⟨n, hi⟩ := hi
      obtain ⟨cC, iS, q⟩ := u_known (C := xR kd) (T := xT kd) (N := xn kd) hts (fun w hw => inT (xin h w hw)) hi
      exact ⟨cC, iS, fun _ => q⟩
    · exact ⟨0, fun _ => 0, fun q => absurd q h⟩
  have hc : ∀ kd, ∃ q : ClassId × (Nat → Nat), 1 ≤ kd ∧ kd ≤ 8 → u_Kn s (xR kd) (xT kd) (xn kd) q.1 q.2 := fun kd => by
    obtain ⟨a, b, h⟩ := hk kd
    exact ⟨(a, b), h⟩
  obtain ⟨F, hF⟩ : ∃ F : Nat → ClassId × (Nat → Nat), ∀ kd, 1 ≤ kd ∧ kd ≤ 8 → u_Kn s (xR kd) (xT kd) (xn kd) (F kd).1 (F kd).2 := ⟨fun kd => Classical.choose (hc kd), fun kd => Classical.choose_spec (hc kd)⟩
  obtain ⟨i0, k0, p0, x1, x2, x3⟩ := Cond.arrayClass_spec (hts _ (inT ka_int))
  obtain ⟨i1, k1, p1, y1, y2, y3⟩ := Cond.arrayClass_spec (hts _ (inT ka_char))
  obtain ⟨i2, z2⟩ := ar_over (hts _ (nestL ko_X0))
  obtain ⟨i3, z3⟩ := ar_over (hts _ (nestL ko_X2))
  obtain ⟨i4, z4⟩ := ar_over (hts _ (nestL ko_X1))
  obtain ⟨i5, z5⟩ := ar_over (hts _ (nestL ko_X5))
  refine ⟨(fun c => (F (c + 1)).1, fun c => (F (c + 1)).2), fun j => match j with | 0 => i0 | 1 => i1 | 2 => i2 | 3 => i3 | 4 => i4 | _ => i5, ⟨fun c q hq => ?_, fun k q hq => ?_⟩, fun w hw => nw_of (List.mem_filter.mp hw).2 (hts w (nestL hw))⟩
  · have hl : c < 8 := (List.getElem?_eq_some_iff.mp hq).1
    have h8 : 1 ≤ c + 1 ∧ c + 1 ≤ 8 := ⟨by omega, by omega⟩
    have e := mcl_at h8
    rw [Nat.add_sub_cancel] at e
    cases hq.symm.trans e
    exact hF (c + 1) h8
  · match k, hq with
    | 0, hq => cases hq; exact ⟨fun n z => ⟨(fun k h => by cases h), k0, x2, p0, x3⟩, x1⟩
    | 1, hq => cases hq; exact ⟨fun n z => ⟨(fun k h => by cases h), k1, y2, p1, y3⟩, y1⟩
    | 2, hq => cases hq; exact z2
    | 3, hq => cases hq; exact z3
    | 4, hq => cases hq; exact z4
    | 5, hq => cases hq; exact z5
    | k + 6, hq => simp [ctys] at hq
theorem gBeg_k {L : Nat} {xs : Nat → Int32} (a : Nat) : gK (gBeg L xs) a = 0 ∨ (gK (gBeg L xs) a = 10 ∧ (a = 2 ∨ a = 3 ∨ a = 4 ∨ a = 5)) := by
  by_cases h : a = 2 ∨ a = 3 ∨ a = 4 ∨ a = 5
  · exact Or.inr ⟨if_pos h, h⟩
  · exact Or.inl (if_neg h)
theorem gBeg_HR {D : va_G} {cA : Nat → ClassId} {n0 L : Nat} {xs : Nat → Int32} {L0 : Nat → Nat} {H : Heap} : HR D cA n0 (gBeg L xs) L0 H := by
  have hv : ∀ a, ¬ lvx (gBeg L xs) a := fun a h => by
    rcases gBeg_k (L := L) (xs := xs) a with e | e
    · exact h.1 e
    · exact h.2 e.1
  refine ⟨fun a => ?_, fun a b h => absurd h (hv a), fun a h => absurd h (hv a), ⟨rfl, rfl, rfl⟩, fun b k h => absurd h (hv b)⟩
  have hk : gK (gBeg L xs) a = 0 ∨ gK (gBeg L xs) a = 10 := (gBeg_k a).elim Or.inl fun e => Or.inr e.1
  exact ⟨fun h => by omega, fun h => by omega, fun h => by omega, fun h => by omega⟩
theorem gBeg_RO {cA : Nat → ClassId} {L : Nat} {xs : Nat → Int32} {L0 : Nat → Nat} {args : Array Value} {s : State} (hA : s.vm.findClass "[I" = some (cA 0)) (hX : va_X (L0 2) L xs s s.heap) (hb : L0 2 < s.heap.size)
    (h3 : Row5 s args "SETTING_LEAST" (fun j => nI (seL j)) (L0 3)) (h4 : Row5 s args "SETTING_MOST" (fun j => nI (seM j)) (L0 4)) (h5 : Row5 s args "SETTING_FIRST" (fun j => nI (w0R.1 (11 + j))) (L0 5)) : RO cA s.heap.size (gBeg L xs) L0 s s.heap := by
  intro a ha
  have hk : a = 2 ∨ a = 3 ∨ a = 4 ∨ a = 5 := by
    rcases gBeg_k (L := L) (xs := xs) a with e | e
    · rw [ha] at e; cases e
    · exact e.2
  rcases hk with rfl | rfl | rfl | rfl
  · obtain ⟨scr, q1, q2, q3, q4, q5⟩ := hX
    exact ⟨scr, q1, q2, q3, q4, fun j hj => q5 j hj, hb, fun h => absurd h (by decide)⟩
  · obtain ⟨-, hl, cell, q1, q2, q3, q4, q5, -⟩ := h3
    exact ⟨cell, q1, q2, q3, q4, fun j hj => q5 j hj, hl, fun h => absurd h (by decide)⟩
  · obtain ⟨-, hl, cell, q1, q2, q3, q4, q5, -⟩ := h4
    exact ⟨cell, q1, q2, q3, q4, fun j hj => q5 j hj, hl, fun h => absurd h (by decide)⟩
  · obtain ⟨-, hl, cell, q1, q2, q3, q4, q5, q6⟩ := h5
    refine ⟨cell, q1, q2, q3, q4, fun j hj => q5 j hj, hl, fun _ => ?_⟩
    have e := q6.symm.trans hA
    injection e
theorem kl_first : Cond.laysStatic RX6 "SETTING_FIRST" "[I" ∈ lw_tbl := inLw 26 (by decide +kernel)
theorem kl_least : Cond.laysStatic RX6 "SETTING_LEAST" "[I" ∈ lw_tbl := inLw 524 (by decide +kernel)
theorem kl_most : Cond.laysStatic RX6 "SETTING_MOST" "[I" ∈ lw_tbl := inLw 526 (by decide +kernel)
/-- YOUR PART: from the entry, for every script of at most 260 ints, the law comes to its end with true -/
theorem whole_start {p : Program} {e : Env} {s : State} {m : MethodId} {below : List Frame} {meth : Method} {c : Code} (l : Launch) (hflags : l.flags = flags0) (hname : meth.name = "law") {b L : Nat} {xs : Nat → Int32} (hL : L ≤ 260) (C0 : lw_At p s m meth c b L xs) : W p l e room_1 s m #[Value.ref b] below meth c s.heap [] 0 0 (lw_Z below #[Value.ref b] s) (entryFrame m ([Value.ref b] : List Value).toArray 12) := by
  obtain ⟨hx, hb, hr, hml, hown, hts, hX, hbl, hlocks, hgv⟩ := id C0
  obtain ⟨D, cA, hKF⟩ := kf_of hts
  have hs := flat_of_before _ hgv
  obtain ⟨aL, r3⟩ := row5 (s := s) (args := #[Value.ref b]) (n := "SETTING_LEAST") (v := fun j => nI (seL j)) (hs _ (by decide +kernel)) (hs _ (by decide +kernel)) (hs _ (by decide +kernel)) (hs _ (by decide +kernel)) (hs _ (by decide +kernel)) (hs _ (by decide +kernel)) (hs _ (by decide +kernel)) (hs _ (by decide +kernel))
  obtain ⟨aM, r4⟩ := row5 (s := s) (args := #[Value.ref b]) (n := "SETTING_MOST") (v := fun j => nI (seM j)) (hs _ (by decide +kernel)) (hs _ (by decide +kernel)) (hs _ (by decide +kernel)) (hs _ (by decide +kernel)) (hs _ (by decide +kernel)) (hs _ (by decide +kernel)) (hs _ (by decide +kernel)) (hs _ (by decide +kernel))
  obtain ⟨aF, r5⟩ := row5 (s := s) (args := #[Value.ref b]) (n := "SETTING_FIRST") (v := fun j => nI (w0R.1 (11 + j))) (hs _ (by decide +kernel)) (hs _ (by decide +kernel)) (hs _ (by decide +kernel)) (hs _ (by decide +kernel)) (hs _ (by decide +kernel)) (hs _ (by decide +kernel)) (hs _ (by decide +kernel)) (hs _ (by decide +kernel))
  have hA : ∀ a : Nat, a < s.heap.size → ¬ (fun q : Nat => s.heap.size ≤ q) a := fun _ h => Nat.not_le.mpr h
  have z3 := va_Zof (A := fun q : Nat => s.heap.size ≤ q) (hts _ kl_least) (hts _ (inT ki_X6)) r3.1 hA
  have z4 := va_Zof (A := fun q : Nat => s.heap.size ≤ q) (hts _ kl_most) (hts _ (inT ki_X6)) r4.1 hA
  have z5 := va_Zof (A := fun q : Nat => s.heap.size ≤ q) (hts _ kl_first) (hts _ (inT ki_X6)) r5.1 hA
  obtain ⟨L0, e2, e3, e4, e5⟩ : ∃ L0 : Nat → Nat, L0 2 = b ∧ L0 3 = aL ∧ L0 4 = aM ∧ L0 5 = aF := ⟨fun z => if z = 2 then b else if z = 3 then aL else if z = 4 then aM else aF, rfl, rfl, rfl, rfl⟩
  subst e3 e4 e5
  have hRO : RO cA s.heap.size (gBeg L xs) L0 s s.heap := gBeg_RO (arrI hKF).2 (by rw [e2]; exact hX) (by rw [e2]; exact hbl) r3 r4 r5
  have cx : CX p l e room_1 s m #[Value.ref b] below meth c D cA s.heap.size (gBeg L xs) L0 R_law code 12 ("law", 10) :=
    ⟨hx, hb, hml, hown, fun w hw => hts w (inT hw), hlocks, hKF, hRO, ⟨z3, z4, z5⟩, Nat.le_refl _, by decide, by decide, hname, by decide, by decide⟩
  obtain ⟨ge, hw, hc, hsl⟩ := law_wp (xs := xs) hL
  have hmp := law_sound cx hr (Nat.le_refl _) (Nat.le_trans (Nat.sub_le _ _) (Nat.le_trans hc (by decide))) (Nat.le_trans (Nat.sub_le _ _) (Nat.le_trans hsl (by decide))) hw
  obtain ⟨l1, l2⟩ := lvs_entry (L := L0) [.ref 2] 0 11 ⟨trivial, trivial⟩
  have hav : ([.ref 2] : List Value).map (rz L0) = [.ref b] := by rw [← e2]; rfl
  rw [hav] at l1 l2
  have hle : (lg_sl [Value.ref b]).length ≤ 12 := by rw [l2]; decide
  have hlv := lv_entry [Value.ref b] hle
  have hLH : LH ((lg_sl [Value.ref b] ++ List.replicate (12 - (lg_sl [Value.ref b]).length) Slot.unset).toArray) 12 L0 [.ref 2, .retAddr 0, .retAddr 0, .retAddr 0, .retAddr 0, .retAddr 0, .retAddr 0, .retAddr 0, .retAddr 0, .retAddr 0, .retAddr 0, .retAddr 0] := by
    show lv_has _ 12 (lvs L0 0 ([.ref 2] ++ List.replicate 11 (.retAddr 0)))
    rw [l1]
    exact hlv
  have hk := hmp.2 (Nat.le_refl _) (Nat.le_refl _) rfl L0 s.heap [] _ gBeg_HR hLH va_S.rf Kp.rf
  rw [lg_entry_eq]
  exact hk
