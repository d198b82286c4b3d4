/-! ===== members of the library: min, max, arraycopy, clone, Object's constructor ===== -/
section Lb
variable {own : String} {mn : String × Nat} {cc : ByteArray} {nL pc : Nat}
theorem cat_len {L : Nat → Nat} : ∀ (l : List Value), ((l.map (rz L)).map fun v => v.category).sum ≤ 2 * l.length
  | [] => Nat.le_refl _
  | v :: t => by
    have h := cat_len (L := L) t
    have h2 : (rz L v).category ≤ 2 := by rcases lv_cat (rz L v) with e | e <;> omega
    simp only [List.map_cons, List.sum_cons, List.length_cons]
    omega
theorem q_min {index : Nat} (hw1 : Cond.methodLink own index Lib.Math.min.name ∈ tw) (hw2 : Cond.static Lib.Math.min.name ∈ tw) (hw3 : Cond.initialized "java/lang/Math" ∈ tw) (hw4 : Cond.code Lib.Math.min.name Lib.Math.min.code 2 (some .int) ∈ tw) (hd : decode cc pc = .ok (.invokestatic index, 3)) : STP own cc nL mn f_min pc := by
  intro p l e R s m args below meth c D cA n0 g0 L0 ge Z cx hrc hrs ls st g n hf hn h1 h2 h3 h4 h5 L H locs lsA hH hl hS hK K
  unfold f_min at hf
  split at hf
  next y x r =>
    cases hf
    have hn : r.length ≤ 4 := hn
    have hc := cat_len (L := L) r
    have b1 : gC g ≤ gC ge := h3
    have b2 : gS g ≤ gS ge := h4
    obtain ⟨hx, hb, hml, ho, hts, -, -, -, -, -, hfr, hlo, -⟩ := cx
    exact va_mmin hx hb (hml.trans hl.1.symm) ho (hts _ hw1) (hts _ hw2) (hts _ hw3) (hts _ hw4) hfr (by omega) (by omega) (by omega) hd (K L H locs lsA hH hl hS hK h5)
  next => cases hf
theorem q_max {index : Nat} (hw1 : Cond.methodLink own index Lib.Math.max.name ∈ tw) (hw2 : Cond.static Lib.Math.max.name ∈ tw) (hw3 : Cond.initialized "java/lang/Math" ∈ tw) (hw4 : Cond.code Lib.Math.max.name Lib.Math.max.code 2 (some .int) ∈ tw) (hd : decode cc pc = .ok (.invokestatic index, 3)) : STP own cc nL mn f_max pc := by
  intro p l e R s m args below meth c D cA n0 g0 L0 ge Z cx hrc hrs ls st g n hf hn h1 h2 h3 h4 h5 L H locs lsA hH hl hS hK K
  unfold f_max at hf
  split at hf
  next y x r =>
    cases hf
    have hn : r.length ≤ 4 := hn
    have hc := cat_len (L := L) r
    have b1 : gC g ≤ gC ge := h3
    have b2 : gS g ≤ gS ge := h4
    obtain ⟨hx, hb, hml, ho, hts, -, -, -, -, -, hfr, hlo, -⟩ := cx
    exact va_mmax hx hb (hml.trans hl.1.symm) ho (hts _ hw1) (hts _ hw2) (hts _ hw3) (hts _ hw4) hfr (by omega) (by omega) (by omega) hd (K L H locs lsA hH hl hS hK h5)
  next => cases hf
theorem q_minL {index : Nat} (hw1 : Cond.methodLink own index Lib.MathLoose.min_long.x ∈ tw) (hw2 : Cond.static Lib.MathLoose.min_long.x ∈ tw) (hw3 : Cond.initialized "java/lang/Math" ∈ tw) (hw4 : Cond.code Lib.MathLoose.min_long.x Lib.MathLoose.min_long.code 4 (some .long) ∈ tw) (hd : decode cc pc = .ok (.invokestatic index, 3)) : STP own cc nL mn f_minL pc := by
  intro p l e R s m args below meth c D cA n0 g0 L0 ge Z cx hrc hrs ls st g n hf hn h1 h2 h3 h4 h5 L H locs lsA hH hl hS hK K
  unfold f_minL at hf
  split at hf
  next y x r =>
    cases hf
    have hn : r.length ≤ 4 := hn
    have hc := cat_len (L := L) r
    have b1 : gC g ≤ gC ge := h3
    have b2 : gS g ≤ gS ge := h4
    obtain ⟨hx, hb, hml, ho, hts, -, -, -, -, -, hfr, hlo, -⟩ := cx
    exact va_mmin_long hx hb (hml.trans hl.1.symm) ho (hts _ hw1) (hts _ hw2) (hts _ hw3) (hts _ hw4) hfr (by omega) (by omega) (by omega) hd (K L H locs lsA hH hl hS hK h5)
  next => cases hf
theorem q_obj {index : Nat} (hw1 : Cond.methodLink own index Lib.objectInit ∈ tw) (hw2 : Cond.instanceMethod Lib.objectInit ∈ tw) (hw3 : Cond.code Lib.objectInit ⟨#[0xb1]⟩ 1 none ∈ tw) (hd : decode cc pc = .ok (.invokespecial index, 3)) : STP own cc nL mn f_obj pc := by
  intro p l e R s m args below meth c D cA n0 g0 L0 ge Z cx hrc hrs ls st g n hf hn h1 h2 h3 h4 h5 L H locs lsA hH hl hS hK K
  unfold f_obj at hf
  split at hf
  next x r =>
    cases hf
    have hn : r.length ≤ 4 := hn
    have hc := cat_len (L := L) r
    obtain ⟨hx, hb, hml, ho, hts, -, -, -, -, -, hfr, hlo, -⟩ := cx
    exact W.objInit hx hb ho (hts _ hw1) (hts _ hw2) (hts _ hw3) rfl (hl.1.trans hml.symm) rfl hd hfr (by show 2 * 0 + _ + 12 ≤ _; omega) (K L H locs lsA hH hl hS hK h5)
  next => cases hf
theorem q_cast3 {index : Nat} (hw : Cond.classLink own index "[I" ∈ tw) (hd : decode cc pc = .ok (.checkcast index, 3)) : STP own cc nL mn f_cast3 pc := by
  intro p l e R s m args below meth c D cA n0 g0 L0 ge Z cx hrc hrs ls st g n hf hn h1 h2 h3 h4 h5 L H locs lsA hH hl hS hK K
  unfold f_cast3 at hf
  split at hf
  next b r =>
    cases hf
    have hc := (hH.1 b).2.1 hn
    have hnm : s.vm.findClass "[I" = some (cA 0) := (arrI cx.2.2.2.2.2.2.1).2
    have k := K L H locs lsA hH hl hS hK h5
    intro T hT X
    obtain ⟨vm', X', st'⟩ := X.checkcastYes cx.1 cx.2.2.2.1 (cx.2.2.2.2.1 _ hw) (by rw [hT]; exact hc) rfl hnm (va_asg _ _) (g := F0 m pc lsA (.ref (L b) :: r.map (rz L))) rfl rfl (by rw [cx.2.1]; exact hd)
    obtain ⟨t, a1, b1⟩ := k (T.setVm vm') hT X'
    exact ⟨t, st' t a1, b1⟩
  next => cases hf
theorem clamp_int {z : Int32} (hz : ¬ z < 0) : z.toInt = (z.toNatClampNeg : Int) := by
  have hz0 : (0 : Int) ≤ z.toInt := by
    have := Int32.not_lt.mp hz
    simpa using Int32.le_iff_toInt_le.mp this
  show z.toInt = ((z.toInt.toNat : Nat) : Int)
  omega
theorem q_acpy {index : Nat} (hw1 : Cond.methodLink own index arraycopyName ∈ tw) (hw2 : Cond.native arraycopyName ∈ tw) (hw3 : Cond.static arraycopyName ∈ tw) (hw4 : Cond.initialized "java/lang/System" ∈ tw) (hd : decode cc pc = .ok (.invokestatic index, 3)) : STP own cc nL mn f_acpy pc := by
  intro p l e R s m args below meth c D cA n0 g0 L0 ge Z cx hrc hrs ls st g n hf hn h1 h2 h3 h4 h5 L H locs lsA hH hl hS hK K
  unfold f_acpy at hf
  split at hf
  next i dp b sp a r =>
    cases hf
    obtain ⟨ka, kb, hsp, hdp, hi, e1, e2, hrl⟩ := hn
    have hc := cat_len (L := L) r
    obtain ⟨hx, hb, hml, ho, hts, -, hkf, -, -, -, hfr, hlo, -⟩ := cx
    have hca := (hH.1 a).2.1 ka
    have hcb := (hH.1 b).2.1 kb
    have hlb : lvx g b := ⟨by omega, by omega⟩
    obtain ⟨-, k0, hk0, cm0, hkk0⟩ := (arrI hkf).1 (gN g a) (fun j => .int (gI g a j))
    have hnf : nativeFrameWords "java/lang/System" "arraycopy" 5 ≤ 16 := by decide +kernel
    intro T hT X
    obtain ⟨vm', X', step⟩ := X.arraycopy hx ho (hts _ hw1) (hts _ hw2) (hts _ hw3) (hts _ hw4) (src := L a) (dst := L b) (cs := arrV (cA 0) (gN g a) (fun j => .int (gI g a j))) (cd := arrV (cA 0) (gN g b) (fun j => .int (gI g b j))) (srcPos := sp) (destPos := dp) (n := i) (by rw [hT]; exact hca) (by rw [hT]; exact hcb)
      (fun _ h => by cases h) (fun _ h => by cases h) (fun h => by cases h) (fun h => by cases h) hk0 hk0 hkk0 hkk0 (by simp [refKind]) hsp hdp hi
      (by rw [clamp_int hsp, clamp_int hi, arrV_size]; omega)
      (by rw [clamp_int hdp, clamp_int hi, arrV_size]; omega)
      (fun vm₁ _ j hj => by
        have ee : (arrV (cA 0) (gN g a) (fun j => Value.int (gI g a j))).slots.getD (sp.toNatClampNeg + j) .null = .int (gI g a (sp.toNatClampNeg + j)) := by
          rw [Array.getD_eq_getD_getElem?, arrV_read _ _ (by omega)]
          rfl
        refine ⟨?_, ?_⟩
        · rw [ee]; rfl
        · rw [ee]; exact trivial)
      (g := F0 m pc lsA (.int i :: .int dp :: .ref (L b) :: .int sp :: .ref (L a) :: r.map (rz L))) rfl (hl.1.trans hml.symm) (rest := r.map (rz L)) rfl (by rw [hb]; exact hd) hfr (by show 2 * 0 + _ + _ ≤ _; omega)
    have ec : copied (arrV (cA 0) (gN g a) (fun j => Value.int (gI g a j))) (arrV (cA 0) (gN g b) (fun j => .int (gI g b j))) sp dp i = arrV (cA 0) (gN g b) (fun j => .int (va_cpy (gI g a) (gI g b) sp.toNatClampNeg dp.toNatClampNeg i.toNatClampNeg j)) := va_copied (fun z => .int z) (cA 0) (cA 0) (gI g a) (gI g b) e1
    rw [ec] at X' step
    generalize hX1 : H.setIfInBounds (L b) (arrV (cA 0) (gN g b) (fun j => Value.int (va_cpy (gI g a) (gI g b) sp.toNatClampNeg dp.toNatClampNeg i.toNatClampNeg j))) = H1
    have hl1 : L b < H.size := (Array.getElem?_eq_some_iff.mp hcb).1
    have z1 : H1.size = H.size := by rw [← hX1]; simp
    have o1 : ∀ q : Nat, q ≠ L b → H1[q]? = H[q]? := fun q hq => by rw [← hX1]; simp [Array.getElem?_setIfInBounds, Ne.symm hq]
    have c1 : H1[L b]? = some (arrV (cA 0) (gN g b) (fun j => Value.int (va_cpy (gI g a) (gI g b) sp.toNatClampNeg dp.toNatClampNeg i.toNatClampNeg j))) := by rw [← hX1]; simp [Array.getElem?_setIfInBounds, hl1]
    have hH1 : HR D cA n0 (pA g b (va_cpy (gI g a) (gI g b) sp.toNatClampNeg dp.toNatClampNeg i.toNatClampNeg)) L H1 := by
      refine hH.upd b (fun _ => rfl) (fun x hx => ⟨rfl, by rw [gI_pA, if_neg hx], fun _ => rfl⟩) o1 z1 hlb ?_ (fun k hk => hH.2.2.2.2 b k hlb hk)
      unfold cellOK
      rw [gK_pA, gN_pA, gI_pA, if_pos rfl]
      exact ⟨fun q => by omega, fun _ => c1, fun q => by omega, fun q => by omega⟩
    obtain ⟨t, a1, b1⟩ := K L H1 (locs ++ ((arrV (cA 0) (gN g a) (fun j => Value.int (gI g a j))).stretch sp.toNatClampNeg i.toNatClampNeg).zipIdx.map fun q => ⟨L b, dp.toNatClampNeg + q.2⟩) lsA hH1 hl ⟨by rw [z1]; exact hS.1, fun q q1 q2 => by
        rw [o1 q (fun w => q2 (by rw [w]; exact (hH.2.2.1 b hlb).1))]
        exact hS.2.1 q q1 q2, fun q hq => by
        rcases List.mem_append.mp hq with hq | hq
        · exact hS.2.2 q hq
        · obtain ⟨z, -, hz⟩ := List.mem_map.mp hq
          rw [← hz]
          exact (hH.2.2.1 b hlb).1⟩ (hK.upd (fun _ => rfl) (fun x hx => ⟨rfl, by rw [gI_pA, if_neg (fun w => hlb.2 (by rw [← w]; exact hx))]⟩)) h5 _ (by rw [← hX1, ← hT]; rfl) X'
    exact ⟨t, step t a1, b1⟩
  next => cases hf
theorem q_cln5 {index : Nat} (hw1 : Cond.methodLink own index ⟨"[I", "clone", "()Ljava/lang/Object;"⟩ ∈ tw) (hw2 : Cond.sameMethod "[I" "java/lang/Object" "clone" "()Ljava/lang/Object;" ∈ tw) (hw3 : Cond.native ⟨"java/lang/Object", "clone", "()Ljava/lang/Object;"⟩ ∈ tw) (hw4 : Cond.instanceMethod ⟨"java/lang/Object", "clone", "()Ljava/lang/Object;"⟩ ∈ tw)
    (hw5 : Cond.selects "[I" ⟨"[I", "clone", "()Ljava/lang/Object;"⟩ ⟨"java/lang/Object", "clone", "()Ljava/lang/Object;"⟩ ∈ tw) (hw6 : Cond.castable "[I" "java/lang/Cloneable" ∈ nestW) (hd : decode cc pc = .ok (.invokevirtual index, 3)) (a : Nat) : STP own cc nL mn (f_cln5 a) pc := by
  intro p l e R s m args below meth c D cA n0 g0 L0 ge Z cx hrc hrs ls st g n hf hn h1 h2 h3 h4 h5 L H locs lsA hH hl hS hK K
  unfold f_cln5 at hf
  split at hf
  next b r =>
    cases hf
    obtain ⟨hfr, hb10, hb5, hrl, hal, hast⟩ := hn
    subst hb5
    obtain ⟨cell, q1, q2, q3, q4, q5, -, q6⟩ := cx.2.2.2.2.2.2.2.1.next hK (H := H) (fun q hq => hS.2.1 q (Nat.lt_of_lt_of_le hq cx.2.2.2.2.2.2.2.2.2.1) (Nat.not_le.mpr hq)) 5 hb10
    have q7 := q6 rfl
    have hcat := cat_len (L := L) r
    have hsz : n0 ≤ H.size := Nat.le_trans cx.2.2.2.2.2.2.2.2.2.1 hS.1
    obtain ⟨hx, hb, hml, ho, hts, -, hkf, -, -, -, hfrm, hlo, -⟩ := cx
    have hnm : s.vm.findClass "[I" = some (cA 0) := (arrI hkf).2
    obtain ⟨c0, t0', f1, f2, f3⟩ := Cond.castable_spec (va_Nw.use (A := args) rfl (hkf.2 _ hw6))
    cases hnm.symm.trans f1
    have e1 : gC (nw g a 11 (gN g 5) (gN g 5) (gI g 5)) - gC g0 = gC g - gC g0 + 1 := by rw [gC_nw]; omega
    have e2 : gS (nw g a 11 (gN g 5) (gN g 5) (gI g 5)) - gS g0 = gS g - gS g0 + gN g 5 := by rw [gS_nw]; omega
    have h3 : gC (nw g a 11 (gN g 5) (gN g 5) (gI g 5)) ≤ gC ge := h3
    have h4 : gS (nw g a 11 (gN g 5) (gN g 5) (gI g 5)) ≤ gS ge := h4
    rw [gC_nw] at h3
    rw [gS_nw] at h4
    have hce : ({ cls := cell.cls, slots := cell.slots } : Cell) = arrV (cA 0) (gN g 5) (fun j => .int (gI g 5 j)) := by
      rw [q7]
      unfold arrV
      congr 1
      apply Array.ext_getElem?
      intro j
      by_cases hj : j < gN g 5
      · rw [q5 j hj]
        simp [hj]
      · rw [Array.getElem?_eq_none (by omega), Array.getElem?_eq_none (by simp; omega)]
    intro T hT X
    obtain ⟨-, kA, hkA, comp, hkind⟩ := State.isArrayOf_alike X.warmed.alike ((arrI hkf).1 0 (fun _ => .null))
    obtain ⟨-, kS, hkS, compS, hkindS⟩ := (arrI hkf).1 0 (fun _ => .null)
    obtain ⟨vm', X', st'⟩ := X.cloneArray hx ho (hts _ hw1) (hts _ hw2) (hts _ hw3) (hts _ hw4) (hts _ hw5) (a := L 5) (cell := cell) (by rw [hT]; exact q1) (fun k h => q2.1 k h) q3 (by rw [q7]; exact hnm) f2 (by rw [q7]; exact f3)
      (fun i v hv => by
        rw [q7]
        have hk' : T.vm.classes[cA 0]? = some kA := hkA
        have hvi : ∃ x : Int32, v = .int x := by
          by_cases hi : i < gN g 5
          · rw [q5 i hi] at hv; cases hv; exact ⟨_, rfl⟩
          · rw [Array.getElem?_eq_none (by omega)] at hv; cases hv
        obtain ⟨x, rfl⟩ := hvi
        simp [State.fitsSlot, State.slotType?, hk', hkind, fits])
      (g := F0 m pc lsA (.ref (L 5) :: r.map (rz L))) rfl (hl.1.trans hml.symm) rfl (by rw [hb]; exact hd) hfrm (by show 2 * 0 + _ + 14 ≤ _; omega) (by omega) (by rw [q4]; omega) (hloader := by rw [q7]; exact Vm.clonesLoader_of_array hkS hkindS)
    rw [hce, q4] at X'
    generalize hH1 : H.push (arrV (cA 0) (gN g 5) (fun j => Value.int (gI g 5 j))) = H1
    have z1 : H1.size = H.size + 1 := by rw [← hH1, Array.size_push]
    have ee : H1[H.size]? = some (arrV (cA 0) (gN g 5) (fun j => Value.int (gI g 5 j))) := by rw [← hH1, Array.getElem?_push_size]
    have o1 : ∀ q : Nat, q < H.size → H1[q]? = H[q]? := fun q hq => by rw [← hH1, Array.getElem?_push, if_neg (Nat.ne_of_lt hq)]
    have hk := K (fun b => if b = a then H.size else L b) H1 locs lsA (hH.new (kd := 11) (n := gN g 5) (sz := gN g 5) (f := gI g 5) hfr ⟨by omega, by omega⟩ hsz o1 z1 ?_) (hl.new hal hfr.1) (hS.grow z1 o1) (hK.new hfr (by omega)) h5
    · rw [e1, e2] at hk
      have e4 : ((Value.ref a :: r).map (rz fun b => if b = a then H.size else L b)) = .ref H.size :: r.map (rz L) := by
        rw [List.map_cons, map_new hast hfr.1]
        simp only [rz, if_true]
      change W p l e R s m args below meth c H1 locs _ _ Z (F0 m (pc + 3) lsA ((Value.ref a :: r).map (rz fun b => if b = a then H.size else L b))) at hk
      rw [e4] at hk
      obtain ⟨t, b1, b2⟩ := hk ((T.setVm vm').pushCell (arrV (cA 0) (gN g 5) (fun j => Value.int (gI g 5 j)))) (by rw [← hH1, ← hT]; rfl) X'
      refine ⟨t, st' t ?_, b2⟩
      rw [hce, hT]
      exact b1
    · unfold cellOK
      rw [gK_nw, if_pos rfl, gN_nw, if_pos rfl, gI_nw, if_pos rfl]
      simp only [if_true]
      exact ⟨fun q => by omega, fun _ => ee, fun q => by omega, fun q => by omega⟩
  next => cases hf
end Lb
