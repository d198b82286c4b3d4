/-! ===== operations that this law has besides: long constants and sums, a remainder, a shift, a long's end ===== -/
def f_lc (v : Int64) (n : Nat) : mF := fun pc ls st g => some (True, pc + n, ls, .long v :: st, g)
def f_rem : mF := fun pc ls st g => match st with
  | .int y :: .int x :: r => some (¬ y = 0, pc + 1, ls, .int (x - x / y * y) :: r, g)
  | _ => none
def f_ladd : mF := fun pc ls st g => match st with
  | .long y :: .long x :: r => some (True, pc + 1, ls, .long (x + y) :: r, g)
  | _ => none
def f_jret : List Value → Option (Prop × Option Value) := fun st => match st with
  | [.long v] => some (True, some (.long v))
  | _ => none
theorem mo_lc {v : Int64} {n : Nat} : mono (f_lc v n) := by
  intro pc ls st g n h
  unfold f_lc at h
  (try split at h) <;> first | (cases h; exact ⟨Nat.le_refl _, Nat.le_refl _⟩) | cases h
theorem mo_rem  : mono (f_rem) := by
  intro pc ls st g n h
  unfold f_rem at h
  (try split at h) <;> first | (cases h; exact ⟨Nat.le_refl _, Nat.le_refl _⟩) | cases h
theorem mo_ladd  : mono (f_ladd) := by
  intro pc ls st g n h
  unfold f_ladd at h
  (try split at h) <;> first | (cases h; exact ⟨Nat.le_refl _, Nat.le_refl _⟩) | cases h
section Ops
variable {own : String} {mn : String × Nat} {cc : ByteArray} {nL pc : Nat}
theorem q_ldc2 {i : Nat} {v : Int64} (hw : Cond.constantLong own i v ∈ tw) (hd : decode cc pc = .ok (.ldc2_w i, 3)) : STP own cc nL mn (f_lc v 3) pc := by
  intro p l e R s m args below meth c D cA n0 g0 L0 ge Z cx _ _ ls st g n hf hn h1 h2 h3 h4 h5 L H locs lsA hH hl hS hK K
  cases hf
  exact lv_ldc2 cx.1 cx.2.1 cx.2.2.2.1 (cx.2.2.2.2.1 _ hw) hd (K L H locs lsA hH hl hS hK h5)
theorem q_irem (hd : decode cc pc = .ok (.irem, 1)) : STP own cc nL mn f_rem pc := by
  intro p l e R s m args below meth c D cA n0 g0 L0 ge Z cx _ _ ls st g n hf hn h1 h2 h3 h4 h5 L H locs lsA hH hl hS hK K
  unfold f_rem at hf
  split at hf
  · cases hf
    exact lv_irem cx.1 cx.2.1 hd hn (K L H locs lsA hH hl hS hK h5)
  · cases hf
theorem q_ishr (hd : decode cc pc = .ok (.ishr, 1)) : STP own cc nL mn (f_b2 fun x y => x >>> (y &&& 31)) pc := by
  intro p l e R s m args below meth c D cA n0 g0 L0 ge Z cx _ _ ls st g n hf hn h1 h2 h3 h4 h5 L H locs lsA hH hl hS hK K
  unfold f_b2 at hf
  split at hf
  · cases hf
    exact lv_ishr cx.1 cx.2.1 hd (K L H locs lsA hH hl hS hK h5)
  · cases hf
theorem q_ladd (hd : decode cc pc = .ok (.ladd, 1)) : STP own cc nL mn f_ladd pc := by
  intro p l e R s m args below meth c D cA n0 g0 L0 ge Z cx _ _ ls st g n hf hn h1 h2 h3 h4 h5 L H locs lsA hH hl hS hK K
  unfold f_ladd at hf
  split at hf
  · cases hf
    exact lv_ladd cx.1 cx.2.1 hd (K L H locs lsA hH hl hS hK h5)
  · cases hf
theorem q_lstore_n {k : Fin 4} {i : Nat} (hd : decode cc pc = .ok (.lstore_n k, 1)) (hi : (k : Nat) = i) : STP own cc nL mn (f_ls i 1) pc := by
  intro p l e R s m args below meth c D cA n0 g0 L0 ge Z cx _ _ ls st g n hf hn h1 h2 h3 h4 h5 L H locs lsA hH hl hS hK K
  unfold f_ls at hf
  split at hf
  next x r =>
    cases hf
    exact lv_lstore_n cx.1 cx.2.1 hd hi hl (h5 ▸ hn.2) rfl (fun lsB hB => K L H locs lsB hH (LH.set2 hn.1 hB) hS hK (by simp [h5]))
  next => cases hf
theorem r_lret (hd : decode cc pc = .ok (.lreturn, 1)) : SNDr own cc nL mn (some .long) (tR f_jret) pc := by
  intro p l e R s m args below meth c D cA n0 g0 L0 ve ge cx hr hrc hrs ls st g ht
  match st, ht with
  | [.long v], ht =>
    obtain ⟨-, rfl, rfl⟩ := ht
    exact ⟨⟨Nat.le_refl _, Nat.le_refl _⟩, fun a1 a2 a3 L H locs lsA hH hl hS hK => W.lret cx.1 cx.2.1 hr (fun t ht _ => QC_of (v := some (.long v)) hH hS hK t ht) hS.2.2 hd cx.2.2.2.2.2.1⟩
end Ops
section Oeq
variable {cd : List (Nat × mT)} {Q : mQ} {pc : Nat} {ls st : List Value} {g : mG}
theorem E_lc {v : Int64} {n : Nat} (hl : locs_ok cd) (hk : lk cd pc = tD (f_lc v n)) : WP cd Q pc ls st g = WP cd Q (pc + n) ls (.long v :: st) g := (WP_at hl hk).trans tand
theorem E_rem {x y : Int32} (hl : locs_ok cd) (hk : lk cd pc = tD f_rem) : WP cd Q pc ls (.int y :: .int x :: st) g = (¬ y = 0 ∧ WP cd Q (pc + 1) ls (.int (x - x / y * y) :: st) g) := WP_at hl hk
theorem E_ladd {x y : Int64} (hl : locs_ok cd) (hk : lk cd pc = tD f_ladd) : WP cd Q pc ls (.long y :: .long x :: st) g = WP cd Q (pc + 1) ls (.long (x + y) :: st) g := (WP_at hl hk).trans tand
theorem E_jret {v : Int64} (hl : locs_ok cd) (hk : lk cd pc = tR f_jret) : WP cd Q pc ls [.long v] g = Q (some (.long v)) g := (WP_at hl hk).trans tand
theorem alv1_long {g : mG} {x : Int64} : alv1 g (.long x) = True := rfl
end Oeq
