/-! ===== the transformers are true of the machine: the steps that leave the heap ===== -/
def CX (p : Program) (l : Launch) (e : Env) (R : Room) (s : State) (m : MethodId) (args : Array Value) (below : List Frame) (meth : Method) (c : Code) (D : va_G) (cA : Nat → ClassId) (n0 : Nat) (g0 : mG) (L0 : Nat → Nat) (own : String) (cc : ByteArray) (nL : Nat) (mn : String × Nat) : Prop :=
  p.tables.exec = Jvm.exec ∧ c.code = cc ∧ c.maxLocals = nL ∧ s.vm.findClass own = some m.cls ∧ (∀ w ∈ tw, w.before args s = true) ∧ meth.locks = false ∧ KF D cA s ∧ RO cA n0 g0 L0 s s.heap ∧ ST n0 L0 s s.heap ∧ n0 ≤ s.heap.size ∧ 1 ≤ R.frames ∧ 40 ≤ R.locals ∧ meth.name = mn.1 ∧ mn.2 ≤ R.frames ∧ 40 * mn.2 ≤ R.locals
def MP (p : Program) (l : Launch) (e : Env) (R : Room) (s : State) (m : MethodId) (args : Array Value) (below : List Frame) (meth : Method) (c : Code) (D : va_G) (cA : Nat → ClassId) (n0 : Nat) (g0 : mG) (L0 : Nat → Nat) (nL : Nat) (ge : mG) (Z : State → Prop) : mP := fun pc ls st g =>
  (gC g ≤ gC ge ∧ gS g ≤ gS ge) ∧ (gC g0 ≤ gC g → gS g0 ≤ gS g → ls.length = nL → ∀ (L : Nat → Nat) (H : Heap) (locs : List Loc) (lsA : Array Slot), HR D cA n0 g L H → LH lsA nL L ls → va_S (fun q => n0 ≤ q) s.heap H locs → Kp g0 L0 g L →
    W p l e R s m args below meth c H locs (gC g - gC g0) (gS g - gS g0) Z (F0 m pc lsA (st.map (rz L))))
def SND (own : String) (cc : ByteArray) (nL : Nat) (mn : String × Nat) (t : mT) (pc : Nat) : Prop :=
  ∀ (p : Program) (l : Launch) (e : Env) (R : Room) (s : State) (m : MethodId) (args : Array Value) (below : List Frame) (meth : Method) (c : Code) (D : va_G) (cA : Nat → ClassId) (n0 : Nat) (g0 : mG) (L0 : Nat → Nat) (ve : Option Value) (ge : mG) (Z : State → Prop),
    CX p l e R s m args below meth c D cA n0 g0 L0 own cc nL mn → gC ge - gC g0 ≤ R.cells → gS ge - gS g0 ≤ R.slots →
    ∀ (Qf : mQ) (ls st : List Value) (g : mG), t Qf (MP p l e R s m args below meth c D cA n0 g0 L0 nL ge Z) pc ls st g → MP p l e R s m args below meth c D cA n0 g0 L0 nL ge Z pc ls st g
/-- one step, its condition given -/
def STP (own : String) (cc : ByteArray) (nL : Nat) (mn : String × Nat) (f : mF) (pc : Nat) : Prop :=
  ∀ (p : Program) (l : Launch) (e : Env) (R : Room) (s : State) (m : MethodId) (args : Array Value) (below : List Frame) (meth : Method) (c : Code) (D : va_G) (cA : Nat → ClassId) (n0 : Nat) (g0 : mG) (L0 : Nat → Nat) (ge : mG) (Z : State → Prop),
    CX p l e R s m args below meth c D cA n0 g0 L0 own cc nL mn → gC ge - gC g0 ≤ R.cells → gS ge - gS g0 ≤ R.slots →
    ∀ (ls st : List Value) (g : mG) (n : Prop × Nat × List Value × List Value × mG), f pc ls st g = some n → n.1 → gC g0 ≤ gC g → gS g0 ≤ gS g → gC n.2.2.2.2 ≤ gC ge → gS n.2.2.2.2 ≤ gS ge → ls.length = nL →
    ∀ (L : Nat → Nat) (H : Heap) (locs : List Loc) (lsA : Array Slot), HR D cA n0 g L H → LH lsA nL L ls → va_S (fun q => n0 ≤ q) s.heap H locs → Kp g0 L0 g L →
    (∀ (L' : Nat → Nat) (H' : Heap) (locs' : List Loc) (lsA' : Array Slot), HR D cA n0 n.2.2.2.2 L' H' → LH lsA' nL L' n.2.2.1 → va_S (fun q => n0 ≤ q) s.heap H' locs' → Kp g0 L0 n.2.2.2.2 L' → n.2.2.1.length = nL →
      W p l e R s m args below meth c H' locs' (gC n.2.2.2.2 - gC g0) (gS n.2.2.2.2 - gS g0) Z (F0 m n.2.1 lsA' (n.2.2.2.1.map (rz L')))) →
    W p l e R s m args below meth c H locs (gC g - gC g0) (gS g - gS g0) Z (F0 m pc lsA (st.map (rz L)))
theorem snd_D {own : String} {mn : String × Nat} {cc : ByteArray} {nL : Nat} {f : mF} {pc : Nat} (hm : mono f) (h : STP own cc nL mn f pc) : SND own cc nL mn (tD f) pc := by
  intro p l e R s m args below meth c D cA n0 g0 L0 ve ge Z cx hrc hrs Qf ls st g ht
  cases hf : f pc ls st g with
  | none => simp [tD, hf] at ht
  | some n =>
    simp only [tD, hf] at ht
    obtain ⟨hc, ⟨hb1, hb2⟩, hk⟩ := ht
    obtain ⟨m1, m2⟩ := hm _ _ _ _ _ hf
    refine ⟨⟨Nat.le_trans m1 hb1, Nat.le_trans m2 hb2⟩, fun a1 a2 a3 L H locs lsA hH hl hS hK => ?_⟩
    exact h p l e R s m args below meth c D cA n0 g0 L0 ge Z cx hrc hrs ls st g n hf hc a1 a2 hb1 hb2 a3 L H locs lsA hH hl hS hK (fun L' H' locs' lsA' b1 b2 b3 b4 b5 => hk (Nat.le_trans a1 m1) (Nat.le_trans a2 m2) b5 L' H' locs' lsA' b1 b2 b3 b4)
theorem snd_E {own : String} {mn : String × Nat} {cc : ByteArray} {nL : Nat} {f : Nat → mF} {pc : Nat} (hm : ∀ a, mono (f a)) (h : ∀ a, STP own cc nL mn (f a) pc) : SND own cc nL mn (tE f) pc := by
  intro p l e R s m args below meth c D cA n0 g0 L0 ve ge Z cx hrc hrs Qf ls st g ⟨a, ht⟩
  exact snd_D (hm a) (h a) p l e R s m args below meth c D cA n0 g0 L0 ve ge Z cx hrc hrs Qf ls st g ht
section Plain
variable {own : String} {mn : String × Nat} {cc : ByteArray} {nL pc : Nat}
theorem q_iconst {i : Int} {v : Int32} (hd : decode cc pc = .ok (.iconst i, 1)) (hv : Int32.ofInt i = v) : STP own cc nL mn (f_ic v 1) pc := by
  intro p l e R s m args below meth c D cA n0 g0 L0 ge Z cx _ _ ls st g n hf hn h1 h2 h3 h4 h5 L H locs lsA hH hl hS hK K
  cases hf
  exact lv_iconst cx.1 cx.2.1 hd hv (K L H locs lsA hH hl hS hK h5)
theorem q_bipush {i : Int} {v : Int32} (hd : decode cc pc = .ok (.bipush i, 2)) (hv : (Int8.ofInt i).toInt32 = v) : STP own cc nL mn (f_ic v 2) pc := by
  intro p l e R s m args below meth c D cA n0 g0 L0 ge Z cx _ _ ls st g n hf hn h1 h2 h3 h4 h5 L H locs lsA hH hl hS hK K
  cases hf
  exact lv_bipush cx.1 cx.2.1 hd hv (K L H locs lsA hH hl hS hK h5)
theorem q_sipush {i : Int} {v : Int32} (hd : decode cc pc = .ok (.sipush i, 3)) (hv : (Int16.ofInt i).toInt32 = v) : STP own cc nL mn (f_ic v 3) pc := by
  intro p l e R s m args below meth c D cA n0 g0 L0 ge Z cx _ _ ls st g n hf hn h1 h2 h3 h4 h5 L H locs lsA hH hl hS hK K
  cases hf
  exact lv_sipush cx.1 cx.2.1 hd hv (K L H locs lsA hH hl hS hK h5)
theorem q_ldc {i : Nat} {v : Int32} (hw : Cond.constant own i v ∈ tw) (hd : decode cc pc = .ok (.ldc i, 2)) : STP own cc nL mn (f_ic v 2) pc := by
  intro p l e R s m args below meth c D cA n0 g0 L0 ge Z cx _ _ ls st g n hf hn h1 h2 h3 h4 h5 L H locs lsA hH hl hS hK K
  cases hf
  exact lv_ldc cx.1 cx.2.1 cx.2.2.2.1 (cx.2.2.2.2.1 _ hw) hd (K L H locs lsA hH hl hS hK h5)
theorem q_nul (hd : decode cc pc = .ok (.aconst_null, 1)) : STP own cc nL mn f_nul pc := by
  intro p l e R s m args below meth c D cA n0 g0 L0 ge Z cx _ _ ls st g n hf hn h1 h2 h3 h4 h5 L H locs lsA hH hl hS hK K
  cases hf
  exact lv_null cx.1 cx.2.1 hd (K L H locs lsA hH hl hS hK h5)
theorem q_iload_n {k : Fin 4} {i : Nat} (hd : decode cc pc = .ok (.iload_n k, 1)) (hi : (k : Nat) = i) : STP own cc nL mn (f_il i 1) pc := by
  intro p l e R s m args below meth c D cA n0 g0 L0 ge Z cx _ _ ls st g n hf hn h1 h2 h3 h4 h5 L H locs lsA hH hl hS hK K
  unfold f_il at hf
  split at hf
  next x hx =>
    cases hf
    exact lv_iload_n cx.1 cx.2.1 hd hi (hl.at hx (fun z h => by cases h)) (K L H locs lsA hH hl hS hK h5)
  next => cases hf
theorem q_iload {i : Nat} (hd : decode cc pc = .ok (.iload i, 2)) : STP own cc nL mn (f_il i 2) pc := by
  intro p l e R s m args below meth c D cA n0 g0 L0 ge Z cx _ _ ls st g n hf hn h1 h2 h3 h4 h5 L H locs lsA hH hl hS hK K
  unfold f_il at hf
  split at hf
  next x hx =>
    cases hf
    exact lv_iload cx.1 cx.2.1 hd (hl.at hx (fun z h => by cases h)) (K L H locs lsA hH hl hS hK h5)
  next => cases hf
theorem q_lload_n {k : Fin 4} {i : Nat} (hd : decode cc pc = .ok (.lload_n k, 1)) (hi : (k : Nat) = i) : STP own cc nL mn (f_ll i 1) pc := by
  intro p l e R s m args below meth c D cA n0 g0 L0 ge Z cx _ _ ls st g n hf hn h1 h2 h3 h4 h5 L H locs lsA hH hl hS hK K
  unfold f_ll at hf
  split at hf
  next x hx =>
    cases hf
    exact lv_lload_n cx.1 cx.2.1 hd hi (hl.at hx (fun z h => by cases h)) (K L H locs lsA hH hl hS hK h5)
  next => cases hf
theorem q_lload {i : Nat} (hd : decode cc pc = .ok (.lload i, 2)) : STP own cc nL mn (f_ll i 2) pc := by
  intro p l e R s m args below meth c D cA n0 g0 L0 ge Z cx _ _ ls st g n hf hn h1 h2 h3 h4 h5 L H locs lsA hH hl hS hK K
  unfold f_ll at hf
  split at hf
  next x hx =>
    cases hf
    exact lv_lload cx.1 cx.2.1 hd (hl.at hx (fun z h => by cases h)) (K L H locs lsA hH hl hS hK h5)
  next => cases hf
theorem q_aload_n {k : Fin 4} {i : Nat} (hd : decode cc pc = .ok (.aload_n k, 1)) (hi : (k : Nat) = i) : STP own cc nL mn (f_al i 1) pc := by
  intro p l e R s m args below meth c D cA n0 g0 L0 ge Z cx _ _ ls st g n hf hn h1 h2 h3 h4 h5 L H locs lsA hH hl hS hK K
  unfold f_al at hf
  split at hf
  next x hx =>
    cases hf
    exact lv_aload_n cx.1 cx.2.1 hd hi (hl.at hx (fun z h => by cases h)) (K L H locs lsA hH hl hS hK h5)
  next hx =>
    cases hf
    exact lv_aload_nN cx.1 cx.2.1 hd hi (hl.at hx (fun z h => by cases h)) (K L H locs lsA hH hl hS hK h5)
  next => cases hf
theorem q_aload {i : Nat} (hd : decode cc pc = .ok (.aload i, 2)) : STP own cc nL mn (f_al i 2) pc := by
  intro p l e R s m args below meth c D cA n0 g0 L0 ge Z cx _ _ ls st g n hf hn h1 h2 h3 h4 h5 L H locs lsA hH hl hS hK K
  unfold f_al at hf
  split at hf
  next x hx =>
    cases hf
    exact lv_aload cx.1 cx.2.1 hd (hl.at hx (fun z h => by cases h)) (K L H locs lsA hH hl hS hK h5)
  next hx =>
    cases hf
    exact lv_aloadN cx.1 cx.2.1 hd (hl.at hx (fun z h => by cases h)) (K L H locs lsA hH hl hS hK h5)
  next => cases hf
theorem q_istore_n {k : Fin 4} {i : Nat} (hd : decode cc pc = .ok (.istore_n k, 1)) (hi : (k : Nat) = i) : STP own cc nL mn (f_is i 1) pc := by
  intro p l e R s m args below meth c D cA n0 g0 L0 ge Z cx _ _ ls st g n hf hn h1 h2 h3 h4 h5 L H locs lsA hH hl hS hK K
  unfold f_is at hf
  split at hf
  next x r =>
    cases hf
    exact lv_istore_n cx.1 cx.2.1 hd hi hl (h5 ▸ hn.2) rfl (fun lsB hB => K L H locs lsB hH (LH.set (v := .int x) hn.1 hB) hS hK (by simp [h5]))
  next => cases hf
theorem q_istore {i : Nat} (hd : decode cc pc = .ok (.istore i, 2)) : STP own cc nL mn (f_is i 2) pc := by
  intro p l e R s m args below meth c D cA n0 g0 L0 ge Z cx _ _ ls st g n hf hn h1 h2 h3 h4 h5 L H locs lsA hH hl hS hK K
  unfold f_is at hf
  split at hf
  next x r =>
    cases hf
    exact lv_istore cx.1 cx.2.1 hd hl (h5 ▸ hn.2) rfl (fun lsB hB => K L H locs lsB hH (LH.set (v := .int x) hn.1 hB) hS hK (by simp [h5]))
  next => cases hf
theorem q_astore_n {k : Fin 4} {i : Nat} (hd : decode cc pc = .ok (.astore_n k, 1)) (hi : (k : Nat) = i) : STP own cc nL mn (f_as i 1) pc := by
  intro p l e R s m args below meth c D cA n0 g0 L0 ge Z cx _ _ ls st g n hf hn h1 h2 h3 h4 h5 L H locs lsA hH hl hS hK K
  unfold f_as at hf
  split at hf
  next x r =>
    cases hf
    exact lv_astore_n cx.1 cx.2.1 hd hi hl (h5 ▸ hn.2) rfl (fun lsB hB => K L H locs lsB hH (LH.set (v := .ref x) hn.1 hB) hS hK (by simp [h5]))
  next r =>
    cases hf
    exact lv_astore_nN cx.1 cx.2.1 hd hi hl (h5 ▸ hn.2) rfl (fun lsB hB => K L H locs lsB hH (LH.set (v := .null) hn.1 hB) hS hK (by simp [h5]))
  next => cases hf
theorem q_astore {i : Nat} (hd : decode cc pc = .ok (.astore i, 2)) : STP own cc nL mn (f_as i 2) pc := by
  intro p l e R s m args below meth c D cA n0 g0 L0 ge Z cx _ _ ls st g n hf hn h1 h2 h3 h4 h5 L H locs lsA hH hl hS hK K
  unfold f_as at hf
  split at hf
  next x r =>
    cases hf
    exact lv_astore cx.1 cx.2.1 hd hl (h5 ▸ hn.2) rfl (fun lsB hB => K L H locs lsB hH (LH.set (v := .ref x) hn.1 hB) hS hK (by simp [h5]))
  next r =>
    cases hf
    exact lv_astoreN cx.1 cx.2.1 hd hl (h5 ▸ hn.2) rfl (fun lsB hB => K L H locs lsB hH (LH.set (v := .null) hn.1 hB) hS hK (by simp [h5]))
  next => cases hf
theorem LH.set2 {nL : Nat} {L : Nat → Nat} {ls : List Value} {i : Nat} {x : Int64} (hn : nlb ls i) : ∀ {lsB : Array Slot}, lv_has lsB nL ((i, Value.long x) :: (lvs L 0 ls).filter (fun q => !(q.1 == i) && (!(q.1 == i + 1) && !(q.1 + 1 == i && q.2.category == 2)))) → LH lsB nL L ((ls.set i (.long x)).set (i + 1) (.retAddr 0)) := by
  intro lsB h
  refine ⟨h.1, h.2.1, fun q hq => h.2.2 q ?_⟩
  obtain ⟨k, w, h1, h2, rfl⟩ := (lvs_mem _ _ _).mp hq
  rw [Nat.zero_add]
  have hk1 : k ≠ i + 1 := by
    rintro rfl
    rw [List.getElem?_set] at h1
    simp only [if_true] at h1
    split at h1
    · cases h1; exact h2 0 rfl
    · cases h1
  rw [List.getElem?_set_ne (Ne.symm hk1)] at h1
  by_cases hk : k = i
  · subst hk
    rw [List.getElem?_set] at h1
    simp only [if_true] at h1
    split at h1
    · cases h1
      exact List.mem_cons_self
    · cases h1
  · rw [List.getElem?_set_ne (Ne.symm hk)] at h1
    refine List.mem_cons_of_mem _ (List.mem_filter.mpr ⟨(lvs_mem _ _ _).mpr ⟨k, w, h1, h2, by rw [Nat.zero_add]⟩, ?_⟩)
    have hc : ¬ (k + 1 = i ∧ w.category = 2) := by
      rintro ⟨rfl, hc⟩
      simp only [nlb, h1] at hn
      cases w <;> simp_all [nl1, Value.category]
    simp only [rz_cat, Bool.and_eq_true, Bool.not_eq_true', beq_eq_false_iff_ne, ne_eq, Bool.and_eq_false_iff, beq_iff_eq]
    refine ⟨hk, hk1, ?_⟩
    by_cases h5 : k + 1 = i
    · exact Or.inr (by simpa using fun h6 => hc ⟨h5, h6⟩)
    · exact Or.inl (by simpa using h5)
theorem q_lstore {i : Nat} (hd : decode cc pc = .ok (.lstore i, 2)) : STP own cc nL mn (f_ls i 2) pc := by
  intro p l e R s m args below meth c D cA n0 g0 L0 ge Z cx _ _ ls st g n hf hn h1 h2 h3 h4 h5 L H locs lsA hH hl hS hK K
  unfold f_ls at hf
  split at hf
  next x r =>
    cases hf
    exact lv_lstore cx.1 cx.2.1 hd hl (h5 ▸ hn.2) rfl (fun lsB hB => K L H locs lsB hH (LH.set2 hn.1 hB) hS hK (by simp [h5]))
  next => cases hf
theorem q_inc {i : Nat} {z : Int} {d : Int32} (hd : decode cc pc = .ok (.iinc i z, 3)) (hz : Int32.ofInt z = d) : STP own cc nL mn (f_inc i d) pc := by
  intro p l e R s m args below meth c D cA n0 g0 L0 ge Z cx _ _ ls st g n hf hn h1 h2 h3 h4 h5 L H locs lsA hH hl hS hK K
  unfold f_inc at hf
  split at hf
  next x hx =>
    cases hf
    have hm : (i, Value.int x) ∈ lvs L 0 ls := (lvs_mem ls 0 _).mpr ⟨i, .int x, hx, (fun z h => by cases h), by rw [Nat.zero_add]; rfl⟩
    obtain ⟨k, hk⟩ := List.getElem?_of_mem hm
    have hi : i < nL := h5 ▸ (List.getElem?_eq_some_iff.mp hx).1
    exact lv_iinc cx.1 cx.2.1 hd hl hk (by rw [hz]) hi rfl (fun lsB hB => K L H locs lsB hH (LH.set (v := .int (x + d)) hn hB) hS hK (by simp [h5]))
  next => cases hf
theorem q_iadd (hd : decode cc pc = .ok (.iadd, 1)) : STP own cc nL mn (f_b2 fun x y => x + y) pc := by
  intro p l e R s m args below meth c D cA n0 g0 L0 ge Z cx _ _ ls st g n hf hn h1 h2 h3 h4 h5 L H locs lsA hH hl hS hK K
  unfold f_b2 at hf
  split at hf
  · cases hf
    exact lv_iadd cx.1 cx.2.1 hd (K L H locs lsA hH hl hS hK h5)
  · cases hf
theorem q_isub (hd : decode cc pc = .ok (.isub, 1)) : STP own cc nL mn (f_b2 fun x y => x - y) pc := by
  intro p l e R s m args below meth c D cA n0 g0 L0 ge Z cx _ _ ls st g n hf hn h1 h2 h3 h4 h5 L H locs lsA hH hl hS hK K
  unfold f_b2 at hf
  split at hf
  · cases hf
    exact lv_isub cx.1 cx.2.1 hd (K L H locs lsA hH hl hS hK h5)
  · cases hf
theorem q_imul (hd : decode cc pc = .ok (.imul, 1)) : STP own cc nL mn (f_b2 fun x y => x * y) pc := by
  intro p l e R s m args below meth c D cA n0 g0 L0 ge Z cx _ _ ls st g n hf hn h1 h2 h3 h4 h5 L H locs lsA hH hl hS hK K
  unfold f_b2 at hf
  split at hf
  · cases hf
    exact lv_imul cx.1 cx.2.1 hd (K L H locs lsA hH hl hS hK h5)
  · cases hf
theorem q_iand (hd : decode cc pc = .ok (.iand, 1)) : STP own cc nL mn (f_b2 fun x y => x &&& y) pc := by
  intro p l e R s m args below meth c D cA n0 g0 L0 ge Z cx _ _ ls st g n hf hn h1 h2 h3 h4 h5 L H locs lsA hH hl hS hK K
  unfold f_b2 at hf
  split at hf
  · cases hf
    exact lv_iand cx.1 cx.2.1 hd (K L H locs lsA hH hl hS hK h5)
  · cases hf
theorem q_idiv (hd : decode cc pc = .ok (.idiv, 1)) : STP own cc nL mn f_div pc := by
  intro p l e R s m args below meth c D cA n0 g0 L0 ge Z cx _ _ ls st g n hf hn h1 h2 h3 h4 h5 L H locs lsA hH hl hS hK K
  unfold f_div at hf
  split at hf
  · cases hf
    exact lv_idiv cx.1 cx.2.1 hd hn (K L H locs lsA hH hl hS hK h5)
  · cases hf
theorem q_i2l (hd : decode cc pc = .ok (.i2l, 1)) : STP own cc nL mn f_i2l pc := by
  intro p l e R s m args below meth c D cA n0 g0 L0 ge Z cx _ _ ls st g n hf hn h1 h2 h3 h4 h5 L H locs lsA hH hl hS hK K
  unfold f_i2l at hf
  split at hf
  · cases hf
    exact lv_i2l cx.1 cx.2.1 hd rfl (K L H locs lsA hH hl hS hK h5)
  · cases hf
theorem q_l2i (hd : decode cc pc = .ok (.l2i, 1)) : STP own cc nL mn f_l2i pc := by
  intro p l e R s m args below meth c D cA n0 g0 L0 ge Z cx _ _ ls st g n hf hn h1 h2 h3 h4 h5 L H locs lsA hH hl hS hK K
  unfold f_l2i at hf
  split at hf
  · cases hf
    exact lv_l2i cx.1 cx.2.1 hd rfl (K L H locs lsA hH hl hS hK h5)
  · cases hf
theorem q_i2c (hd : decode cc pc = .ok (.i2c, 1)) : STP own cc nL mn f_i2c pc := by
  intro p l e R s m args below meth c D cA n0 g0 L0 ge Z cx _ _ ls st g n hf hn h1 h2 h3 h4 h5 L H locs lsA hH hl hS hK K
  unfold f_i2c at hf
  split at hf
  · cases hf
    exact lv_i2c cx.1 cx.2.1 hd rfl (K L H locs lsA hH hl hS hK h5)
  · cases hf
theorem q_lmul (hd : decode cc pc = .ok (.lmul, 1)) : STP own cc nL mn f_lmul pc := by
  intro p l e R s m args below meth c D cA n0 g0 L0 ge Z cx _ _ ls st g n hf hn h1 h2 h3 h4 h5 L H locs lsA hH hl hS hK K
  unfold f_lmul at hf
  split at hf
  · cases hf
    exact lv_lmul cx.1 cx.2.1 hd (K L H locs lsA hH hl hS hK h5)
  · cases hf
theorem q_lcmp (hd : decode cc pc = .ok (.lcmp, 1)) : STP own cc nL mn f_lcmp pc := by
  intro p l e R s m args below meth c D cA n0 g0 L0 ge Z cx _ _ ls st g n hf hn h1 h2 h3 h4 h5 L H locs lsA hH hl hS hK K
  unfold f_lcmp at hf
  split at hf
  · cases hf
    exact W.lcmp cx.1 cx.2.1 hd (K L H locs lsA hH hl hS hK h5)
  · cases hf
theorem cat1_rz {L : Nat → Nat} {v : Value} (h : cat1 v) : (rz L v).category = 1 := by cases v <;> simp_all [cat1, rz, Value.category]
theorem q_dup (hd : decode cc pc = .ok (.dup, 1)) : STP own cc nL mn f_dup pc := by
  intro p l e R s m args below meth c D cA n0 g0 L0 ge Z cx _ _ ls st g n hf hn h1 h2 h3 h4 h5 L H locs lsA hH hl hS hK K
  unfold f_dup at hf
  split at hf
  · cases hf
    exact lv_dup cx.1 cx.2.1 hd (cat1_rz hn) (K L H locs lsA hH hl hS hK h5)
  · cases hf
theorem q_dup2 (hd : decode cc pc = .ok (.dup2, 1)) : STP own cc nL mn f_dup2 pc := by
  intro p l e R s m args below meth c D cA n0 g0 L0 ge Z cx _ _ ls st g n hf hn h1 h2 h3 h4 h5 L H locs lsA hH hl hS hK K
  unfold f_dup2 at hf
  split at hf
  · cases hf
    first | exact lv_dup2_11 cx.1 cx.2.1 hd (cat1_rz hn.1) (cat1_rz hn.2) (K L H locs lsA hH hl hS hK h5) | exact lv_dup2_11 cx.1 cx.2.1 hd (cat1_rz hn.2) (cat1_rz hn.1) (K L H locs lsA hH hl hS hK h5)
  · cases hf
theorem q_goto {off : Int} {tgt : Nat} (hd : decode cc pc = .ok (.goto off, 3)) (ht : (pc : Int) + off = (tgt : Int)) : STP own cc nL mn (f_goto tgt) pc := by
  intro p l e R s m args below meth c D cA n0 g0 L0 ge Z cx _ _ ls st g n hf hn h1 h2 h3 h4 h5 L H locs lsA hH hl hS hK K
  cases hf
  exact lv_goto cx.1 cx.2.1 hd ht (K L H locs lsA hH hl hS hK h5)
theorem q_ifnull {off : Int} {tgt : Nat} (hd : decode cc pc = .ok (.ifnull off, 3)) (ht : (pc : Int) + off = (tgt : Int)) : STP own cc nL mn (f_ifn tgt true) pc := by
  intro p l e R s m args below meth c D cA n0 g0 L0 ge Z cx _ _ ls st g n hf hn h1 h2 h3 h4 h5 L H locs lsA hH hl hS hK K
  unfold f_ifn at hf
  split at hf
  · cases hf
    exact lv_ifnull cx.1 cx.2.1 hd (K L H locs lsA hH hl hS hK h5)
  · cases hf
    exact lv_ifnullN cx.1 cx.2.1 hd ht (K L H locs lsA hH hl hS hK h5)
  · cases hf
theorem q_ifnonnull {off : Int} {tgt : Nat} (hd : decode cc pc = .ok (.ifnonnull off, 3)) (ht : (pc : Int) + off = (tgt : Int)) : STP own cc nL mn (f_ifn tgt false) pc := by
  intro p l e R s m args below meth c D cA n0 g0 L0 ge Z cx _ _ ls st g n hf hn h1 h2 h3 h4 h5 L H locs lsA hH hl hS hK K
  unfold f_ifn at hf
  split at hf
  · cases hf
    exact lv_ifnonnull cx.1 cx.2.1 hd ht (K L H locs lsA hH hl hS hK h5)
  · cases hf
    exact lv_ifnonnullN cx.1 cx.2.1 hd (K L H locs lsA hH hl hS hK h5)
  · cases hf
theorem q_sw {dflt lo hi : Int} {offs : Array Int} {len d : Nat} {ts : List Nat} (hd : decode cc pc = .ok (.tableswitch dflt lo hi offs, len)) (h0 : (pc : Int) + dflt = (d : Int)) (hts : offs.toList.map (fun o => (pc : Int) + o) = ts.map (fun t : Nat => (t : Int))) (hlen : (offs.size : Int) = hi - lo + 1) : STP own cc nL mn (f_sw lo hi d ts) pc := by
  intro p l e R s m args below meth c D cA n0 g0 L0 ge Z cx _ _ ls st g n hf hn h1 h2 h3 h4 h5 L H locs lsA hH hl hS hK K
  unfold f_sw at hf
  split at hf
  next x r =>
    cases hf
    by_cases hb : x.toInt < lo ∨ hi < x.toInt
    · rw [if_pos hb] at K
      exact lv_tableOut cx.1 cx.2.1 hd hb h0 (K L H locs lsA hH hl hS hK h5)
    · rw [if_neg hb] at K
      have b1 : ¬ x.toInt < lo := fun h => hb (Or.inl h)
      have b2 : ¬ hi < x.toInt := fun h => hb (Or.inr h)
      have hi' : (x.toInt - lo).toNat < offs.size := by omega
      have e1 : offs[(x.toInt - lo).toNat]? = some offs[(x.toInt - lo).toNat] := Array.getElem?_eq_getElem hi'
      refine lv_tableIn cx.1 cx.2.1 hd b1 b2 e1 ?_ (K L H locs lsA hH hl hS hK h5)
      have e2 : (ts.map (fun t : Nat => (t : Int)))[(x.toInt - lo).toNat]? = some ((pc : Int) + offs[(x.toInt - lo).toNat]) := by
        rw [← hts, List.getElem?_map, Array.getElem?_toList, e1]; rfl
      rw [List.getElem?_map] at e2
      cases e3 : ts[(x.toInt - lo).toNat]? with
      | none => rw [e3] at e2; cases e2
      | some t =>
        rw [e3] at e2
        rw [List.getD_eq_getElem?_getD, e3]
        exact (Option.some.inj e2).symm
  next => cases hf
end Plain
