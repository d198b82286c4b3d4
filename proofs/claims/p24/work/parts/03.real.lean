/-! ===== what a heap of labels means in the machine's heap ===== -/
def xR (kd : Nat) : String := match kd with
  | 1 => RX0 | 2 => RX1 | 3 => RX2 | 4 => RX3 | 5 => RX4 | 6 => RX5 | 7 => RX6 | _ => RX6
def xT (kd : Nat) : u_T := match kd with
  | 1 => TX0 | 2 => TX1 | 3 => TX2 | 4 => TX3 | 5 => TX4 | 6 => TX5 | 7 => TX6 | _ => TX6
def xn (kd : Nat) : Nat := match kd with
  | 1 => 8 | 2 => 4 | 3 => 6 | 4 => 5 | 5 => 3 | 6 => 14 | 7 => 7 | _ => 7
def xty (kd : Nat) : Nat → FieldType := match kd with
  | 1 => tyX0 | 2 => tyX1 | 3 => tyX2 | 4 => tyX3 | 5 => tyX4 | 6 => tyX5 | 7 => tyX6 | _ => tyX6
def isRf (kd k : Nat) : Bool := match xty kd k with
  | .int => false
  | .boolean => false
  | _ => true
def mcl : List vw_C := [(RX0, TX0, 8), (RX1, TX1, 4), (RX2, TX2, 6), (RX3, TX3, 5), (RX4, TX4, 3), (RX5, TX5, 14), (RX6, TX6, 7), (RX6, TX6, 7)]
theorem kd8 {P : Nat → Prop} (h1 : P 1) (h2 : P 2) (h3 : P 3) (h4 : P 4) (h5 : P 5) (h6 : P 6) (h7 : P 7) (h8 : P 8) {kd : Nat} (h : 1 ≤ kd ∧ kd ≤ 8) : P kd := by
  obtain ⟨a, b⟩ := h
  match kd, a, b with
  | 1, _, _ => exact h1
  | 2, _, _ => exact h2
  | 3, _, _ => exact h3
  | 4, _, _ => exact h4
  | 5, _, _ => exact h5
  | 6, _, _ => exact h6
  | 7, _, _ => exact h7
  | 8, _, _ => exact h8
theorem mcl_at {kd : Nat} (h : 1 ≤ kd ∧ kd ≤ 8) : mcl[kd - 1]? = some (xR kd, xT kd, xn kd) := kd8 (P := fun kd => mcl[kd - 1]? = some (xR kd, xT kd, xn kd)) rfl rfl rfl rfl rfl rfl rfl rfl h
theorem xnm {kd : Nat} (h : 1 ≤ kd ∧ kd ≤ 8) : ∀ a, a < xn kd → ∀ b, b < xn kd → a ≠ b → (xT kd a).2.1 ≠ (xT kd b).2.1 := kd8 (P := fun kd => ∀ a, a < xn kd → ∀ b, b < xn kd → a ≠ b → (xT kd a).2.1 ≠ (xT kd b).2.1) nmX0 nmX1 nmX2 nmX3 nmX4 nmX5 nmX6 nmX6 h
theorem xty_ok {kd : Nat} (h : 1 ≤ kd ∧ kd ≤ 8) : ∀ k, k < xn kd → parseFieldDescriptor (xT kd k).2.2.1 = some (xty kd k) := kd8 (P := fun kd => ∀ k, k < xn kd → parseFieldDescriptor (xT kd k).2.2.1 = some (xty kd k)) tyX0_ok tyX1_ok tyX2_ok tyX3_ok tyX4_ok tyX5_ok tyX6_ok tyX6_ok h
/-- the words that a method's contract carries -/
def tw : List Cond := lw_tbl.filter goodWord
/-- the words that are told as facts -/
def isNest : Cond → Bool
  | .methodLinkNest .. => true
  | .fieldLinkNest .. => true
  | .arrayOver (.object _) => true
  | .castable .. => true
  | _ => false
def nestW : List Cond := lw_tbl.filter isNest
theorem inT {w : Cond} (h : w ∈ tw) : w ∈ lw_tbl := (List.mem_filter.mp h).1
set_option maxRecDepth 100000 in
theorem xin {kd : Nat} (h : 1 ≤ kd ∧ kd ≤ 8) : ∀ w ∈ u_ws (xR kd) (xT kd) (xn kd), w ∈ tw := kd8 (P := fun kd => ∀ w ∈ u_ws (xR kd) (xT kd) (xn kd), w ∈ tw) (by decide +kernel) (by decide +kernel) (by decide +kernel) (by decide +kernel) (by decide +kernel) (by decide +kernel) (by decide +kernel) (by decide +kernel) h
theorem nest_len : nestW.length = 12 := by decide +kernel
def rz (L : Nat → Nat) : Value → Value
  | .ref a => .ref (L a)
  | v => v
def rv (L : Nat → Nat) (r : Nat) : Value := if r = 0 then .null else .ref (L r)
/-- an object's field -/
def fv (g : mG) (L : Nat → Nat) (a k : Nat) : Value :=
  if gK g a = 5 ∧ k = 0 then (if gK g (a + 1) = 0 then .null else .ref (L (a + 1)))
  else if isRf (gK g a) k = true then rv L (gR g a k)
  else .int (gI g a k)
def aty (j : Nat) : FieldType := match j with
  | 0 => .int | 1 => .char | 2 => .object RX0 | 3 => .object RX2 | 4 => .object RX1 | _ => .object RX5
def cellOK (D : va_G) (cA : Nat → ClassId) (g : mG) (L : Nat → Nat) (H : Heap) (a : Nat) : Prop :=
  (1 ≤ gK g a ∧ gK g a ≤ 8 → t_OB (L a) (D.1 (gK g a - 1)) (xn (gK g a)) (D.2 (gK g a - 1)) H (fv g L a)) ∧
  (gK g a = 11 ∨ gK g a = 12 → H[L a]? = some (arrV (cA 0) (gN g a) (fun j => .int (gI g a j)))) ∧
  (gK g a = 13 → H[L a]? = some (arrV (cA 1) (gN g a) (fun j => .int (gI g a j)))) ∧
  (14 ≤ gK g a ∧ gK g a ≤ 17 → H[L a]? = some (arrV (cA (gK g a - 12)) (gN g a) (fun j => rv L (gR g a j))))
def lvx (g : mG) (a : Nat) : Prop := gK g a ≠ 0 ∧ gK g a ≠ 10
def HR (D : va_G) (cA : Nat → ClassId) (n0 : Nat) (g : mG) (L : Nat → Nat) (H : Heap) : Prop :=
  (∀ a, cellOK D cA g L H a) ∧ (∀ a b, lvx g a → lvx g b → L a = L b → a = b) ∧ (∀ a, lvx g a → n0 ≤ L a ∧ L a < H.size) ∧ (gK g 3 = 10 ∧ gK g 4 = 10 ∧ gK g 5 = 10) ∧ ∀ b k, lvx g b → gR g b k ≠ 0 → ok1 g (gR g b k)
/-- old arrays of ints, which nobody writes -/
def RO (cA : Nat → ClassId) (n0 : Nat) (g : mG) (L : Nat → Nat) (U : State) (H : Heap) : Prop :=
  ∀ a, gK g a = 10 → ∃ cell : Cell, H[L a]? = some cell ∧ U.isArrayOf cell .int ∧ cell.vm ≠ .unknown ∧ cell.slots.size = gN g a ∧ (∀ j, j < gN g a → cell.slots[j]? = some (.int (gI g a j))) ∧ L a < n0 ∧ (a = 5 → cell.cls = cA 0)
/-- the three statics -/
def ST (n0 : Nat) (L : Nat → Nat) (U : State) (H : Heap) : Prop :=
  va_Z RX6 "SETTING_LEAST" "[I" (.ref (L 3)) (fun q => n0 ≤ q) U H ∧ va_Z RX6 "SETTING_MOST" "[I" (.ref (L 4)) (fun q => n0 ≤ q) U H ∧ va_Z RX6 "SETTING_FIRST" "[I" (.ref (L 5)) (fun q => n0 ≤ q) U H
def ctys (cA : Nat → ClassId) : List (ClassId × FieldType) := [(cA 0, .int), (cA 1, .char), (cA 2, .object RX0), (cA 3, .object RX2), (cA 4, .object RX1), (cA 5, .object RX5)]
def KF (D : va_G) (cA : Nat → ClassId) (U : State) : Prop := va_K D mcl (ctys cA) U ∧ ∀ w ∈ nestW, va_Nw w U
/-- what a method finds -/
def PCf (D : va_G) (cA : Nat → ClassId) (n0 : Nat) (g : mG) (L : Nat → Nat) (U : State) : Prop :=
  HR D cA n0 g L U.heap ∧ KF D cA U ∧ RO cA n0 g L U U.heap ∧ ST n0 L U U.heap ∧ n0 ≤ U.heap.size
def PC (D : va_G) (cA : Nat → ClassId) (n0 : Nat) (g : mG) (L : Nat → Nat) (args : List Value) : Array Value → State → Prop :=
  fun v U => v = (args.map (rz L)).toArray ∧ PCf D cA n0 g L U
def Kp (g0 : mG) (L0 : Nat → Nat) (g : mG) (L : Nat → Nat) : Prop :=
  (∀ a, ok1 g0 a → ok1 g a ∧ L a = L0 a) ∧ (∀ a, gK g a = 10 → gK g0 a = 10 ∧ gN g a = gN g0 a ∧ gI g a = gI g0 a)
theorem Kp.rf {g : mG} {L : Nat → Nat} : Kp g L g L := ⟨fun _ h => ⟨h, rfl⟩, fun _ h => ⟨h, rfl, rfl⟩⟩
theorem Kp.tr {g0 g1 g2 : mG} {L0 L1 L2 : Nat → Nat} (h1 : Kp g0 L0 g1 L1) (h2 : Kp g1 L1 g2 L2) : Kp g0 L0 g2 L2 := by
  refine ⟨fun a h => ⟨(h2.1 a (h1.1 a h).1).1, (h2.1 a (h1.1 a h).1).2.trans (h1.1 a h).2⟩, fun a h => ?_⟩
  obtain ⟨a1, a2, a3⟩ := h2.2 a h
  obtain ⟨b1, b2, b3⟩ := h1.2 a a1
  exact ⟨b1, a2.trans b2, a3.trans b3⟩
/-- what it leaves -/
def QC (D : va_G) (cA : Nat → ClassId) (n0 : Nat) (g0 : mG) (L0 : Nat → Nat) (ve : Option Value) (ge : mG) : Array Value → State → Outcome → State → Prop :=
  fun _ st o t => ∃ L : Nat → Nat, o = .returned (ve.map (rz L)) ∧ HR D cA n0 ge L t.heap ∧ Kp g0 L0 ge L ∧ va_F (fun q => n0 ≤ q) st t
def nws (y : MethodName) (cd : ByteArray) (maxL : Nat) (ret : Option FieldType) : List Cond := .code y cd maxL ret :: tw
def rmd (d mc ms : Nat) : Room := { frames := d, cells := mc, slots := ms, locals := 40 * d }
/-- a method's predicate is true of the machine, with d frames -/
def SM (y : MethodName) (cd : ByteArray) (maxL : Nat) (ret : Option FieldType) (d : Nat) (spec : mS) : Prop :=
  DET spec ∧ ∀ (l : Launch) (D : va_G) (cA : Nat → ClassId) (n0 : Nat) (g : mG) (L : Nat → Nat) (args : List Value) (v : Option Value) (g1 : mG), spec args g (Qx v g1) →
    Met l y (nws y cd maxL ret) (rmd d (gC g1 - gC g) (gS g1 - gS g)) (PC D cA n0 g L args) (QC D cA n0 g L v g1) (gC g1 - gC g) (gS g1 - gS g) (fun q => n0 ≤ q)
/-! locals -/
def lvs (L : Nat → Nat) : Nat → List Value → List (Nat × Value)
  | _, [] => []
  | i, v :: t => match v with
    | .retAddr _ => lvs L (i + 1) t
    | v => (i, rz L v) :: lvs L (i + 1) t
theorem lvs_mem {L : Nat → Nat} : ∀ (ls : List Value) (i0 : Nat) (q : Nat × Value), q ∈ lvs L i0 ls ↔ ∃ k v, ls[k]? = some v ∧ (∀ z, v ≠ .retAddr z) ∧ q = (i0 + k, rz L v)
  | [], i0, q => by simp [lvs]
  | v :: t, i0, q => by
    have ih := lvs_mem (L := L) t (i0 + 1) q
    have key : (∃ k w, (v :: t)[k]? = some w ∧ (∀ z, w ≠ .retAddr z) ∧ q = (i0 + k, rz L w)) ↔ ((∀ z, v ≠ .retAddr z) ∧ q = (i0, rz L v)) ∨ ∃ k w, t[k]? = some w ∧ (∀ z, w ≠ .retAddr z) ∧ q = (i0 + 1 + k, rz L w) := by
      constructor
      · rintro ⟨k, w, h1, h2, h3⟩
        cases k with
        | zero => cases h1; exact Or.inl ⟨h2, h3⟩
        | succ k => exact Or.inr ⟨k, w, h1, h2, by rw [h3]; congr 1; omega⟩
      · rintro (⟨h1, h2⟩ | ⟨k, w, h1, h2, h3⟩)
        · exact ⟨0, v, rfl, h1, h2⟩
        · exact ⟨k + 1, w, h1, h2, by rw [h3]; congr 1; omega⟩
    rw [key, ← ih]
    cases v <;> simp [lvs]
def LH (lsA : Array Slot) (nL : Nat) (L : Nat → Nat) (ls : List Value) : Prop := lv_has lsA nL (lvs L 0 ls)
theorem LH.at {lsA : Array Slot} {nL : Nat} {L : Nat → Nat} {ls : List Value} (h : LH lsA nL L ls) {i : Nat} {v : Value} (hi : ls[i]? = some v) (hv : ∀ z, v ≠ .retAddr z) : lsA[i]? = some (.val (rz L v)) :=
  h.2.2 (i, rz L v) ((lvs_mem ls 0 _).mpr ⟨i, v, hi, hv, by rw [Nat.zero_add]⟩)
def nl1 : Value → Prop
  | .long _ => False
  | .double _ => False
  | _ => True
/-- the slot before i is no long -/
def nlb (ls : List Value) (i : Nat) : Prop := match i with
  | 0 => True
  | i + 1 => match ls[i]? with
    | some v => nl1 v
    | none => True
theorem rz_cat {L : Nat → Nat} {v : Value} : (rz L v).category = v.category := by cases v <;> rfl
theorem LH.set {nL : Nat} {L : Nat → Nat} {ls : List Value} {i : Nat} {v : Value} (hn : nlb ls i) : ∀ {lsB : Array Slot}, lv_has lsB nL ((i, rz L v) :: (lvs L 0 ls).filter (fun q => !(q.1 == i) && !(q.1 + 1 == i && q.2.category == 2))) → LH lsB nL L (ls.set i v) := by
  intro lsB h
  refine ⟨h.1, h.2.1, fun q hq => h.2.2 q ?_⟩
  obtain ⟨k, w, h1, h2, rfl⟩ := (lvs_mem _ _ _).mp hq
  rw [Nat.zero_add]
  by_cases hk : k = i
  · subst hk
    rw [List.getElem?_set] at h1
    simp only [if_true] at h1
    split at h1
    · cases h1
      exact List.mem_cons_self
    · cases h1
  · rw [List.getElem?_set_ne (Ne.symm hk)] at h1
    refine List.mem_cons_of_mem _ (List.mem_filter.mpr ⟨(lvs_mem _ _ _).mpr ⟨k, w, h1, h2, by rw [Nat.zero_add]⟩, ?_⟩)
    have hc : ¬ (k + 1 = i ∧ w.category = 2) := by
      rintro ⟨rfl, hc⟩
      simp only [nlb, h1] at hn
      cases w <;> simp_all [nl1, Value.category]
    simp only [rz_cat, Bool.and_eq_true, Bool.not_eq_true', beq_eq_false_iff_ne, ne_eq, Bool.and_eq_false_iff, beq_iff_eq]
    refine ⟨hk, ?_⟩
    by_cases h5 : k + 1 = i
    · exact Or.inr (by simpa using fun h6 => hc ⟨h5, h6⟩)
    · exact Or.inl (by simpa using h5)
theorem LH.moved {lsA : Array Slot} {nL : Nat} {L L' : Nat → Nat} {ls : List Value} {g : mG} (h : LH lsA nL L ls) (hs : stbs g ls) (hL : ∀ a, ok1 g a → L' a = L a) : LH lsA nL L' ls := by
  refine ⟨h.1, h.2.1, fun q hq => h.2.2 q ?_⟩
  obtain ⟨k, w, h1, h2, rfl⟩ := (lvs_mem _ _ _).mp hq
  refine (lvs_mem _ _ _).mpr ⟨k, w, h1, h2, ?_⟩
  have hw := hs w (List.mem_of_getElem? h1)
  cases w with
  | ref a => simp only [rz]; rw [hL a hw]
  | _ => rfl
theorem map_moved {L L' : Nat → Nat} {l : List Value} {g : mG} (hs : stbs g l) (hL : ∀ a, ok1 g a → L' a = L a) : l.map (rz L') = l.map (rz L) := by
  refine List.map_congr_left fun w hw => ?_
  have h := hs w hw
  cases w with
  | ref a => simp only [rz]; rw [hL a h]
  | _ => rfl
theorem nw_warm {w : Cond} (h : isNest w = true) {s U : State} (hW : s.WarmedH U.vm) (hZ : va_Nw w s) : va_Nw w U := by
  match w, h, hZ with
  | .methodLinkNest _ _ _ _, _, hZ => exact va_Nw.warmM hW hZ
  | .fieldLinkNest _ _ _ _ _ _, _, hZ => exact va_Nw.warmF hW hZ
  | .arrayOver (.object _), _, hZ => exact va_AO.moved hW.alike hZ
  | .castable _ _, _, hZ => exact va_Nw.warmC hW hZ
theorem KF.warm {D : va_G} {cA : Nat → ClassId} {s U : State} (hW : s.WarmedH U.vm) (h : KF D cA s) : KF D cA U := ⟨va_K.moved hW.alike h.1, fun w hw => nw_warm (List.mem_filter.mp hw).2 hW (h.2 w hw)⟩
theorem RO.warm {cA : Nat → ClassId} {n0 : Nat} {g : mG} {L : Nat → Nat} {s U : State} {H : Heap} (hW : s.WarmedH U.vm) (h : RO cA n0 g L s H) : RO cA n0 g L U H := fun a ha => by
  obtain ⟨cell, h1, h2, h3⟩ := h a ha
  exact ⟨cell, h1, State.isArrayOf_alike hW.alike h2, h3⟩
theorem RO.next {cA : Nat → ClassId} {n0 : Nat} {g0 g : mG} {L0 L : Nat → Nat} {s : State} {H0 H : Heap} (h : RO cA n0 g0 L0 s H0) (hk : Kp g0 L0 g L) (hq : ∀ q : Nat, q < n0 → H[q]? = H0[q]?) : RO cA n0 g L s H := fun a ha => by
  obtain ⟨e1, e2, e3⟩ := hk.2 a ha
  obtain ⟨cell, h1, h2, h3, h4, h5, h6, h7⟩ := h a e1
  have e4 : L a = L0 a := (hk.1 a ⟨by rw [e1]; decide, by rw [e1]; decide⟩).2
  rw [e4, e2, e3]
  exact ⟨cell, by rw [hq _ h6]; exact h1, h2, h3, h4, h5, h6, h7⟩
theorem ST.warm {n0 : Nat} {L : Nat → Nat} {s U : State} {H : Heap} (hW : s.WarmedH U.vm) (h : ST n0 L s H) : ST n0 L U H := ⟨va_Z.moved hW.alike h.1, va_Z.moved hW.alike h.2.1, va_Z.moved hW.alike h.2.2⟩
theorem ST.next {n0 : Nat} {L0 L : Nat → Nat} {s : State} {H0 H : Heap} (h : ST n0 L0 s H0) (hk : L 3 = L0 3 ∧ L 4 = L0 4 ∧ L 5 = L0 5) (hq : ∀ q : Nat, q < H0.size → ¬ n0 ≤ q → H[q]? = H0[q]?) : ST n0 L s H := by
  obtain ⟨e1, e2, e3⟩ := hk
  unfold ST
  rw [e1, e2, e3]
  exact ⟨h.1.kept hq, h.2.1.kept hq, h.2.2.kept hq⟩
theorem PC_blind {D : va_G} {cA : Nat → ClassId} {n0 : Nat} {g : mG} {L : Nat → Nat} {args : List Value} : FrameBlind (PC D cA n0 g L args) := fun a U f mk h =>
  ⟨h.1, h.2.1, ⟨va_K.moved (u := U) (U := U.calling f mk a) (Vm.Alike.refl U.vm) h.2.2.1.1, fun w hw => nw_warm (s := U) (U := U.calling f mk a) (List.mem_filter.mp hw).2 (State.WarmedH.refl U) (h.2.2.1.2 w hw)⟩, RO.warm (s := U) (U := U.calling f mk a) (State.WarmedH.refl U) h.2.2.2.1, ST.warm (s := U) (U := U.calling f mk a) (State.WarmedH.refl U) h.2.2.2.2.1, h.2.2.2.2.2⟩
