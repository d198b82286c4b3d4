/-! ===== a town, raw: scalars and settings, kilns, their rows, places, their rows ===== -/
abbrev Rw : Type := (Nat → Nat) × (Nat → Nat → Nat) × (Nat → Nat → Nat) × (Nat → Nat → Nat) × (Nat → Nat → Nat)
def wS (w : Rw) : Nat → Nat := w.1
def wK (w : Rw) : Nat → Nat → Nat := w.2.1
def wP (w : Rw) : Nat → Nat → Nat := w.2.2.1
def wF (w : Rw) : Nat → Nat → Nat := w.2.2.2.1
def wO (w : Rw) : Nat → Nat → Nat := w.2.2.2.2
def u1 (f : Nat → Nat) (j v : Nat) : Nat → Nat := fun i => if i = j then v else f i
def u2 (f : Nat → Nat → Nat) (k j v : Nat) : Nat → Nat → Nat := fun a => if a = k then u1 (f a) j v else f a
def ur (f : Nat → Nat → Nat) (k : Nat) (r : Nat → Nat) : Nat → Nat → Nat := fun a => if a = k then r else f a
def sS (w : Rw) (j v : Nat) : Rw := (u1 w.1 j v, w.2)
def sK (w : Rw) (k f v : Nat) : Rw := (w.1, u2 w.2.1 k f v, w.2.2)
def sP (w : Rw) (k : Nat) (r : Nat → Nat) : Rw := (w.1, w.2.1, ur w.2.2.1 k r, w.2.2.2)
def sF (w : Rw) (i f v : Nat) : Rw := (w.1, w.2.1, w.2.2.1, u2 w.2.2.2.1 i f v, w.2.2.2.2)
def sO (w : Rw) (i : Nat) (r : Nat → Nat) : Rw := (w.1, w.2.1, w.2.2.1, w.2.2.2.1, ur w.2.2.2.2 i r)
theorem u1_eq {f : Nat → Nat} {j v : Nat} : u1 f j v j = v := by simp [u1]
theorem u1_ne {f : Nat → Nat} {j v i : Nat} (h : i ≠ j) : u1 f j v i = f i := by simp [u1, h]
theorem ur_eq {f : Nat → Nat → Nat} {k : Nat} {r : Nat → Nat} : ur f k r k = r := by simp [ur]
theorem ur_ne {f : Nat → Nat → Nat} {k a : Nat} {r : Nat → Nat} (h : a ≠ k) : ur f k r a = f a := by simp [ur, h]
theorem u2_ne {f : Nat → Nat → Nat} {k j v a : Nat} (h : a ≠ k) : u2 f k j v a = f a := by simp [u2, h]
theorem u2_eq {f : Nat → Nat → Nat} {k j v : Nat} : u2 f k j v k = u1 (f k) j v := by simp [u2]
def PermOK (g : mG) (p : Nat) (r : Nat → Nat) : Prop := ∃ yn, PermR g p r yn
theorem PermOK.fr {X : Nat → Prop} {g g' : mG} {p : Nat} {r : Nat → Nat} (h : PermOK g p r) (hF : Fr X g g') (h1 : ¬ X p) (h2 : ¬ X (p + 1)) : PermOK g' p r := by
  obtain ⟨yn, h⟩ := h
  exact ⟨yn, PermX.fr h hF h1 h2⟩
/-- the shape of a town -/
def TShp (g : mG) (T : Nat) : Prop :=
  (gK g T = 6 ∧ gR g T 11 = T + 1 ∧ gR g T 12 = T + 2 ∧ gR g T 13 = T + 3) ∧ (gK g (T + 1) = 11 ∧ gN g (T + 1) = 5) ∧ (gK g (T + 2) = 14 ∧ gN g (T + 2) = 6) ∧ (gK g (T + 3) = 15 ∧ gN g (T + 3) = 17) ∧
  (∀ k, k < 6 → gR g (T + 2) k = T + 4 + 3 * k ∧ gK g (T + 4 + 3 * k) = 1 ∧ gR g (T + 4 + 3 * k) 7 = T + 5 + 3 * k ∧ PermS g (T + 5 + 3 * k)) ∧
  ∀ i, i < 17 → gR g (T + 3) i = T + 22 + 3 * i ∧ gK g (T + 22 + 3 * i) = 3 ∧ gR g (T + 22 + 3 * i) 5 = T + 23 + 3 * i ∧ PermS g (T + 23 + 3 * i)
theorem PermS.fr {X : Nat → Prop} {g g' : mG} {p : Nat} (h : PermS g p) (hF : Fr X g g') : PermS g' p := ⟨(hF.1 p).trans h.1, (hF.1 (p + 1)).trans h.2⟩
theorem TShp.fr {X : Nat → Prop} {g g' : mG} {T : Nat} (h : TShp g T) (hF : Fr X g g') (hT : 100 ≤ T) : TShp g' T := by
  obtain ⟨⟨a1, a2, a3, a4⟩, ⟨b1, b2⟩, ⟨c1, c2⟩, ⟨d1, d2⟩, e, f⟩ := h
  have z : ∀ b, 100 ≤ b → gK g b ≠ 12 → gN g' b = gN g b ∧ ∀ k, gR g' b k = gR g b k := fun b hb hk => hF.2.2 b (by omega) hk
  have z0 := (z T hT (by rw [a1]; decide)).2
  have z1 := z (T + 1) (by omega) (by rw [b1]; decide)
  have z2 := z (T + 2) (by omega) (by rw [c1]; decide)
  have z3 := z (T + 3) (by omega) (by rw [d1]; decide)
  refine ⟨⟨(hF.1 T).trans a1, (z0 _).trans a2, (z0 _).trans a3, (z0 _).trans a4⟩, ⟨(hF.1 _).trans b1, z1.1.trans b2⟩, ⟨(hF.1 _).trans c1, z2.1.trans c2⟩, ⟨(hF.1 _).trans d1, z3.1.trans d2⟩, fun k hk => ?_, fun i hi => ?_⟩
  · obtain ⟨q1, q2, q3, q4⟩ := e k hk
    exact ⟨(z2.2 k).trans q1, (hF.1 _).trans q2, ((z _ (by omega) (by rw [q2]; decide)).2 7).trans q3, q4.fr hF⟩
  · obtain ⟨q1, q2, q3, q4⟩ := f i hi
    exact ⟨(z3.2 i).trans q1, (hF.1 _).trans q2, ((z _ (by omega) (by rw [q2]; decide)).2 5).trans q3, q4.fr hF⟩
def TRw (g : mG) (T : Nat) (w : Rw) : Prop :=
  TShp g T ∧ (∀ j, j < 11 → gI g T j = nI (wS w j)) ∧ (∀ s, s < 5 → gI g (T + 1) s = nI (wS w (11 + s))) ∧
  (∀ k, k < 6 → (∀ f, f < 7 → gI g (T + 4 + 3 * k) f = nI (wK w k f)) ∧ PermOK g (T + 5 + 3 * k) (wP w k)) ∧
  ∀ i, i < 17 → (∀ f, f < 5 → gI g (T + 22 + 3 * i) f = nI (wF w i f)) ∧ wF w i 1 ≤ 1 ∧ PermOK g (T + 23 + 3 * i) (wO w i)
def XT (T : Nat) : Nat → Prop := fun b => b = 9 ∨ (T ≤ b ∧ b < T + 100)
theorem TRw.fr {X : Nat → Prop} {g g' : mG} {T : Nat} {w : Rw} (h : TRw g T w) (hF : Fr X g g') (hT : 100 ≤ T) (hX : ∀ b, T ≤ b → b < T + 100 → ¬ X b) : TRw g' T w := by
  obtain ⟨h0, h1, h2, h3, h4⟩ := h
  have z : ∀ b, T ≤ b → b < T + 100 → gI g' b = gI g b := fun b a1 a2 => (hF.2.1 b (hX b a1 a2)).2
  refine ⟨h0.fr hF hT, fun j hj => by rw [z T (by omega) (by omega)]; exact h1 j hj, fun s hs => by rw [z (T + 1) (by omega) (by omega)]; exact h2 s hs, fun k hk => ?_, fun i hi => ?_⟩
  · obtain ⟨a, b⟩ := h3 k hk
    exact ⟨fun f hf => by rw [z _ (by omega) (by omega)]; exact a f hf, b.fr hF (hX _ (by omega) (by omega)) (hX _ (by omega) (by omega))⟩
  · obtain ⟨a, b, c⟩ := h4 i hi
    exact ⟨fun f hf => by rw [z _ (by omega) (by omega)]; exact a f hf, b, c.fr hF (hX _ (by omega) (by omega)) (hX _ (by omega) (by omega))⟩
/-- what keeps all but one cell of ints of a town -/
theorem TRw.cell {g g' : mG} {T a : Nat} {w : Rw} (h : TRw g T w) (hT : 100 ≤ T) (hF : Fr (fun b => b = a) g g') (w' : Rw)
    (e1 : (a = T → ∀ j, j < 11 → gI g' T j = nI (wS w' j)) ∧ (a ≠ T → ∀ j, j < 11 → wS w' j = wS w j)) (e2 : (a = T + 1 → ∀ s, s < 5 → gI g' (T + 1) s = nI (wS w' (11 + s))) ∧ (a ≠ T + 1 → ∀ s, s < 5 → wS w' (11 + s) = wS w (11 + s)))
    (e3 : ∀ k, k < 6 → (a = T + 4 + 3 * k → ∀ f, f < 7 → gI g' (T + 4 + 3 * k) f = nI (wK w' k f)) ∧ (a ≠ T + 4 + 3 * k → ∀ f, f < 7 → wK w' k f = wK w k f)) (e4 : ∀ k, k < 6 → wP w' k = wP w k)
    (e5 : ∀ i, i < 17 → (a = T + 22 + 3 * i → ∀ f, f < 5 → gI g' (T + 22 + 3 * i) f = nI (wF w' i f)) ∧ (a ≠ T + 22 + 3 * i → ∀ f, f < 5 → wF w' i f = wF w i f)) (e6 : ∀ i, i < 17 → wO w' i = wO w i) (e7 : ∀ i, i < 17 → wF w' i 1 ≤ 1)
    (hp : ∀ k, k < 6 → a ≠ T + 5 + 3 * k ∧ a ≠ T + 6 + 3 * k) (ho : ∀ i, i < 17 → a ≠ T + 23 + 3 * i ∧ a ≠ T + 24 + 3 * i) : TRw g' T w' := by
  obtain ⟨h0, h1, h2, h3, h4⟩ := h
  refine ⟨h0.fr hF hT, fun j hj => ?_, fun s hs => ?_, fun k hk => ⟨fun f hf => ?_, ?_⟩, fun i hi => ⟨fun f hf => ?_, e7 i hi, ?_⟩⟩
  · by_cases q : a = T
    · exact e1.1 q j hj
    · rw [(hF.2.1 T (fun z => q z.symm)).2, e1.2 q j hj]; exact h1 j hj
  · by_cases q : a = T + 1
    · exact e2.1 q s hs
    · rw [(hF.2.1 (T + 1) (fun z => q z.symm)).2, e2.2 q s hs]; exact h2 s hs
  · by_cases q : a = T + 4 + 3 * k
    · exact (e3 k hk).1 q f hf
    · rw [(hF.2.1 _ (fun z => q z.symm)).2, (e3 k hk).2 q f hf]; exact (h3 k hk).1 f hf
  · rw [e4 k hk]
    obtain ⟨q1, q2⟩ := hp k hk
    exact (h3 k hk).2.fr hF (fun z => q1 z.symm) (fun z => q2 (by omega))
  · by_cases q : a = T + 22 + 3 * i
    · exact (e5 i hi).1 q f hf
    · rw [(hF.2.1 _ (fun z => q z.symm)).2, (e5 i hi).2 q f hf]; exact (h4 i hi).1 f hf
  · rw [e6 i hi]
    obtain ⟨q1, q2⟩ := ho i hi
    exact (h4 i hi).2.2.fr hF (fun z => q1 z.symm) (fun z => q2 (by omega))
theorem TRw.setS {g : mG} {T : Nat} {w : Rw} (h : TRw g T w) (hT : 100 ≤ T) {j v : Nat} (hj : j < 11) : TRw (pI g T j (nI v)) T (sS w j v) := by
  refine h.cell hT (Fr.pI (a := T) (k := j) (v := nI v) rfl) _ ⟨fun _ i hi => ?_, fun q => absurd rfl q⟩ ⟨fun q => by omega, fun _ s hs => ?_⟩ (fun k hk => ⟨fun q => by omega, fun _ _ _ => rfl⟩) (fun _ _ => rfl) (fun i hi => ⟨fun q => by omega, fun _ _ _ => rfl⟩) (fun _ _ => rfl) (fun i hi => (h.2.2.2.2 i hi).2.1) (fun k hk => ⟨by omega, by omega⟩) (fun i hi => ⟨by omega, by omega⟩)
  · rw [gI_pI_eq]
    show _ = nI (u1 w.1 j v i)
    unfold u1
    by_cases q : i = j
    · rw [if_pos q, if_pos q]
    · rw [if_neg q, if_neg q]; exact h.2.1 i hi
  · exact u1_ne (by omega)
theorem TRw.setSt {g : mG} {T : Nat} {w : Rw} (h : TRw g T w) (hT : 100 ≤ T) {s v : Nat} (hs : s < 5) : TRw (pI g (T + 1) s (nI v)) T (sS w (11 + s) v) := by
  refine h.cell hT (Fr.pI (a := T + 1) (k := s) (v := nI v) rfl) _ ⟨fun q => by omega, fun _ j hj => ?_⟩ ⟨fun _ i hi => ?_, fun q => absurd rfl q⟩ (fun k hk => ⟨fun q => by omega, fun _ _ _ => rfl⟩) (fun _ _ => rfl) (fun i hi => ⟨fun q => by omega, fun _ _ _ => rfl⟩) (fun _ _ => rfl) (fun i hi => (h.2.2.2.2 i hi).2.1) (fun k hk => ⟨by omega, by omega⟩) (fun i hi => ⟨by omega, by omega⟩)
  · exact u1_ne (by omega)
  · rw [gI_pI_eq]
    show _ = nI (u1 w.1 (11 + s) v (11 + i))
    unfold u1
    by_cases q : i = s
    · rw [if_pos q, if_pos (by omega)]
    · rw [if_neg q, if_neg (by omega)]; exact h.2.2.1 i hi
theorem TRw.setK {g : mG} {T : Nat} {w : Rw} (h : TRw g T w) (hT : 100 ≤ T) {k f v : Nat} (hk : k < 6) : TRw (pI g (T + 4 + 3 * k) f (nI v)) T (sK w k f v) := by
  refine h.cell hT (Fr.pI (a := T + 4 + 3 * k) (k := f) (v := nI v) rfl) _ ⟨fun q => by omega, fun _ _ _ => rfl⟩ ⟨fun q => by omega, fun _ _ _ => rfl⟩ (fun k' hk' => ⟨fun q f' hf => ?_, fun q f' hf => ?_⟩) (fun _ _ => rfl) (fun i hi => ⟨fun q => by omega, fun _ _ _ => rfl⟩) (fun _ _ => rfl) (fun i hi => (h.2.2.2.2 i hi).2.1) (fun k hk => ⟨by omega, by omega⟩) (fun i hi => ⟨by omega, by omega⟩)
  · have e : k' = k := by omega
    subst e
    rw [gI_pI_eq]
    show _ = nI (u2 w.2.1 k' f v k' f')
    rw [u2_eq]
    unfold u1
    by_cases q : f' = f
    · rw [if_pos q, if_pos q]
    · rw [if_neg q, if_neg q]; exact (h.2.2.2.1 k' hk').1 f' hf
  · show u2 w.2.1 k f v k' f' = _
    rw [u2_ne (by omega)]; rfl
theorem TRw.setF {g : mG} {T : Nat} {w : Rw} (h : TRw g T w) (hT : 100 ≤ T) {i f v : Nat} (hi : i < 17) (hv : f = 1 → v ≤ 1) : TRw (pI g (T + 22 + 3 * i) f (nI v)) T (sF w i f v) := by
  refine h.cell hT (Fr.pI (a := T + 22 + 3 * i) (k := f) (v := nI v) rfl) _ ⟨fun q => by omega, fun _ _ _ => rfl⟩ ⟨fun q => by omega, fun _ _ _ => rfl⟩ (fun k' hk' => ⟨fun q => by omega, fun q _ _ => rfl⟩) (fun _ _ => rfl) (fun i' hi' => ⟨fun q f' hf => ?_, fun q f' hf => ?_⟩) (fun _ _ => rfl) (fun i' hi' => ?_) (fun k hk => ⟨by omega, by omega⟩) (fun i hi => ⟨by omega, by omega⟩)
  · have e : i' = i := by omega
    subst e
    rw [gI_pI_eq]
    show _ = nI (u2 w.2.2.2.1 i' f v i' f')
    rw [u2_eq]
    unfold u1
    by_cases q : f' = f
    · rw [if_pos q, if_pos q]
    · rw [if_neg q, if_neg q]; exact (h.2.2.2.2 i' hi').1 f' hf
  · show u2 w.2.2.2.1 i f v i' f' = _
    rw [u2_ne (by omega)]; rfl
  · show u2 w.2.2.2.1 i f v i' 1 ≤ 1
    by_cases q : i' = i
    · subst q
      rw [u2_eq]
      unfold u1
      by_cases q2 : 1 = f
      · rw [if_pos q2]; exact hv q2.symm
      · rw [if_neg q2]; exact (h.2.2.2.2 i' hi').2.1
    · rw [u2_ne q]; exact (h.2.2.2.2 i' hi').2.1
/-- rows change -/
theorem TRw.rows {g g' : mG} {T : Nat} {w : Rw} {X : Nat → Prop} (h : TRw g T w) (hT : 100 ≤ T) (hF : Fr X g g') (hX : ∀ b, X b → b = 9 ∨ (∃ k, k < 6 ∧ (b = T + 5 + 3 * k ∨ b = T + 6 + 3 * k)) ∨ ∃ i, i < 17 ∧ (b = T + 23 + 3 * i ∨ b = T + 24 + 3 * i)) (w' : Rw) (e1 : wS w' = wS w) (e2 : wK w' = wK w) (e3 : wF w' = wF w)
    (e4 : ∀ k, k < 6 → PermOK g' (T + 5 + 3 * k) (wP w' k)) (e5 : ∀ i, i < 17 → PermOK g' (T + 23 + 3 * i) (wO w' i)) : TRw g' T w' := by
  obtain ⟨h0, h1, h2, h3, h4⟩ := h
  have z : ∀ b, b ≠ 9 → (∀ k, k < 6 → b ≠ T + 5 + 3 * k ∧ b ≠ T + 6 + 3 * k) → (∀ i, i < 17 → b ≠ T + 23 + 3 * i ∧ b ≠ T + 24 + 3 * i) → gI g' b = gI g b := fun b q0 q1 q2 => (hF.2.1 b fun q => by
    rcases hX b q with q | ⟨k, hk, q | q⟩ | ⟨i, hi, q | q⟩
    · exact q0 q
    · exact (q1 k hk).1 q
    · exact (q1 k hk).2 q
    · exact (q2 i hi).1 q
    · exact (q2 i hi).2 q).2
  refine ⟨h0.fr hF hT, fun j hj => ?_, fun s hs => ?_, fun k hk => ⟨fun f hf => ?_, e4 k hk⟩, fun i hi => ⟨fun f hf => ?_, by rw [e3]; exact (h4 i hi).2.1, e5 i hi⟩⟩
  · rw [z T (by omega) (fun k hk => ⟨by omega, by omega⟩) (fun i hi => ⟨by omega, by omega⟩), e1]; exact h1 j hj
  · rw [z (T + 1) (by omega) (fun k hk => ⟨by omega, by omega⟩) (fun i hi => ⟨by omega, by omega⟩), e1]; exact h2 s hs
  · rw [z _ (by omega) (fun k hk => ⟨by omega, by omega⟩) (fun i hi => ⟨by omega, by omega⟩), e2]; exact (h3 k hk).1 f hf
  · rw [z _ (by omega) (fun k hk => ⟨by omega, by omega⟩) (fun i hi => ⟨by omega, by omega⟩), e3]; exact (h4 i hi).1 f hf
theorem TRw.setP {g g' : mG} {T k : Nat} {w : Rw} {r : Nat → Nat} (h : TRw g T w) (hT : 100 ≤ T) (hk : k < 6) (hF : Fr (XP (T + 5 + 3 * k)) g g') (hr : PermOK g' (T + 5 + 3 * k) r) : TRw g' T (sP w k r) := by
  refine h.rows hT hF (fun b hb => ?_) _ rfl rfl rfl (fun k' hk' => ?_) (fun i hi => (h.2.2.2.2 i hi).2.2.fr hF (fun q => ?_) (fun q => ?_))
  · rcases hb with hb | hb | hb
    · exact Or.inr (Or.inl ⟨k, hk, Or.inl hb⟩)
    · exact Or.inr (Or.inl ⟨k, hk, Or.inr (by omega)⟩)
    · exact Or.inl hb
  · show PermOK g' _ (ur w.2.2.1 k r k')
    by_cases q : k' = k
    · subst q
      rw [ur_eq]; exact hr
    · rw [ur_ne q]
      exact (h.2.2.2.1 k' hk').2.fr hF (fun z => by rcases z with z | z | z <;> omega) (fun z => by rcases z with z | z | z <;> omega)
  · rcases q with z | z | z <;> omega
  · rcases q with z | z | z <;> omega
theorem TRw.setO {g g' : mG} {T i : Nat} {w : Rw} {r : Nat → Nat} (h : TRw g T w) (hT : 100 ≤ T) (hi : i < 17) (hF : Fr (XP (T + 23 + 3 * i)) g g') (hr : PermOK g' (T + 23 + 3 * i) r) : TRw g' T (sO w i r) := by
  refine h.rows hT hF (fun b hb => ?_) _ rfl rfl rfl (fun k hk => (h.2.2.2.1 k hk).2.fr hF (fun q => ?_) (fun q => ?_)) (fun i' hi' => ?_)
  · rcases hb with hb | hb | hb
    · exact Or.inr (Or.inr ⟨i, hi, Or.inl hb⟩)
    · exact Or.inr (Or.inr ⟨i, hi, Or.inr (by omega)⟩)
    · exact Or.inl hb
  · rcases q with z | z | z <;> omega
  · rcases q with z | z | z <;> omega
  · show PermOK g' _ (ur w.2.2.2.2 i r i')
    by_cases q : i' = i
    · subst q
      rw [ur_eq]; exact hr
    · rw [ur_ne q]
      exact (h.2.2.2.2 i' hi').2.2.fr hF (fun z => by rcases z with z | z | z <;> omega) (fun z => by rcases z with z | z | z <;> omega)
/-- a kiln's row and a place's row change -/
theorem TRw.setPO {g g' : mG} {T k i : Nat} {w : Rw} {r b : Nat → Nat} {X : Nat → Prop} (h : TRw g T w) (hT : 100 ≤ T) (hk : k < 6) (hi : i < 17) (hF : Fr X g g') (hX : ∀ z, X z → XP (T + 5 + 3 * k) z ∨ XP (T + 23 + 3 * i) z) (hr : PermOK g' (T + 5 + 3 * k) r) (hb : PermOK g' (T + 23 + 3 * i) b) : TRw g' T (sO (sP w k r) i b) := by
  have hn : ∀ z, z ≠ 9 → z ≠ T + 5 + 3 * k → z ≠ T + 6 + 3 * k → z ≠ T + 23 + 3 * i → z ≠ T + 24 + 3 * i → ¬ X z := fun z n0 n1 n2 n3 n4 q => by
    rcases hX z q with q | q <;> rcases q with q | q | q <;> omega
  refine h.rows hT hF (fun z hz => ?_) _ rfl rfl rfl (fun k' hk' => ?_) (fun i' hi' => ?_)
  · rcases hX z hz with q | q <;> rcases q with q | q | q
    · exact Or.inr (Or.inl ⟨k, hk, Or.inl q⟩)
    · exact Or.inr (Or.inl ⟨k, hk, Or.inr (by omega)⟩)
    · exact Or.inl q
    · exact Or.inr (Or.inr ⟨i, hi, Or.inl q⟩)
    · exact Or.inr (Or.inr ⟨i, hi, Or.inr (by omega)⟩)
    · exact Or.inl q
  · show PermOK g' _ (ur w.2.2.1 k r k')
    by_cases q : k' = k
    · subst q
      rw [ur_eq]; exact hr
    · rw [ur_ne q]
      exact (h.2.2.2.1 k' hk').2.fr hF (hn _ (by omega) (by omega) (by omega) (by omega) (by omega)) (hn _ (by omega) (by omega) (by omega) (by omega) (by omega))
  · show PermOK g' _ (ur w.2.2.2.2 i b i')
    by_cases q : i' = i
    · subst q
      rw [ur_eq]; exact hb
    · rw [ur_ne q]
      exact (h.2.2.2.2 i' hi').2.2.fr hF (hn _ (by omega) (by omega) (by omega) (by omega) (by omega)) (hn _ (by omega) (by omega) (by omega) (by omega) (by omega))
/-- a town's label -/
def isT (T : Nat) : Prop := ∃ j, j < 7 ∧ T = 100 * (j + 1)
theorem isT.big {T : Nat} (h : isT T) : 100 ≤ T := by
  obtain ⟨j, h1, h2⟩ := h
  omega
theorem isP_k {T k : Nat} (h : isT T) (hk : k < 6) : isP (T + 5 + 3 * k) := by
  obtain ⟨j, h1, h2⟩ := h
  exact ⟨k, j, by omega, h1, by unfold rowL; rw [if_pos hk]; omega⟩
theorem isP_o {T i : Nat} (h : isT T) (hi : i < 17) : isP (T + 23 + 3 * i) := by
  obtain ⟨j, h1, h2⟩ := h
  exact ⟨6 + i, j, by omega, h1, by unfold rowL; rw [if_neg (by omega)]; omega⟩
