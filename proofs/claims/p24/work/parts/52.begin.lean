/-! ===== the main object made ===== -/
def TM (g : mG) (T : Nat) : Prop := TRw g T w0R ∧ (∀ k, k < 6 → gN g (T + 6 + 3 * k) = 8) ∧ (∀ i, i < 17 → gN g (T + 24 + 3 * i) = 8) ∧ gK g (T + 99) = 0
theorem TM.nf {X : Nat → Prop} {g g' : mG} {T c s : Nat} (h : TM g T) (hT : 100 ≤ T) (F : NF X g g' c s) (hX : ∀ b, T ≤ b → b < T + 100 → ¬ X b) : TM g' T := by
  obtain ⟨a, b, c', d⟩ := h
  refine ⟨a.nf hT F hX, fun k hk => ?_, fun i hi => ?_, ?_⟩
  · rw [((F.1 _ (hX _ (by omega) (by omega))).2 (by omega)).1]; exact b k hk
  · rw [((F.1 _ (hX _ (by omega) (by omega))).2 (by omega)).1]; exact c' i hi
  · rw [(F.1 _ (hX _ (by omega) (by omega))).1]; exact d
theorem FS.nf {X : Nat → Prop} {g g' : mG} {c s : Nat} (h : FS g) (F : NF X g g' c s) (hX : ¬ X 5) : FS g' := by
  obtain ⟨a, b, d⟩ := h
  have f := F.1 5 hX
  have f2 := f.2 (by decide)
  exact ⟨by rw [f.1]; exact a, by rw [f2.1]; exact b, by rw [f2.2.1]; exact d⟩
def XM : Nat → Prop := fun b => (20 ≤ b ∧ b < 34) ∨ (100 ≤ b ∧ b < 800)
/-- m towns are made -/
def MM (g0 g : mG) (m c s : Nat) : Prop := NF XM g0 g c s ∧ (Scr g ∧ FS g) ∧ (∀ j, j < m → TM g (100 * (j + 1))) ∧ (∀ z, 100 * (m + 1) ≤ z → z < 800 → gK g z = 0) ∧ gK g 99 = 0
section Beg
variable {g0 : mG} {Q : mQ} {g : mG}
theorem MM.low {m c s c2 s2 : Nat} {X : Nat → Prop} {g' : mG} (h : MM g0 g m c s) (F : NF X g g' c2 s2) (hX : ∀ b, X b → 20 ≤ b ∧ b < 34) : MM g0 g' m (c + c2) (s + s2) := by
  obtain ⟨a, ⟨b, b2⟩, d, e, f⟩ := h
  refine ⟨a.tr (F.up (fun b hb => Or.inl (hX b hb)) (Nat.le_refl _) (Nat.le_refl _)), ⟨F.scr b (fun z => by have := hX _ z; omega) (fun z => by have := hX _ z; omega), b2.nf F (fun z => by have := hX _ z; omega)⟩, fun j hj => (d j hj).nf (by omega) F fun b h1 h2 z => by have := hX _ z; omega, fun z h1 h2 => ?_, ?_⟩
  · rw [(F.1 z (fun y => by have := hX _ y; omega)).1]; exact e z h1 h2
  · rw [(F.1 99 (fun y => by have := hX _ y; omega)).1]; exact f
theorem new_town {m c s T : Nat} (h : MM g0 g m c s) (hm : m < 7) (eT : T = 100 * (m + 1)) (q : ∀ g', NF (XN T) g g' 73 445 → gK g' T = 6 → MM g0 g' (m + 1) (c + 73) (s + 445) → Q none g') : w_X5_init [.ref T] (nw g T 6 0 (xn 6) (fun _ => 0)) Q := by
  obtain ⟨a, ⟨b, b2⟩, d, e, f⟩ := h
  have F : NF (XN T) g (nw g T 6 0 (xn 6) fun _ => 0) 1 14 := NF.nw (by unfold XN; omega)
  refine c_X5_init (by omega) (by rw [gK_nw, if_pos rfl]) (by rw [gI_nw, if_pos rfl]) (fun z h1 h2 => by rw [gK_nw, if_neg (by omega)]; exact e z (by omega) (by omega)) (F.scr b (by unfold XN; omega) (by unfold XN; omega)) (b2.nf F (by unfold XN; omega)) fun g2 hS2 hM2 => ?_
  have F2 : NF (XN T) g g2 73 445 := (F.tr hM2.1).up (fun _ h => h) (by omega) (by omega)
  have hT2 : TRw g2 T w0R := hM2.town
  refine q g2 F2 hT2.1.1.1 ⟨a.tr (F2.up (fun b hb => Or.inr (by unfold XN at hb; omega)) (Nat.le_refl _) (Nat.le_refl _)), ⟨hS2, b2.nf F2 (by unfold XN; omega)⟩, fun j hj => ?_, fun z h1 h2 => ?_, ?_⟩
  · by_cases hjm : j = m
    · subst hjm
      rw [← eT]
      exact ⟨hT2, fun k hk => (hM2.2.2.1 k hk).1.2.2.1, fun i hi => (hM2.2.2.2.1 i hi).1.2.2.1, hM2.2.2.2.2.2 (T + 99) (by omega) (by omega)⟩
    · exact (d j (by omega)).nf (by omega) F2 fun b h1 h2 z => by unfold XN at z; omega
  · rw [(F2.1 z (by unfold XN; omega)).1]; exact e z (by omega) h2
  · rw [(F2.1 99 (by unfold XN; omega)).1]; exact f
theorem MM.fresh {m c s T : Nat} (h : MM g0 g m c s) (hm : m < 7) (eT : T = 100 * (m + 1)) : gK g T = 0 ∧ gK g (T - 1) ≠ 5 ∧ T ≠ 0 := by
  obtain ⟨a, b, d, e, f⟩ := h
  refine ⟨e T (by omega) (by omega), ?_, by omega⟩
  by_cases h0 : m = 0
  · rw [eT, h0, show 100 * (0 + 1) - 1 = 99 by omega, f]; decide
  · have := (d (m - 1) (by omega)).2.2.2
    rw [show 100 * (m - 1 + 1) + 99 = T - 1 by omega] at this
    rw [this]; decide
end Beg
