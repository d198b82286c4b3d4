/-! ===== the text of orders ===== -/
/-- the text: signs t, n of them -/
def TxR (g : mG) (t : Nat → Nat) (n : Nat) : Prop :=
  (gK g 22 = 4 ∧ gR g 22 0 = 23 ∧ gR g 22 2 = 24) ∧ (gK g 23 = 13 ∧ gN g 23 = 60) ∧ (gK g 24 = 16 ∧ gN g 24 = 9) ∧ (∀ i, i < 9 → gR g 24 i = 25 + i ∧ gK g (25 + i) = 2) ∧ gI g 22 1 = nI n ∧ n ≤ 60 ∧ ∀ j, j < n → gI g 23 j = nI (t j) ∧ t j < 65536
def XX : Nat → Prop := fun b => b = 22 ∨ (25 ≤ b ∧ b < 34)
def TG (g g' : mG) (t : Nat → Nat) (n : Nat) : Prop := Fr XX g g' ∧ JR g' ∧ TxR g' t n
theorem TxR.place {g : mG} {t : Nat → Nat} {n k : Nat} {v : Int32} (h : TxR g t n) (hk : k ≠ 1) : TxR (pI g 22 k v) t n := by
  obtain ⟨a, b, c, d, e, f, z⟩ := h
  refine ⟨a, b, c, d, ?_, f, fun j hj => ?_⟩
  · rw [gI_pI_eq, if_neg (Ne.symm hk)]; exact e
  · rw [gI_pI_ne (by decide)]; exact z j hj
theorem TxR.line {g : mG} {t : Nat → Nat} {n i k : Nat} {v : Int32} (h : TxR g t n) : TxR (pI g (25 + i) k v) t n := by
  obtain ⟨a, b, c, d, e, f, z⟩ := h
  refine ⟨a, b, c, d, ?_, f, fun j hj => ?_⟩
  · rw [gI_pI_ne (by omega)]; exact e
  · rw [gI_pI_ne (by omega)]; exact z j hj
theorem TG.place {g g' : mG} {t : Nat → Nat} {n : Nat} (h : TG g g' t n) (k : Nat) (v : Int32) (hk : k ≠ 1) : TG g (pI g' 22 k v) t n := ⟨h.1.tr (Fr.pI (Or.inl rfl)), h.2.1.pI, h.2.2.place hk⟩
theorem TG.line {g g' : mG} {t : Nat → Nat} {n : Nat} (h : TG g g' t n) (i k : Nat) (hi : i < 9) (v : Int32) : TG g (pI g' (25 + i) k v) t n := ⟨h.1.tr (Fr.pI (Or.inr ⟨by omega, by omega⟩)), h.2.1.pI, h.2.2.line⟩
theorem TG.tr {g g1 g2 : mG} {t : Nat → Nat} {n : Nat} (h : TG g g1 t n) (h2 : TG g1 g2 t n) : TG g g2 t n := ⟨h.1.tr h2.1, h2.2⟩
theorem TG.rf {g : mG} {t : Nat → Nat} {n : Nat} (h : TxR g t n) (hJ : JR g) : TG g g t n := ⟨Fr.rf, hJ, h⟩
/-- the digit at a place -/
def rdD (t : Nat → Nat) (n p : Nat) : Option Nat := if p < n ∧ 48 ≤ t p ∧ t p ≤ 57 then some (t p - 48) else none
/-- a number read: the place behind, its value -/
def rdN (t : Nat → Nat) (n most : Nat) : Nat → Nat → Nat → Nat × Nat
  | 0, p, v => (p, v)
  | f + 1, p, v => match rdD t n p with
    | none => (p, v)
    | some d => if (v = 0 ∧ d = 0) ∨ most < v * 10 + d then (p, v) else rdN t n most f (p + 1) (v * 10 + d)
