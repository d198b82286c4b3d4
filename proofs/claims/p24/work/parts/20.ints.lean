/-! ===== ints that are numbers ===== -/
theorem nI_le0 {n : Nat} (h : n < 2 ^ 31) : (nI n ≤ 0) = (n = 0) := by
  have := nI_leI h (show 0 < 2 ^ 31 by omega)
  rw [nI_0] at this
  exact propext (this.trans (by omega))
theorem nI_lt0 {n : Nat} (h : n < 2 ^ 31) : (nI n < 0) = False := propext ⟨fun q => nI_pos h q, fun q => q.elim⟩
theorem nI_0le {n : Nat} (h : n < 2 ^ 31) : (0 ≤ nI n) = True := propext ⟨fun _ => trivial, fun _ => nI_pos' h⟩
theorem nI_0lt {n : Nat} (h : n < 2 ^ 31) : (0 < nI n) = (0 < n) := by
  have := nI_ltI (show 0 < 2 ^ 31 by omega) h
  rw [nI_0] at this
  exact propext this
theorem nI_eq0 {n : Nat} (h : n < 2 ^ 31) : (nI n = 0) = (n = 0) := by
  have := nI_eq h (show 0 < 2 ^ 31 by omega)
  rw [nI_0] at this
  exact propext this
theorem nI_leE {a b : Nat} (ha : a < 2 ^ 31) (hb : b < 2 ^ 31) : (nI a ≤ nI b) = (a ≤ b) := propext (nI_leI ha hb)
theorem nI_ltE {a b : Nat} (ha : a < 2 ^ 31) (hb : b < 2 ^ 31) : (nI a < nI b) = (a < b) := propext (nI_ltI ha hb)
theorem nI_eqE {a b : Nat} (ha : a < 2 ^ 31) (hb : b < 2 ^ 31) : (nI a = nI b) = (a = b) := propext (nI_eq ha hb)
theorem nI_min {x y : Nat} (hx : x < 2 ^ 31) (hy : y < 2 ^ 31) : (if nI y < nI x then nI y else nI x) = nI (min x y) := by
  by_cases h : y < x
  · rw [if_pos ((nI_ltI hy hx).mpr h), Nat.min_eq_right (by omega)]
  · rw [if_neg (fun q => h ((nI_ltI hy hx).mp q)), Nat.min_eq_left (by omega)]
theorem nI_max {x y : Nat} (hx : x < 2 ^ 31) (hy : y < 2 ^ 31) : (if nI x < nI y then nI y else nI x) = nI (max x y) := by
  by_cases h : x < y
  · rw [if_pos ((nI_ltI hx hy).mpr h), Nat.max_eq_right (by omega)]
  · rw [if_neg (fun q => h ((nI_ltI hx hy).mp q)), Nat.max_eq_left (by omega)]
theorem nI_vp {n N : Nat} (hn : n < 2 ^ 31) (hN : N < 2 ^ 31) : vp_in (nI n) N = (n < N) := by
  refine propext ⟨fun h => ?_, fun h => vp_in_nI h hN⟩
  have h2 := Nat.not_le.mp fun q => h (Or.inr q)
  rw [nI_clamp hn] at h2
  exact h2
theorem nI_nat (n : Nat) : Int32.ofNat n = nI n := rfl
/-! sums -/
def sm (f : Nat → Nat) : Nat → Nat
  | 0 => 0
  | n + 1 => sm f n + f n
theorem sm_le {f g : Nat → Nat} : ∀ (n : Nat), (∀ i, i < n → f i ≤ g i) → sm f n ≤ sm g n
  | 0, _ => Nat.le_refl _
  | n + 1, h => Nat.add_le_add (sm_le n fun i hi => h i (by omega)) (h n (by omega))
theorem sm_eq {f g : Nat → Nat} : ∀ (n : Nat), (∀ i, i < n → f i = g i) → sm f n = sm g n
  | 0, _ => rfl
  | n + 1, h => by simp only [sm]; rw [sm_eq n fun i hi => h i (by omega), h n (by omega)]
theorem sm_add {f g : Nat → Nat} : ∀ (n : Nat), sm (fun i => f i + g i) n = sm f n + sm g n
  | 0 => rfl
  | n + 1 => by simp only [sm]; rw [sm_add n]; omega
theorem sm_0 {f : Nat → Nat} : ∀ (n : Nat), (∀ i, i < n → f i = 0) → sm f n = 0
  | 0, _ => rfl
  | n + 1, h => by simp only [sm]; rw [sm_0 n fun i hi => h i (by omega), h n (by omega)]
theorem sm_one {a v : Nat} : ∀ (n : Nat), sm (fun i => if i = a then v else 0) n = if a < n then v else 0
  | 0 => by simp [sm]
  | n + 1 => by
    simp only [sm]
    rw [sm_one n]
    by_cases h1 : a < n
    · rw [if_pos h1, if_neg (by omega), if_pos (by omega)]; rfl
    · by_cases h2 : n = a
      · rw [if_neg h1, if_pos h2, if_pos (by omega), Nat.zero_add]
      · rw [if_neg h1, if_neg h2, if_neg (by omega)]
theorem sm_ge {f : Nat → Nat} {i : Nat} : ∀ (n : Nat), i < n → f i ≤ sm f n
  | 0, h => absurd h (Nat.not_lt_zero i)
  | n + 1, h => by
    simp only [sm]
    by_cases hi : i = n
    · rw [hi]; omega
    · have := sm_ge (f := f) n (show i < n by omega)
      omega
/-- one summand changes -/
theorem sm_upd {f g : Nat → Nat} {a : Nat} : ∀ (n : Nat), a < n → (∀ i, i < n → i ≠ a → g i = f i) → sm g n + f a = sm f n + g a
  | 0, h, _ => absurd h (Nat.not_lt_zero a)
  | n + 1, h, hg => by
    simp only [sm]
    by_cases ha : a = n
    · subst ha
      rw [sm_eq (f := g) (g := f) a fun i hi => hg i (by omega) (by omega)]
      omega
    · have := sm_upd (f := f) (g := g) n (by omega) fun i hi hne => hg i (by omega) hne
      rw [hg n (by omega) (fun q => ha q.symm)]
      omega
theorem sm_split {f : Nat → Nat} {m : Nat} : ∀ (n : Nat), m ≤ n → (∀ i, m ≤ i → i < n → f i = 0) → sm f n = sm f m
  | 0, h, _ => by rw [Nat.le_zero.mp h]
  | n + 1, h, h0 => by
    by_cases hm : m = n + 1
    · rw [hm]
    · simp only [sm]
      rw [sm_split n (by omega) fun i h1 h2 => h0 i h1 (by omega), h0 n (by omega) (by omega), Nat.add_zero]
