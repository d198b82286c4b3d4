/-! ===== the transformers ===== -/
def f_ic (v : Int32) (n : Nat) : mF := fun pc ls st g => some (True, pc + n, ls, .int v :: st, g)
def f_nul : mF := fun pc ls st g => some (True, pc + 1, ls, .null :: st, g)
def f_il (i n : Nat) : mF := fun pc ls st g => match ls[i]? with
  | some (.int x) => some (True, pc + n, ls, .int x :: st, g)
  | _ => none
def f_ll (i n : Nat) : mF := fun pc ls st g => match ls[i]? with
  | some (.long x) => some (True, pc + n, ls, .long x :: st, g)
  | _ => none
def f_al (i n : Nat) : mF := fun pc ls st g => match ls[i]? with
  | some (.ref x) => some (True, pc + n, ls, .ref x :: st, g)
  | some .null => some (True, pc + n, ls, .null :: st, g)
  | _ => none
def f_is (i n : Nat) : mF := fun pc ls st g => match st with
  | .int x :: r => some (nlb ls i ∧ i < ls.length, pc + n, ls.set i (.int x), r, g)
  | _ => none
def f_as (i n : Nat) : mF := fun pc ls st g => match st with
  | .ref x :: r => some (nlb ls i ∧ i < ls.length, pc + n, ls.set i (.ref x), r, g)
  | .null :: r => some (nlb ls i ∧ i < ls.length, pc + n, ls.set i .null, r, g)
  | _ => none
/-- a long's second half is unset -/
def f_ls (i n : Nat) : mF := fun pc ls st g => match st with
  | .long x :: r => some (nlb ls i ∧ i + 1 < ls.length, pc + n, (ls.set i (.long x)).set (i + 1) (.retAddr 0), r, g)
  | _ => none
def f_inc (i : Nat) (d : Int32) : mF := fun pc ls st g => match ls[i]? with
  | some (.int x) => some (nlb ls i, pc + 3, ls.set i (.int (x + d)), st, g)
  | _ => none
def f_b2 (f : Int32 → Int32 → Int32) : mF := fun pc ls st g => match st with
  | .int y :: .int x :: r => some (True, pc + 1, ls, .int (f x y) :: r, g)
  | _ => none
def f_div : mF := fun pc ls st g => match st with
  | .int y :: .int x :: r => some (¬ y = 0, pc + 1, ls, .int (x / y) :: r, g)
  | _ => none
def f_i2l : mF := fun pc ls st g => match st with
  | .int x :: r => some (True, pc + 1, ls, .long x.toInt64 :: r, g)
  | _ => none
def f_l2i : mF := fun pc ls st g => match st with
  | .long x :: r => some (True, pc + 1, ls, .int x.toInt32 :: r, g)
  | _ => none
def f_i2c : mF := fun pc ls st g => match st with
  | .int x :: r => some (True, pc + 1, ls, .int (x.toUInt32 % 65536).toInt32 :: r, g)
  | _ => none
def f_lmul : mF := fun pc ls st g => match st with
  | .long y :: .long x :: r => some (True, pc + 1, ls, .long (x * y) :: r, g)
  | _ => none
def f_lcmp : mF := fun pc ls st g => match st with
  | .long y :: .long x :: r => some (True, pc + 1, ls, .int (lg_cmp x y) :: r, g)
  | _ => none
def cat1 : Value → Prop
  | .long _ => False
  | .double _ => False
  | _ => True
def f_dup : mF := fun pc ls st g => match st with
  | x :: r => some (cat1 x, pc + 1, ls, x :: x :: r, g)
  | _ => none
def f_dup2 : mF := fun pc ls st g => match st with
  | y :: x :: r => some (cat1 x ∧ cat1 y, pc + 1, ls, y :: x :: y :: x :: r, g)
  | _ => none
def f_goto (t : Nat) : mF := fun _ ls st g => some (True, t, ls, st, g)
def f_ifn (t : Nat) (b : Bool) : mF := fun pc ls st g => match st with
  | .ref _ :: r => some (True, if b then pc + 3 else t, ls, r, g)
  | .null :: r => some (True, if b then t else pc + 3, ls, r, g)
  | _ => none
/-- branches -/
def tI1 (c : Int32 → Prop) (t : Nat) : mT := fun _ P pc ls st g => match st with
  | .int x :: r => (c x → P t ls r g) ∧ (¬ c x → P (pc + 3) ls r g)
  | _ => False
def tI2 (c : Int32 → Int32 → Prop) (t : Nat) : mT := fun _ P pc ls st g => match st with
  | .int y :: .int x :: r => (c x y → P t ls r g) ∧ (¬ c x y → P (pc + 3) ls r g)
  | _ => False
def f_sw (lo hi : Int) (d : Nat) (ts : List Nat) : mF := fun _ ls st g => match st with
  | .int x :: r => some (True, if x.toInt < lo ∨ hi < x.toInt then d else ts.getD (x.toInt - lo).toNat d, ls, r, g)
  | _ => none
/-- fields -/
def f_gI (kd k : Nat) : mF := fun pc ls st g => match st with
  | .ref a :: r => some (gK g a = kd, pc + 3, ls, .int (gI g a k) :: r, g)
  | _ => none
def f_gR (kd k : Nat) : mF := fun pc ls st g => match st with
  | .ref a :: r => some (gK g a = kd ∧ gR g a k ≠ 0, pc + 3, ls, .ref (gR g a k) :: r, g)
  | _ => none
def f_gY : mF := fun pc ls st g => match st with
  | .ref a :: r => some (gK g a = 5 ∧ gK g (a + 1) = 12, pc + 3, ls, .ref (a + 1) :: r, g)
  | _ => none
def f_pI (kd k : Nat) : mF := fun pc ls st g => match st with
  | .int v :: .ref a :: r => some (gK g a = kd, pc + 3, ls, r, pI g a k v)
  | _ => none
def f_pB (kd k : Nat) : mF := fun pc ls st g => match st with
  | .int v :: .ref a :: r => some (gK g a = kd ∧ (v = 0 ∨ v = 1), pc + 3, ls, r, pI g a k v)
  | _ => none
def f_pR (kd k : Nat) : mF := fun pc ls st g => match st with
  | .ref v :: .ref a :: r => some (gK g a = kd ∧ ok1 g v ∧ v ≠ 0, pc + 3, ls, r, pR g a k v)
  | _ => none
def f_pY : mF := fun pc ls st g => match st with
  | .ref q :: .ref a :: r => some (gK g a = 5 ∧ gK g q = 12 ∧ q ≠ a + 1 ∧ (gK g (a + 1) = 0 ∨ gK g (a + 1) = 12) ∧ gK g (q - 1) ≠ 5 ∧ stbs g ls ∧ stbs g r, pc + 3, ls, r, mY g a q)
  | _ => none
def f_gs (lab : Nat) : mF := fun pc ls st g => some (gK g lab = 10, pc + 3, ls, .ref lab :: st, g)
/-- arrays -/
def isIA (g : mG) (a : Nat) : Prop := gK g a = 10 ∨ gK g a = 11 ∨ gK g a = 12
def f_iald : mF := fun pc ls st g => match st with
  | .int i :: .ref a :: r => some (isIA g a ∧ vp_in i (gN g a), pc + 1, ls, .int (gI g a i.toNatClampNeg) :: r, g)
  | _ => none
def f_iast : mF := fun pc ls st g => match st with
  | .int v :: .int i :: .ref a :: r => some ((gK g a = 11 ∨ gK g a = 12) ∧ vp_in i (gN g a), pc + 1, ls, r, pI g a i.toNatClampNeg v)
  | _ => none
def f_cald : mF := fun pc ls st g => match st with
  | .int i :: .ref a :: r => some (gK g a = 13 ∧ vp_in i (gN g a), pc + 1, ls, .int (gI g a i.toNatClampNeg) :: r, g)
  | _ => none
def f_cast : mF := fun pc ls st g => match st with
  | .int v :: .int i :: .ref a :: r => some (gK g a = 13 ∧ vp_in i (gN g a) ∧ narrow .char (.int v) = .int v, pc + 1, ls, r, pI g a i.toNatClampNeg v)
  | _ => none
def f_aald (kd : Nat) : mF := fun pc ls st g => match st with
  | .int i :: .ref a :: r => some (gK g a = kd ∧ vp_in i (gN g a) ∧ gR g a i.toNatClampNeg ≠ 0, pc + 1, ls, .ref (gR g a i.toNatClampNeg) :: r, g)
  | _ => none
def f_aast (kd ek : Nat) : mF := fun pc ls st g => match st with
  | .ref v :: .int i :: .ref a :: r => some (gK g a = kd ∧ vp_in i (gN g a) ∧ gK g v = ek ∧ v ≠ 0, pc + 1, ls, r, pR g a i.toNatClampNeg v)
  | _ => none
def f_alen : mF := fun pc ls st g => match st with
  | .ref a :: r => some (10 ≤ gK g a ∧ gK g a ≤ 17, pc + 1, ls, .int (Int32.ofNat (gN g a)) :: r, g)
  | _ => none
/-- makings: the label is the prover's -/
def frsh (g : mG) (a : Nat) : Prop := gK g a = 0 ∧ gK g (a - 1) ≠ 5 ∧ a ≠ 0
def f_new (kd : Nat) (a : Nat) : mF := fun pc ls st g => some (frsh g a ∧ (kd = 5 → gK g (a + 1) = 0) ∧ alv g ls ∧ alv g st, pc + 3, ls, .ref a :: st, nw g a kd 0 (xn kd) (fun _ => 0))
/-- kind 11 (stays), 12 (moves) or 13 (chars) -/
def f_newa (kd : Nat) (a : Nat) : mF := fun pc ls st g => match st with
  | .int n :: r => some (frsh g a ∧ ¬ n < 0 ∧ n.toNatClampNeg ≤ 100000 ∧ alv g ls ∧ alv g r, pc + 2, ls, .ref a :: r, nw g a kd n.toNatClampNeg n.toNatClampNeg (fun _ => 0))
  | _ => none
def f_newq (kd : Nat) (a : Nat) : mF := fun pc ls st g => match st with
  | .int n :: r => some (frsh g a ∧ ¬ n < 0 ∧ n.toNatClampNeg ≤ 100000 ∧ alv g ls ∧ alv g r, pc + 3, ls, .ref a :: r, nw g a kd n.toNatClampNeg n.toNatClampNeg (fun _ => 0))
  | _ => none
/-- a clone of the row of ints 5, or of a row that moves -/
def f_cln5 (a : Nat) : mF := fun pc ls st g => match st with
  | .ref b :: r => some (frsh g a ∧ gK g b = 10 ∧ b = 5 ∧ r.length ≤ 4 ∧ alv g ls ∧ alv g r, pc + 3, ls, .ref a :: r, nw g a 11 (gN g b) (gN g b) (gI g b))
  | _ => none
def f_cast3 : mF := fun pc ls st g => match st with
  | .ref b :: r => some (gK g b = 11 ∨ gK g b = 12, pc + 3, ls, .ref b :: r, g)
  | _ => none
/-- System.arraycopy of ints, from 0 to 0 -/
def f_acpy : mF := fun pc ls st g => match st with
  | .int n :: .int dp :: .ref b :: .int sp :: .ref a :: r => some ((gK g a = 11 ∨ gK g a = 12) ∧ (gK g b = 11 ∨ gK g b = 12) ∧ ¬ sp < 0 ∧ ¬ dp < 0 ∧ ¬ n < 0 ∧ sp.toNatClampNeg + n.toNatClampNeg ≤ gN g a ∧ dp.toNatClampNeg + n.toNatClampNeg ≤ gN g b ∧ r.length ≤ 4, pc + 3, ls, r, pA g b (va_cpy (gI g a) (gI g b) sp.toNatClampNeg dp.toNatClampNeg n.toNatClampNeg))
  | _ => none
def f_min : mF := fun pc ls st g => match st with
  | .int y :: .int x :: r => some (r.length ≤ 4, pc + 3, ls, .int (if y < x then y else x) :: r, g)
  | _ => none
def f_max : mF := fun pc ls st g => match st with
  | .int y :: .int x :: r => some (r.length ≤ 4, pc + 3, ls, .int (if x < y then y else x) :: r, g)
  | _ => none
def f_minL : mF := fun pc ls st g => match st with
  | .long y :: .long x :: r => some (r.length ≤ 4, pc + 3, ls, .long (if y < x then y else x) :: r, g)
  | _ => none
/-- Object's constructor -/
def f_obj : mF := fun pc ls st g => match st with
  | .ref _ :: r => some (r.length ≤ 4, pc + 3, ls, r, g)
  | _ => none
/-- ends -/
def f_ret : List Value → Option (Prop × Option Value) := fun st => match st with
  | [] => some (True, none)
  | _ => none
def f_iret : List Value → Option (Prop × Option Value) := fun st => match st with
  | [.int v] => some (True, some (.int v))
  | _ => none
def f_zret : List Value → Option (Prop × Option Value) := fun st => match st with
  | [.int v] => some (v = 0 ∨ v = 1, some (.int v))
  | _ => none
def f_aret : List Value → Option (Prop × Option Value) := fun st => match st with
  | [.ref v] => some (True, some (.ref v))
  | [.null] => some (True, some .null)
  | _ => none
/-! they ask of one next state -/
theorem mono_of {f : mF} (h : ∀ pc ls st g n, f pc ls st g = some n → n.2.2.2.2 = g ∨ (gC g ≤ gC n.2.2.2.2 ∧ gS g ≤ gS n.2.2.2.2)) : mono f := by
  intro pc ls st g n hn
  rcases h _ _ _ _ _ hn with e | e
  · rw [e]; exact ⟨Nat.le_refl _, Nat.le_refl _⟩
  · exact e
theorem loc_I1 {c : Int32 → Prop} {t : Nat} : LOC (tI1 c t) := by
  intro Q P pc ls st g ht
  match st, ht with
  | .int x :: r, ht =>
    by_cases hc : c x
    · exact Or.inl ⟨_, _, _, _, ht.1 hc, Nat.le_refl _, Nat.le_refl _, fun Q' P' hp => ⟨fun _ => hp, fun h => absurd hc h⟩⟩
    · exact Or.inl ⟨_, _, _, _, ht.2 hc, Nat.le_refl _, Nat.le_refl _, fun Q' P' hp => ⟨fun h => absurd h hc, fun _ => hp⟩⟩
theorem loc_I2 {c : Int32 → Int32 → Prop} {t : Nat} : LOC (tI2 c t) := by
  intro Q P pc ls st g ht
  match st, ht with
  | .int y :: .int x :: r, ht =>
    by_cases hc : c x y
    · exact Or.inl ⟨_, _, _, _, ht.1 hc, Nat.le_refl _, Nat.le_refl _, fun Q' P' hp => ⟨fun _ => hp, fun h => absurd hc h⟩⟩
    · exact Or.inl ⟨_, _, _, _, ht.2 hc, Nat.le_refl _, Nat.le_refl _, fun Q' P' hp => ⟨fun h => absurd h hc, fun _ => hp⟩⟩
theorem mo_ic {v : Int32} {n : Nat} : mono (f_ic v n) := by
  intro pc ls st g n h
  unfold f_ic at h
  (try split at h) <;> first | (cases h; exact ⟨Nat.le_refl _, Nat.le_refl _⟩) | (cases h; exact ⟨Nat.le_succ _, Nat.le_add_right _ _⟩) | cases h
theorem mo_nul  : mono (f_nul) := by
  intro pc ls st g n h
  unfold f_nul at h
  (try split at h) <;> first | (cases h; exact ⟨Nat.le_refl _, Nat.le_refl _⟩) | (cases h; exact ⟨Nat.le_succ _, Nat.le_add_right _ _⟩) | cases h
theorem mo_il {i : Nat} {n : Nat} : mono (f_il i n) := by
  intro pc ls st g n h
  unfold f_il at h
  (try split at h) <;> first | (cases h; exact ⟨Nat.le_refl _, Nat.le_refl _⟩) | (cases h; exact ⟨Nat.le_succ _, Nat.le_add_right _ _⟩) | cases h
theorem mo_ll {i : Nat} {n : Nat} : mono (f_ll i n) := by
  intro pc ls st g n h
  unfold f_ll at h
  (try split at h) <;> first | (cases h; exact ⟨Nat.le_refl _, Nat.le_refl _⟩) | (cases h; exact ⟨Nat.le_succ _, Nat.le_add_right _ _⟩) | cases h
theorem mo_al {i : Nat} {n : Nat} : mono (f_al i n) := by
  intro pc ls st g n h
  unfold f_al at h
  (try split at h) <;> first | (cases h; exact ⟨Nat.le_refl _, Nat.le_refl _⟩) | (cases h; exact ⟨Nat.le_succ _, Nat.le_add_right _ _⟩) | cases h
theorem mo_is {i : Nat} {n : Nat} : mono (f_is i n) := by
  intro pc ls st g n h
  unfold f_is at h
  (try split at h) <;> first | (cases h; exact ⟨Nat.le_refl _, Nat.le_refl _⟩) | (cases h; exact ⟨Nat.le_succ _, Nat.le_add_right _ _⟩) | cases h
theorem mo_as {i : Nat} {n : Nat} : mono (f_as i n) := by
  intro pc ls st g n h
  unfold f_as at h
  (try split at h) <;> first | (cases h; exact ⟨Nat.le_refl _, Nat.le_refl _⟩) | (cases h; exact ⟨Nat.le_succ _, Nat.le_add_right _ _⟩) | cases h
theorem mo_ls {i : Nat} {n : Nat} : mono (f_ls i n) := by
  intro pc ls st g n h
  unfold f_ls at h
  (try split at h) <;> first | (cases h; exact ⟨Nat.le_refl _, Nat.le_refl _⟩) | (cases h; exact ⟨Nat.le_succ _, Nat.le_add_right _ _⟩) | cases h
theorem mo_inc {i : Nat} {d : Int32} : mono (f_inc i d) := by
  intro pc ls st g n h
  unfold f_inc at h
  (try split at h) <;> first | (cases h; exact ⟨Nat.le_refl _, Nat.le_refl _⟩) | (cases h; exact ⟨Nat.le_succ _, Nat.le_add_right _ _⟩) | cases h
theorem mo_b2 {f : Int32 → Int32 → Int32} : mono (f_b2 f) := by
  intro pc ls st g n h
  unfold f_b2 at h
  (try split at h) <;> first | (cases h; exact ⟨Nat.le_refl _, Nat.le_refl _⟩) | (cases h; exact ⟨Nat.le_succ _, Nat.le_add_right _ _⟩) | cases h
theorem mo_div  : mono (f_div) := by
  intro pc ls st g n h
  unfold f_div at h
  (try split at h) <;> first | (cases h; exact ⟨Nat.le_refl _, Nat.le_refl _⟩) | (cases h; exact ⟨Nat.le_succ _, Nat.le_add_right _ _⟩) | cases h
theorem mo_i2l  : mono (f_i2l) := by
  intro pc ls st g n h
  unfold f_i2l at h
  (try split at h) <;> first | (cases h; exact ⟨Nat.le_refl _, Nat.le_refl _⟩) | (cases h; exact ⟨Nat.le_succ _, Nat.le_add_right _ _⟩) | cases h
theorem mo_l2i  : mono (f_l2i) := by
  intro pc ls st g n h
  unfold f_l2i at h
  (try split at h) <;> first | (cases h; exact ⟨Nat.le_refl _, Nat.le_refl _⟩) | (cases h; exact ⟨Nat.le_succ _, Nat.le_add_right _ _⟩) | cases h
theorem mo_i2c  : mono (f_i2c) := by
  intro pc ls st g n h
  unfold f_i2c at h
  (try split at h) <;> first | (cases h; exact ⟨Nat.le_refl _, Nat.le_refl _⟩) | (cases h; exact ⟨Nat.le_succ _, Nat.le_add_right _ _⟩) | cases h
theorem mo_lmul  : mono (f_lmul) := by
  intro pc ls st g n h
  unfold f_lmul at h
  (try split at h) <;> first | (cases h; exact ⟨Nat.le_refl _, Nat.le_refl _⟩) | (cases h; exact ⟨Nat.le_succ _, Nat.le_add_right _ _⟩) | cases h
theorem mo_lcmp  : mono (f_lcmp) := by
  intro pc ls st g n h
  unfold f_lcmp at h
  (try split at h) <;> first | (cases h; exact ⟨Nat.le_refl _, Nat.le_refl _⟩) | (cases h; exact ⟨Nat.le_succ _, Nat.le_add_right _ _⟩) | cases h
theorem mo_dup  : mono (f_dup) := by
  intro pc ls st g n h
  unfold f_dup at h
  (try split at h) <;> first | (cases h; exact ⟨Nat.le_refl _, Nat.le_refl _⟩) | (cases h; exact ⟨Nat.le_succ _, Nat.le_add_right _ _⟩) | cases h
theorem mo_dup2  : mono (f_dup2) := by
  intro pc ls st g n h
  unfold f_dup2 at h
  (try split at h) <;> first | (cases h; exact ⟨Nat.le_refl _, Nat.le_refl _⟩) | (cases h; exact ⟨Nat.le_succ _, Nat.le_add_right _ _⟩) | cases h
theorem mo_goto {t : Nat} : mono (f_goto t) := by
  intro pc ls st g n h
  unfold f_goto at h
  (try split at h) <;> first | (cases h; exact ⟨Nat.le_refl _, Nat.le_refl _⟩) | (cases h; exact ⟨Nat.le_succ _, Nat.le_add_right _ _⟩) | cases h
theorem mo_ifn {t : Nat} {b : Bool} : mono (f_ifn t b) := by
  intro pc ls st g n h
  unfold f_ifn at h
  (try split at h) <;> first | (cases h; exact ⟨Nat.le_refl _, Nat.le_refl _⟩) | (cases h; exact ⟨Nat.le_succ _, Nat.le_add_right _ _⟩) | cases h
theorem mo_sw {lo : Int} {hi : Int} {d : Nat} {ts : List Nat} : mono (f_sw lo hi d ts) := by
  intro pc ls st g n h
  unfold f_sw at h
  (try split at h) <;> first | (cases h; exact ⟨Nat.le_refl _, Nat.le_refl _⟩) | (cases h; exact ⟨Nat.le_succ _, Nat.le_add_right _ _⟩) | cases h
theorem mo_gI {kd : Nat} {k : Nat} : mono (f_gI kd k) := by
  intro pc ls st g n h
  unfold f_gI at h
  (try split at h) <;> first | (cases h; exact ⟨Nat.le_refl _, Nat.le_refl _⟩) | (cases h; exact ⟨Nat.le_succ _, Nat.le_add_right _ _⟩) | cases h
theorem mo_gR {kd : Nat} {k : Nat} : mono (f_gR kd k) := by
  intro pc ls st g n h
  unfold f_gR at h
  (try split at h) <;> first | (cases h; exact ⟨Nat.le_refl _, Nat.le_refl _⟩) | (cases h; exact ⟨Nat.le_succ _, Nat.le_add_right _ _⟩) | cases h
theorem mo_gY  : mono (f_gY) := by
  intro pc ls st g n h
  unfold f_gY at h
  (try split at h) <;> first | (cases h; exact ⟨Nat.le_refl _, Nat.le_refl _⟩) | (cases h; exact ⟨Nat.le_succ _, Nat.le_add_right _ _⟩) | cases h
theorem mo_pI {kd : Nat} {k : Nat} : mono (f_pI kd k) := by
  intro pc ls st g n h
  unfold f_pI at h
  (try split at h) <;> first | (cases h; exact ⟨Nat.le_refl _, Nat.le_refl _⟩) | (cases h; exact ⟨Nat.le_succ _, Nat.le_add_right _ _⟩) | cases h
theorem mo_pB {kd : Nat} {k : Nat} : mono (f_pB kd k) := by
  intro pc ls st g n h
  unfold f_pB at h
  (try split at h) <;> first | (cases h; exact ⟨Nat.le_refl _, Nat.le_refl _⟩) | (cases h; exact ⟨Nat.le_succ _, Nat.le_add_right _ _⟩) | cases h
theorem mo_pR {kd : Nat} {k : Nat} : mono (f_pR kd k) := by
  intro pc ls st g n h
  unfold f_pR at h
  (try split at h) <;> first | (cases h; exact ⟨Nat.le_refl _, Nat.le_refl _⟩) | (cases h; exact ⟨Nat.le_succ _, Nat.le_add_right _ _⟩) | cases h
theorem mo_pY  : mono (f_pY) := by
  intro pc ls st g n h
  unfold f_pY at h
  (try split at h) <;> first | (cases h; exact ⟨Nat.le_refl _, Nat.le_refl _⟩) | (cases h; exact ⟨Nat.le_succ _, Nat.le_add_right _ _⟩) | cases h
theorem mo_gs {lab : Nat} : mono (f_gs lab) := by
  intro pc ls st g n h
  unfold f_gs at h
  (try split at h) <;> first | (cases h; exact ⟨Nat.le_refl _, Nat.le_refl _⟩) | (cases h; exact ⟨Nat.le_succ _, Nat.le_add_right _ _⟩) | cases h
theorem mo_iald  : mono (f_iald) := by
  intro pc ls st g n h
  unfold f_iald at h
  (try split at h) <;> first | (cases h; exact ⟨Nat.le_refl _, Nat.le_refl _⟩) | (cases h; exact ⟨Nat.le_succ _, Nat.le_add_right _ _⟩) | cases h
theorem mo_iast  : mono (f_iast) := by
  intro pc ls st g n h
  unfold f_iast at h
  (try split at h) <;> first | (cases h; exact ⟨Nat.le_refl _, Nat.le_refl _⟩) | (cases h; exact ⟨Nat.le_succ _, Nat.le_add_right _ _⟩) | cases h
theorem mo_cald  : mono (f_cald) := by
  intro pc ls st g n h
  unfold f_cald at h
  (try split at h) <;> first | (cases h; exact ⟨Nat.le_refl _, Nat.le_refl _⟩) | (cases h; exact ⟨Nat.le_succ _, Nat.le_add_right _ _⟩) | cases h
theorem mo_cast  : mono (f_cast) := by
  intro pc ls st g n h
  unfold f_cast at h
  (try split at h) <;> first | (cases h; exact ⟨Nat.le_refl _, Nat.le_refl _⟩) | (cases h; exact ⟨Nat.le_succ _, Nat.le_add_right _ _⟩) | cases h
theorem mo_aald {kd : Nat} : mono (f_aald kd) := by
  intro pc ls st g n h
  unfold f_aald at h
  (try split at h) <;> first | (cases h; exact ⟨Nat.le_refl _, Nat.le_refl _⟩) | (cases h; exact ⟨Nat.le_succ _, Nat.le_add_right _ _⟩) | cases h
theorem mo_aast {kd : Nat} {ek : Nat} : mono (f_aast kd ek) := by
  intro pc ls st g n h
  unfold f_aast at h
  (try split at h) <;> first | (cases h; exact ⟨Nat.le_refl _, Nat.le_refl _⟩) | (cases h; exact ⟨Nat.le_succ _, Nat.le_add_right _ _⟩) | cases h
theorem mo_alen  : mono (f_alen) := by
  intro pc ls st g n h
  unfold f_alen at h
  (try split at h) <;> first | (cases h; exact ⟨Nat.le_refl _, Nat.le_refl _⟩) | (cases h; exact ⟨Nat.le_succ _, Nat.le_add_right _ _⟩) | cases h
theorem mo_new {kd : Nat} {a : Nat} : mono (f_new kd a) := by
  intro pc ls st g n h
  unfold f_new at h
  (try split at h) <;> first | (cases h; exact ⟨Nat.le_refl _, Nat.le_refl _⟩) | (cases h; exact ⟨Nat.le_succ _, Nat.le_add_right _ _⟩) | cases h
theorem mo_newa {kd : Nat} {a : Nat} : mono (f_newa kd a) := by
  intro pc ls st g n h
  unfold f_newa at h
  (try split at h) <;> first | (cases h; exact ⟨Nat.le_refl _, Nat.le_refl _⟩) | (cases h; exact ⟨Nat.le_succ _, Nat.le_add_right _ _⟩) | cases h
theorem mo_newq {kd : Nat} {a : Nat} : mono (f_newq kd a) := by
  intro pc ls st g n h
  unfold f_newq at h
  (try split at h) <;> first | (cases h; exact ⟨Nat.le_refl _, Nat.le_refl _⟩) | (cases h; exact ⟨Nat.le_succ _, Nat.le_add_right _ _⟩) | cases h
theorem mo_cln5 {a : Nat} : mono (f_cln5 a) := by
  intro pc ls st g n h
  unfold f_cln5 at h
  (try split at h) <;> first | (cases h; exact ⟨Nat.le_refl _, Nat.le_refl _⟩) | (cases h; exact ⟨Nat.le_succ _, Nat.le_add_right _ _⟩) | cases h
theorem mo_cast3  : mono (f_cast3) := by
  intro pc ls st g n h
  unfold f_cast3 at h
  (try split at h) <;> first | (cases h; exact ⟨Nat.le_refl _, Nat.le_refl _⟩) | (cases h; exact ⟨Nat.le_succ _, Nat.le_add_right _ _⟩) | cases h
theorem mo_acpy  : mono (f_acpy) := by
  intro pc ls st g n h
  unfold f_acpy at h
  (try split at h) <;> first | (cases h; exact ⟨Nat.le_refl _, Nat.le_refl _⟩) | (cases h; exact ⟨Nat.le_succ _, Nat.le_add_right _ _⟩) | cases h
theorem mo_min  : mono (f_min) := by
  intro pc ls st g n h
  unfold f_min at h
  (try split at h) <;> first | (cases h; exact ⟨Nat.le_refl _, Nat.le_refl _⟩) | (cases h; exact ⟨Nat.le_succ _, Nat.le_add_right _ _⟩) | cases h
theorem mo_max  : mono (f_max) := by
  intro pc ls st g n h
  unfold f_max at h
  (try split at h) <;> first | (cases h; exact ⟨Nat.le_refl _, Nat.le_refl _⟩) | (cases h; exact ⟨Nat.le_succ _, Nat.le_add_right _ _⟩) | cases h
theorem mo_minL  : mono (f_minL) := by
  intro pc ls st g n h
  unfold f_minL at h
  (try split at h) <;> first | (cases h; exact ⟨Nat.le_refl _, Nat.le_refl _⟩) | (cases h; exact ⟨Nat.le_succ _, Nat.le_add_right _ _⟩) | cases h
theorem mo_obj  : mono (f_obj) := by
  intro pc ls st g n h
  unfold f_obj at h
  (try split at h) <;> first | (cases h; exact ⟨Nat.le_refl _, Nat.le_refl _⟩) | (cases h; exact ⟨Nat.le_succ _, Nat.le_add_right _ _⟩) | cases h
