/-! ===== the abstract machine: a heap of labels (kinds, lengths, ints, references, counters), transformers, the least fixpoint ===== -/
abbrev mG : Type := (Nat → Nat) × (Nat → Nat) × (Nat → Nat → Int32) × (Nat → Nat → Nat) × Nat × Nat
def gK (g : mG) (a : Nat) : Nat := g.1 a
def gN (g : mG) (a : Nat) : Nat := g.2.1 a
def gI (g : mG) (a : Nat) : Nat → Int32 := g.2.2.1 a
def gR (g : mG) (a k : Nat) : Nat := g.2.2.2.1 a k
def gC (g : mG) : Nat := g.2.2.2.2.1
def gS (g : mG) : Nat := g.2.2.2.2.2
def pI (g : mG) (a k : Nat) (v : Int32) : mG := (g.1, g.2.1, fun b j => if b = a then (if j = k then v else g.2.2.1 b j) else g.2.2.1 b j, g.2.2.2)
def pR (g : mG) (a k v : Nat) : mG := (g.1, g.2.1, g.2.2.1, fun b j => if b = a then (if j = k then v else g.2.2.2.1 b j) else g.2.2.2.1 b j, g.2.2.2.2)
def pA (g : mG) (a : Nat) (f : Nat → Int32) : mG := (g.1, g.2.1, fun b => if b = a then f else g.2.2.1 b, g.2.2.2)
def nw (g : mG) (a kd n sz : Nat) (f : Nat → Int32) : mG := (fun b => if b = a then kd else g.1 b, fun b => if b = a then n else g.2.1 b, fun b => if b = a then f else g.2.2.1 b, fun b => if b = a then fun _ => 0 else g.2.2.2.1 b, g.2.2.2.2.1 + 1, g.2.2.2.2.2 + sz)
/-- the row q becomes the row of the Permits a, at its own label -/
def mY (g : mG) (a q : Nat) : mG := (fun b => if b = a + 1 then 12 else if b = q then 0 else g.1 b, fun b => if b = a + 1 then g.2.1 q else g.2.1 b, fun b => if b = a + 1 then g.2.2.1 q else g.2.2.1 b, fun b => if b = a + 1 then fun _ => 0 else g.2.2.2.1 b, g.2.2.2.2)
theorem gK_pI {g : mG} {a k : Nat} {v : Int32} {b : Nat} : gK (pI g a k v) b = gK g b := rfl
theorem gN_pI {g : mG} {a k : Nat} {v : Int32} {b : Nat} : gN (pI g a k v) b = gN g b := rfl
theorem gR_pI {g : mG} {a k : Nat} {v : Int32} {b j : Nat} : gR (pI g a k v) b j = gR g b j := rfl
theorem gC_pI {g : mG} {a k : Nat} {v : Int32} : gC (pI g a k v) = gC g := rfl
theorem gS_pI {g : mG} {a k : Nat} {v : Int32} : gS (pI g a k v) = gS g := rfl
theorem gI_pI {g : mG} {a k : Nat} {v : Int32} {b j : Nat} : gI (pI g a k v) b j = if b = a then (if j = k then v else gI g b j) else gI g b j := rfl
theorem gI_pI_ne {g : mG} {a k : Nat} {v : Int32} {b : Nat} (h : b ≠ a) : gI (pI g a k v) b = gI g b := by funext j; rw [gI_pI, if_neg h]
theorem gI_pI_eq {g : mG} {a k : Nat} {v : Int32} {j : Nat} : gI (pI g a k v) a j = if j = k then v else gI g a j := by rw [gI_pI, if_pos rfl]
theorem gK_pR {g : mG} {a k v b : Nat} : gK (pR g a k v) b = gK g b := rfl
theorem gN_pR {g : mG} {a k v b : Nat} : gN (pR g a k v) b = gN g b := rfl
theorem gI_pR {g : mG} {a k v b : Nat} : gI (pR g a k v) b = gI g b := rfl
theorem gC_pR {g : mG} {a k v : Nat} : gC (pR g a k v) = gC g := rfl
theorem gS_pR {g : mG} {a k v : Nat} : gS (pR g a k v) = gS g := rfl
theorem gR_pR {g : mG} {a k v b j : Nat} : gR (pR g a k v) b j = if b = a then (if j = k then v else gR g b j) else gR g b j := rfl
theorem gK_pA {g : mG} {a : Nat} {f : Nat → Int32} {b : Nat} : gK (pA g a f) b = gK g b := rfl
theorem gN_pA {g : mG} {a : Nat} {f : Nat → Int32} {b : Nat} : gN (pA g a f) b = gN g b := rfl
theorem gR_pA {g : mG} {a : Nat} {f : Nat → Int32} {b j : Nat} : gR (pA g a f) b j = gR g b j := rfl
theorem gC_pA {g : mG} {a : Nat} {f : Nat → Int32} : gC (pA g a f) = gC g := rfl
theorem gS_pA {g : mG} {a : Nat} {f : Nat → Int32} : gS (pA g a f) = gS g := rfl
theorem gI_pA {g : mG} {a : Nat} {f : Nat → Int32} {b : Nat} : gI (pA g a f) b = if b = a then f else gI g b := rfl
theorem gK_nw {g : mG} {a kd n sz : Nat} {f : Nat → Int32} {b : Nat} : gK (nw g a kd n sz f) b = if b = a then kd else gK g b := rfl
theorem gN_nw {g : mG} {a kd n sz : Nat} {f : Nat → Int32} {b : Nat} : gN (nw g a kd n sz f) b = if b = a then n else gN g b := rfl
theorem gI_nw {g : mG} {a kd n sz : Nat} {f : Nat → Int32} {b : Nat} : gI (nw g a kd n sz f) b = if b = a then f else gI g b := rfl
theorem gR_nw {g : mG} {a kd n sz : Nat} {f : Nat → Int32} {b j : Nat} : gR (nw g a kd n sz f) b j = if b = a then 0 else gR g b j := by
  show (if b = a then fun _ => 0 else g.2.2.2.1 b) j = _
  split <;> rfl
theorem gC_nw {g : mG} {a kd n sz : Nat} {f : Nat → Int32} : gC (nw g a kd n sz f) = gC g + 1 := rfl
theorem gS_nw {g : mG} {a kd n sz : Nat} {f : Nat → Int32} : gS (nw g a kd n sz f) = gS g + sz := rfl
theorem gK_mY {g : mG} {a q b : Nat} : gK (mY g a q) b = if b = a + 1 then 12 else if b = q then 0 else gK g b := rfl
theorem gN_mY {g : mG} {a q b : Nat} : gN (mY g a q) b = if b = a + 1 then gN g q else gN g b := rfl
theorem gI_mY {g : mG} {a q b : Nat} : gI (mY g a q) b = if b = a + 1 then gI g q else gI g b := rfl
theorem gR_mY {g : mG} {a q b j : Nat} : gR (mY g a q) b j = if b = a + 1 then 0 else gR g b j := by
  show (if b = a + 1 then fun _ => 0 else g.2.2.2.1 b) j = _
  split <;> rfl
theorem gC_mY {g : mG} {a q : Nat} : gC (mY g a q) = gC g := rfl
theorem gS_mY {g : mG} {a q : Nat} : gS (mY g a q) = gS g := rfl
/-! programs -/
abbrev mP : Type := Nat → List Value → List Value → mG → Prop
abbrev mQ : Type := Option Value → mG → Prop
abbrev mT : Type := mQ → mP → mP
abbrev mF : Type := Nat → List Value → List Value → mG → Option (Prop × Nat × List Value × List Value × mG)
abbrev mS : Type := List Value → mG → mQ → Prop
def Qx (ve : Option Value) (ge : mG) : mQ := fun v g => v = ve ∧ g = ge
def tD (f : mF) : mT := fun _ P pc ls st g => match f pc ls st g with
  | some n => n.1 ∧ P n.2.1 n.2.2.1 n.2.2.2.1 n.2.2.2.2
  | none => False
def tE (f : Nat → mF) : mT := fun _ P pc ls st g => ∃ a : Nat, match f a pc ls st g with
  | some n => n.1 ∧ P n.2.1 n.2.2.1 n.2.2.2.1 n.2.2.2.2
  | none => False
def tR (f : List Value → Option (Prop × Option Value)) : mT := fun Q _ _ _ st g => match f st with
  | some v => v.1 ∧ Q v.2 g
  | none => False
def ok1 (g : mG) (a : Nat) : Prop := gK g a ≠ 0 ∧ gK g a ≠ 12
def stb (g : mG) : Value → Prop
  | .ref a => ok1 g a
  | _ => True
def stbs (g : mG) (l : List Value) : Prop := ∀ v ∈ l, stb g v
theorem stbs_nil {g : mG} : stbs g [] = True := propext ⟨fun _ => trivial, fun _ v h => (List.not_mem_nil h).elim⟩
theorem stbs_cons {g : mG} {v : Value} {l : List Value} : stbs g (v :: l) = (stb g v ∧ stbs g l) := propext List.forall_mem_cons
def alv1 (g : mG) : Value → Prop
  | .ref a => gK g a ≠ 0
  | _ => True
/-- what stands in a frame is alive -/
def alv (g : mG) (l : List Value) : Prop := ∀ v ∈ l, alv1 g v
theorem alv_nil {g : mG} : alv g [] = True := propext ⟨fun _ => trivial, fun _ v h => (List.not_mem_nil h).elim⟩
theorem alv_cons {g : mG} {v : Value} {l : List Value} : alv g (v :: l) = (alv1 g v ∧ alv g l) := propext List.forall_mem_cons
/-- the receiver's kind; 0: a static method -/
def rcv (g : mG) (kd : Nat) (st : List Value) : Prop := kd = 0 ∨ ∃ b : Nat, ∃ r : List Value, st = .ref b :: r ∧ gK g b = kd
def tC (spec : mS) (kd na : Nat) : mT := fun _ P pc ls st g =>
  na ≤ st.length ∧ (st.drop na).length ≤ 4 ∧ rcv g kd (st.take na).reverse ∧ stbs g ls ∧ stbs g (st.drop na) ∧ spec (st.take na).reverse g (fun v g' => P (pc + 3) ls (v.toList ++ st.drop na) g')
def tBad : mT := fun _ _ _ _ _ _ => False
def lk : List (Nat × mT) → Nat → mT
  | [], _ => tBad
  | q :: r, n => match Nat.beq q.1 n with
    | true => q.2
    | false => lk r n
def WP (cd : List (Nat × mT)) (Q : mQ) : mP := fun pc ls st g => ∀ P : mP, (∀ pc ls st g, lk cd pc Q P pc ls st g → P pc ls st g) → P pc ls st g
/-- a transformer asks its condition of one next state or of one end -/
def LOC (t : mT) : Prop := ∀ Q P pc ls st g, t Q P pc ls st g →
  (∃ pc' ls' st' g', P pc' ls' st' g' ∧ gC g ≤ gC g' ∧ gS g ≤ gS g' ∧ ∀ (Q' : mQ) (P' : mP), P' pc' ls' st' g' → t Q' P' pc ls st g) ∨
  (∃ v, Q v g ∧ ∀ (Q' : mQ) (P' : mP), Q' v g → t Q' P' pc ls st g)
def DET (spec : mS) : Prop := ∀ args g Q, spec args g Q → ∃ v g', Q v g' ∧ gC g ≤ gC g' ∧ gS g ≤ gS g' ∧ ∀ Q' : mQ, Q' v g' → spec args g Q'
def mono (f : mF) : Prop := ∀ pc ls st g n, f pc ls st g = some n → gC g ≤ gC n.2.2.2.2 ∧ gS g ≤ gS n.2.2.2.2
theorem loc_D {f : mF} (h : mono f) : LOC (tD f) := by
  intro Q P pc ls st g ht
  cases hf : f pc ls st g with
  | none => simp [tD, hf] at ht
  | some n =>
    simp only [tD, hf] at ht
    exact Or.inl ⟨_, _, _, _, ht.2, (h _ _ _ _ _ hf).1, (h _ _ _ _ _ hf).2, fun Q' P' hp => by simp only [tD, hf]; exact ⟨ht.1, hp⟩⟩
theorem loc_E {f : Nat → mF} (h : ∀ a, mono (f a)) : LOC (tE f) := by
  intro Q P pc ls st g ht
  obtain ⟨a, ht⟩ := ht
  cases hf : f a pc ls st g with
  | none => simp [hf] at ht
  | some n =>
    simp only [hf] at ht
    exact Or.inl ⟨_, _, _, _, ht.2, (h a _ _ _ _ _ hf).1, (h a _ _ _ _ _ hf).2, fun Q' P' hp => ⟨a, by simp only [hf]; exact ⟨ht.1, hp⟩⟩⟩
theorem loc_R {f : List Value → Option (Prop × Option Value)} : LOC (tR f) := by
  intro Q P pc ls st g ht
  cases hf : f st with
  | none => simp [tR, hf] at ht
  | some n =>
    simp only [tR, hf] at ht
    exact Or.inr ⟨_, ht.2, fun Q' P' hp => by simp only [tR, hf]; exact ⟨ht.1, hp⟩⟩
theorem loc_C {spec : mS} {kd na : Nat} (h : DET spec) : LOC (tC spec kd na) := by
  intro Q P pc ls st g ⟨h1, h2, h3, h4, h5, h6⟩
  obtain ⟨v, g', e1, e2, e3, e4⟩ := h _ _ _ h6
  exact Or.inl ⟨_, _, _, _, e1, e2, e3, fun Q' P' hp => ⟨h1, h2, h3, h4, h5, e4 _ hp⟩⟩
theorem loc_bad : LOC tBad := fun _ _ _ _ _ _ h => h.elim
theorem lk_all {p : Nat → mT → Prop} (hb : ∀ n, p n tBad) : ∀ (cd : List (Nat × mT)), (∀ q ∈ cd, p q.1 q.2) → ∀ n, p n (lk cd n)
  | [], _, n => hb n
  | q :: r, h, n => by
    unfold lk
    cases hq : Nat.beq q.1 n with
    | true =>
      have e : q.1 = n := Nat.eq_of_beq_eq_true hq
      rw [← e]
      exact h q List.mem_cons_self
    | false => exact lk_all hb r (fun z hz => h z (List.mem_cons_of_mem _ hz)) n
def locs_ok (cd : List (Nat × mT)) : Prop := ∀ q ∈ cd, LOC q.2
theorem lk_loc {cd : List (Nat × mT)} (h : locs_ok cd) (n : Nat) : LOC (lk cd n) := lk_all (p := fun _ t => LOC t) (fun _ => loc_bad) cd h n
theorem LOC.up {t : mT} (h : LOC t) {Q : mQ} {P P' : mP} {pc ls st g} (ht : t Q P pc ls st g) (hP : ∀ pc ls st g, P pc ls st g → P' pc ls st g) : t Q P' pc ls st g := by
  rcases h _ _ _ _ _ _ ht with ⟨_, _, _, _, h1, -, -, h2⟩ | ⟨_, h1, h2⟩
  · exact h2 _ _ (hP _ _ _ _ h1)
  · exact h2 _ _ h1
theorem WP_in {cd : List (Nat × mT)} {Q : mQ} (hl : locs_ok cd) {pc ls st g} (h : lk cd pc Q (WP cd Q) pc ls st g) : WP cd Q pc ls st g :=
  fun P hP => hP _ _ _ _ ((lk_loc hl pc).up h (fun _ _ _ _ hw => hw P hP))
theorem WP_out {cd : List (Nat × mT)} {Q : mQ} (hl : locs_ok cd) {pc ls st g} (h : WP cd Q pc ls st g) : lk cd pc Q (WP cd Q) pc ls st g :=
  h (fun pc ls st g => lk cd pc Q (WP cd Q) pc ls st g) (fun pc _ _ _ hp => (lk_loc hl pc).up hp (fun _ _ _ _ hw => WP_in hl hw))
theorem WP_eq {cd : List (Nat × mT)} {Q : mQ} (hl : locs_ok cd) {pc ls st g} : WP cd Q pc ls st g = lk cd pc Q (WP cd Q) pc ls st g := propext ⟨WP_out hl, WP_in hl⟩
theorem WP_det {cd : List (Nat × mT)} (hl : locs_ok cd) {Q : mQ} {pc ls st g} (h : WP cd Q pc ls st g) : ∃ v g', Q v g' ∧ gC g ≤ gC g' ∧ gS g ≤ gS g' ∧ ∀ Q' : mQ, Q' v g' → WP cd Q' pc ls st g := by
  refine h (fun pc ls st g => ∃ v g', Q v g' ∧ gC g ≤ gC g' ∧ gS g ≤ gS g' ∧ ∀ Q' : mQ, Q' v g' → WP cd Q' pc ls st g) ?_
  intro pc ls st g ht
  rcases lk_loc hl pc _ _ _ _ _ _ ht with ⟨pc', ls', st', g', ⟨v, g2, h1, h2, h3, h4⟩, m1, m2, hk⟩ | ⟨v, h1, hk⟩
  · exact ⟨v, g2, h1, Nat.le_trans m1 h2, Nat.le_trans m2 h3, fun Q' hq => WP_in hl (hk _ _ (h4 Q' hq))⟩
  · exact ⟨v, g, h1, Nat.le_refl _, Nat.le_refl _, fun Q' hq => WP_in hl (hk _ _ hq)⟩
theorem WP_up {cd : List (Nat × mT)} (hl : locs_ok cd) {Q Q' : mQ} {pc ls st g} (h : WP cd Q pc ls st g) (hq : ∀ v g', Q v g' → Q' v g') : WP cd Q' pc ls st g := by
  obtain ⟨v, g', h1, -, -, h2⟩ := WP_det hl h
  exact h2 _ (hq _ _ h1)
/-- a method's own predicate: its locals are its arguments and n unset ones -/
def wpm (cd : List (Nat × mT)) (n : Nat) : mS := fun args g Q => WP cd Q 0 (args ++ List.replicate n (.retAddr 0)) [] g
theorem wpm_det {cd : List (Nat × mT)} {n : Nat} (hl : locs_ok cd) : DET (wpm cd n) := fun _ _ _ h => WP_det hl h
