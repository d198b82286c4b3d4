/-! ===== one step of a program, as an equation ===== -/
theorem SM_of' {y : MethodName} {cd : ByteArray} {maxL : Nat} {ret : Option FieldType} {d : Nat} {code : List (Nat × mT)} {na n : Nat} (own nm : String) (ho : y.cls = own) (hm : y.name = nm) (hy : plainName own = true) (hnn : na + n = maxL) (hd : 1 ≤ d) (hl : locs_ok code) (hs : ∀ q ∈ code, SNDr own cd maxL (nm, d) ret q.2 q.1) : SM y cd maxL ret d (wm code na n) := by
  subst ho; subst hm
  exact SM_of hy hnn hd hl hs
section Eqs
variable {cd : List (Nat × mT)} {Q : mQ} {pc : Nat} {ls st : List Value} {g : mG}
theorem WP_at {t : mT} (hl : locs_ok cd) (hk : lk cd pc = t) : WP cd Q pc ls st g = t Q (WP cd Q) pc ls st g := by rw [WP_eq hl, hk]
theorem tand {P : Prop} : (True ∧ P) = P := propext ⟨fun h => h.2, fun h => ⟨trivial, h⟩⟩
theorem E_ic {v : Int32} {n : Nat} (hl : locs_ok cd) (hk : lk cd pc = tD (f_ic v n)) : WP cd Q pc ls st g = WP cd Q (pc + n) ls (.int v :: st) g := (WP_at hl hk).trans tand
theorem E_nul (hl : locs_ok cd) (hk : lk cd pc = tD f_nul) : WP cd Q pc ls st g = WP cd Q (pc + 1) ls (.null :: st) g := (WP_at hl hk).trans tand
theorem E_il {i n : Nat} {x : Int32} (hl : locs_ok cd) (hk : lk cd pc = tD (f_il i n)) (hi : ls[i]? = some (.int x)) : WP cd Q pc ls st g = WP cd Q (pc + n) ls (.int x :: st) g := by
  rw [WP_at hl hk]
  simp only [tD, f_il, hi]
  exact tand
theorem E_ll {i n : Nat} {x : Int64} (hl : locs_ok cd) (hk : lk cd pc = tD (f_ll i n)) (hi : ls[i]? = some (.long x)) : WP cd Q pc ls st g = WP cd Q (pc + n) ls (.long x :: st) g := by
  rw [WP_at hl hk]
  simp only [tD, f_ll, hi]
  exact tand
theorem E_al {i n : Nat} {x : Nat} (hl : locs_ok cd) (hk : lk cd pc = tD (f_al i n)) (hi : ls[i]? = some (.ref x)) : WP cd Q pc ls st g = WP cd Q (pc + n) ls (.ref x :: st) g := by
  rw [WP_at hl hk]
  simp only [tD, f_al, hi]
  exact tand
theorem E_aln {i n : Nat} (hl : locs_ok cd) (hk : lk cd pc = tD (f_al i n)) (hi : ls[i]? = some .null) : WP cd Q pc ls st g = WP cd Q (pc + n) ls (.null :: st) g := by
  rw [WP_at hl hk]
  simp only [tD, f_al, hi]
  exact tand
theorem nlt {i : Nat} {P A : Prop} (h : i < ls.length) : ((A ∧ i < ls.length) ∧ P) = (A ∧ P) := propext ⟨fun q => ⟨q.1.1, q.2⟩, fun q => ⟨⟨q.1, h⟩, q.2⟩⟩
theorem E_is {i n : Nat} {x : Int32} (hl : locs_ok cd) (hk : lk cd pc = tD (f_is i n)) (hi : i < ls.length) : WP cd Q pc ls (.int x :: st) g = (nlb ls i ∧ WP cd Q (pc + n) (ls.set i (.int x)) st g) := (WP_at hl hk).trans (nlt hi)
theorem E_is0 {n : Nat} {x : Int32} (hl : locs_ok cd) (hk : lk cd pc = tD (f_is 0 n)) (hi : 0 < ls.length) : WP cd Q pc ls (.int x :: st) g = WP cd Q (pc + n) (ls.set 0 (.int x)) st g := (E_is hl hk hi).trans tand
theorem E_as {i n : Nat} {x : Nat} (hl : locs_ok cd) (hk : lk cd pc = tD (f_as i n)) (hi : i < ls.length) : WP cd Q pc ls (.ref x :: st) g = (nlb ls i ∧ WP cd Q (pc + n) (ls.set i (.ref x)) st g) := (WP_at hl hk).trans (nlt hi)
theorem E_asn {i n : Nat} (hl : locs_ok cd) (hk : lk cd pc = tD (f_as i n)) (hi : i < ls.length) : WP cd Q pc ls (.null :: st) g = (nlb ls i ∧ WP cd Q (pc + n) (ls.set i .null) st g) := (WP_at hl hk).trans (nlt hi)
theorem E_ls {i n : Nat} {x : Int64} (hl : locs_ok cd) (hk : lk cd pc = tD (f_ls i n)) (hi : i + 1 < ls.length) : WP cd Q pc ls (.long x :: st) g = (nlb ls i ∧ WP cd Q (pc + n) ((ls.set i (.long x)).set (i + 1) (.retAddr 0)) st g) := (WP_at hl hk).trans (nlt hi)
theorem E_inc {i : Nat} {d x : Int32} (hl : locs_ok cd) (hk : lk cd pc = tD (f_inc i d)) (hi : ls[i]? = some (.int x)) : WP cd Q pc ls st g = (nlb ls i ∧ WP cd Q (pc + 3) (ls.set i (.int (x + d))) st g) := by
  rw [WP_at hl hk]
  simp only [tD, f_inc, hi]
theorem E_b2 {f : Int32 → Int32 → Int32} {x y : Int32} (hl : locs_ok cd) (hk : lk cd pc = tD (f_b2 f)) : WP cd Q pc ls (.int y :: .int x :: st) g = WP cd Q (pc + 1) ls (.int (f x y) :: st) g := (WP_at hl hk).trans tand
theorem E_div {x y : Int32} (hl : locs_ok cd) (hk : lk cd pc = tD f_div) : WP cd Q pc ls (.int y :: .int x :: st) g = (¬ y = 0 ∧ WP cd Q (pc + 1) ls (.int (x / y) :: st) g) := WP_at hl hk
theorem E_i2l {x : Int32} (hl : locs_ok cd) (hk : lk cd pc = tD f_i2l) : WP cd Q pc ls (.int x :: st) g = WP cd Q (pc + 1) ls (.long x.toInt64 :: st) g := (WP_at hl hk).trans tand
theorem E_l2i {x : Int64} (hl : locs_ok cd) (hk : lk cd pc = tD f_l2i) : WP cd Q pc ls (.long x :: st) g = WP cd Q (pc + 1) ls (.int x.toInt32 :: st) g := (WP_at hl hk).trans tand
theorem E_i2c {x : Int32} (hl : locs_ok cd) (hk : lk cd pc = tD f_i2c) : WP cd Q pc ls (.int x :: st) g = WP cd Q (pc + 1) ls (.int (x.toUInt32 % 65536).toInt32 :: st) g := (WP_at hl hk).trans tand
theorem E_lmul {x y : Int64} (hl : locs_ok cd) (hk : lk cd pc = tD f_lmul) : WP cd Q pc ls (.long y :: .long x :: st) g = WP cd Q (pc + 1) ls (.long (x * y) :: st) g := (WP_at hl hk).trans tand
theorem E_lcmp {x y : Int64} (hl : locs_ok cd) (hk : lk cd pc = tD f_lcmp) : WP cd Q pc ls (.long y :: .long x :: st) g = WP cd Q (pc + 1) ls (.int (lg_cmp x y) :: st) g := (WP_at hl hk).trans tand
theorem E_dup {x : Value} (hl : locs_ok cd) (hk : lk cd pc = tD f_dup) : WP cd Q pc ls (x :: st) g = (cat1 x ∧ WP cd Q (pc + 1) ls (x :: x :: st) g) := WP_at hl hk
theorem E_dup2 {x y : Value} (hl : locs_ok cd) (hk : lk cd pc = tD f_dup2) : WP cd Q pc ls (y :: x :: st) g = ((cat1 x ∧ cat1 y) ∧ WP cd Q (pc + 1) ls (y :: x :: y :: x :: st) g) := WP_at hl hk
theorem E_goto {t : Nat} (hl : locs_ok cd) (hk : lk cd pc = tD (f_goto t)) : WP cd Q pc ls st g = WP cd Q t ls st g := (WP_at hl hk).trans tand
theorem E_nr {t : Nat} {x : Nat} (hl : locs_ok cd) (hk : lk cd pc = tD (f_ifn t true)) : WP cd Q pc ls (.ref x :: st) g = WP cd Q (pc + 3) ls st g := (WP_at hl hk).trans tand
theorem E_nn {t : Nat} (hl : locs_ok cd) (hk : lk cd pc = tD (f_ifn t true)) : WP cd Q pc ls (.null :: st) g = WP cd Q t ls st g := (WP_at hl hk).trans tand
theorem E_nnr {t : Nat} {x : Nat} (hl : locs_ok cd) (hk : lk cd pc = tD (f_ifn t false)) : WP cd Q pc ls (.ref x :: st) g = WP cd Q t ls st g := (WP_at hl hk).trans tand
theorem E_nnn {t : Nat} (hl : locs_ok cd) (hk : lk cd pc = tD (f_ifn t false)) : WP cd Q pc ls (.null :: st) g = WP cd Q (pc + 3) ls st g := (WP_at hl hk).trans tand
theorem E_I1 {c : Int32 → Prop} {t : Nat} {x : Int32} (hl : locs_ok cd) (hk : lk cd pc = tI1 c t) : WP cd Q pc ls (.int x :: st) g = ((c x → WP cd Q t ls st g) ∧ (¬ c x → WP cd Q (pc + 3) ls st g)) := WP_at hl hk
theorem E_I2 {c : Int32 → Int32 → Prop} {t : Nat} {x y : Int32} (hl : locs_ok cd) (hk : lk cd pc = tI2 c t) : WP cd Q pc ls (.int y :: .int x :: st) g = ((c x y → WP cd Q t ls st g) ∧ (¬ c x y → WP cd Q (pc + 3) ls st g)) := WP_at hl hk
theorem E_sw {lo hi : Int} {d : Nat} {ts : List Nat} {x : Int32} (hl : locs_ok cd) (hk : lk cd pc = tD (f_sw lo hi d ts)) : WP cd Q pc ls (.int x :: st) g = WP cd Q (if x.toInt < lo ∨ hi < x.toInt then d else ts.getD (x.toInt - lo).toNat d) ls st g := (WP_at hl hk).trans tand
theorem E_gI {kd k a : Nat} (hl : locs_ok cd) (hk : lk cd pc = tD (f_gI kd k)) : WP cd Q pc ls (.ref a :: st) g = (gK g a = kd ∧ WP cd Q (pc + 3) ls (.int (gI g a k) :: st) g) := WP_at hl hk
theorem E_gR {kd k a : Nat} (hl : locs_ok cd) (hk : lk cd pc = tD (f_gR kd k)) : WP cd Q pc ls (.ref a :: st) g = ((gK g a = kd ∧ gR g a k ≠ 0) ∧ WP cd Q (pc + 3) ls (.ref (gR g a k) :: st) g) := WP_at hl hk
theorem E_gY {a : Nat} (hl : locs_ok cd) (hk : lk cd pc = tD f_gY) : WP cd Q pc ls (.ref a :: st) g = ((gK g a = 5 ∧ gK g (a + 1) = 12) ∧ WP cd Q (pc + 3) ls (.ref (a + 1) :: st) g) := WP_at hl hk
theorem E_pI {kd k a : Nat} {v : Int32} (hl : locs_ok cd) (hk : lk cd pc = tD (f_pI kd k)) : WP cd Q pc ls (.int v :: .ref a :: st) g = (gK g a = kd ∧ WP cd Q (pc + 3) ls st (pI g a k v)) := WP_at hl hk
theorem E_pB {kd k a : Nat} {v : Int32} (hl : locs_ok cd) (hk : lk cd pc = tD (f_pB kd k)) : WP cd Q pc ls (.int v :: .ref a :: st) g = ((gK g a = kd ∧ (v = 0 ∨ v = 1)) ∧ WP cd Q (pc + 3) ls st (pI g a k v)) := WP_at hl hk
theorem E_pR {kd k a v : Nat} (hl : locs_ok cd) (hk : lk cd pc = tD (f_pR kd k)) : WP cd Q pc ls (.ref v :: .ref a :: st) g = ((gK g a = kd ∧ ok1 g v ∧ v ≠ 0) ∧ WP cd Q (pc + 3) ls st (pR g a k v)) := WP_at hl hk
theorem E_pY {a q : Nat} (hl : locs_ok cd) (hk : lk cd pc = tD f_pY) : WP cd Q pc ls (.ref q :: .ref a :: st) g = ((gK g a = 5 ∧ gK g q = 12 ∧ q ≠ a + 1 ∧ (gK g (a + 1) = 0 ∨ gK g (a + 1) = 12) ∧ gK g (q - 1) ≠ 5 ∧ stbs g ls ∧ stbs g st) ∧ WP cd Q (pc + 3) ls st (mY g a q)) := WP_at hl hk
theorem E_gs {lab : Nat} (hl : locs_ok cd) (hk : lk cd pc = tD (f_gs lab)) : WP cd Q pc ls st g = (gK g lab = 10 ∧ WP cd Q (pc + 3) ls (.ref lab :: st) g) := WP_at hl hk
theorem E_iald {a : Nat} {i : Int32} (hl : locs_ok cd) (hk : lk cd pc = tD f_iald) : WP cd Q pc ls (.int i :: .ref a :: st) g = ((isIA g a ∧ vp_in i (gN g a)) ∧ WP cd Q (pc + 1) ls (.int (gI g a i.toNatClampNeg) :: st) g) := WP_at hl hk
theorem E_iast {a : Nat} {i v : Int32} (hl : locs_ok cd) (hk : lk cd pc = tD f_iast) : WP cd Q pc ls (.int v :: .int i :: .ref a :: st) g = (((gK g a = 11 ∨ gK g a = 12) ∧ vp_in i (gN g a)) ∧ WP cd Q (pc + 1) ls st (pI g a i.toNatClampNeg v)) := WP_at hl hk
theorem E_cald {a : Nat} {i : Int32} (hl : locs_ok cd) (hk : lk cd pc = tD f_cald) : WP cd Q pc ls (.int i :: .ref a :: st) g = ((gK g a = 13 ∧ vp_in i (gN g a)) ∧ WP cd Q (pc + 1) ls (.int (gI g a i.toNatClampNeg) :: st) g) := WP_at hl hk
theorem E_cast {a : Nat} {i v : Int32} (hl : locs_ok cd) (hk : lk cd pc = tD f_cast) : WP cd Q pc ls (.int v :: .int i :: .ref a :: st) g = ((gK g a = 13 ∧ vp_in i (gN g a) ∧ narrow .char (.int v) = .int v) ∧ WP cd Q (pc + 1) ls st (pI g a i.toNatClampNeg v)) := WP_at hl hk
theorem E_aald {kd a : Nat} {i : Int32} (hl : locs_ok cd) (hk : lk cd pc = tD (f_aald kd)) : WP cd Q pc ls (.int i :: .ref a :: st) g = ((gK g a = kd ∧ vp_in i (gN g a) ∧ gR g a i.toNatClampNeg ≠ 0) ∧ WP cd Q (pc + 1) ls (.ref (gR g a i.toNatClampNeg) :: st) g) := WP_at hl hk
theorem E_aast {kd ek a v : Nat} {i : Int32} (hl : locs_ok cd) (hk : lk cd pc = tD (f_aast kd ek)) : WP cd Q pc ls (.ref v :: .int i :: .ref a :: st) g = ((gK g a = kd ∧ vp_in i (gN g a) ∧ gK g v = ek ∧ v ≠ 0) ∧ WP cd Q (pc + 1) ls st (pR g a i.toNatClampNeg v)) := WP_at hl hk
theorem E_alen {a : Nat} (hl : locs_ok cd) (hk : lk cd pc = tD f_alen) : WP cd Q pc ls (.ref a :: st) g = ((10 ≤ gK g a ∧ gK g a ≤ 17) ∧ WP cd Q (pc + 1) ls (.int (nI (gN g a)) :: st) g) := WP_at hl hk
theorem E_new {kd : Nat} (hl : locs_ok cd) (hk : lk cd pc = tE (f_new kd)) : WP cd Q pc ls st g = ∃ a : Nat, (frsh g a ∧ (kd = 5 → gK g (a + 1) = 0) ∧ alv g ls ∧ alv g st) ∧ WP cd Q (pc + 3) ls (.ref a :: st) (nw g a kd 0 (xn kd) (fun _ => 0)) := WP_at hl hk
theorem E_newa {kd : Nat} {n : Int32} (hl : locs_ok cd) (hk : lk cd pc = tE (f_newa kd)) : WP cd Q pc ls (.int n :: st) g = ∃ a : Nat, (frsh g a ∧ ¬ n < 0 ∧ n.toNatClampNeg ≤ 100000 ∧ alv g ls ∧ alv g st) ∧ WP cd Q (pc + 2) ls (.ref a :: st) (nw g a kd n.toNatClampNeg n.toNatClampNeg (fun _ => 0)) := WP_at hl hk
theorem E_newq {kd : Nat} {n : Int32} (hl : locs_ok cd) (hk : lk cd pc = tE (f_newq kd)) : WP cd Q pc ls (.int n :: st) g = ∃ a : Nat, (frsh g a ∧ ¬ n < 0 ∧ n.toNatClampNeg ≤ 100000 ∧ alv g ls ∧ alv g st) ∧ WP cd Q (pc + 3) ls (.ref a :: st) (nw g a kd n.toNatClampNeg n.toNatClampNeg (fun _ => 0)) := WP_at hl hk
theorem E_cln5 {b : Nat} (hl : locs_ok cd) (hk : lk cd pc = tE f_cln5) : WP cd Q pc ls (.ref b :: st) g = ∃ a : Nat, (frsh g a ∧ gK g b = 10 ∧ b = 5 ∧ st.length ≤ 4 ∧ alv g ls ∧ alv g st) ∧ WP cd Q (pc + 3) ls (.ref a :: st) (nw g a 11 (gN g b) (gN g b) (gI g b)) := WP_at hl hk
theorem E_cast3 {b : Nat} (hl : locs_ok cd) (hk : lk cd pc = tD f_cast3) : WP cd Q pc ls (.ref b :: st) g = ((gK g b = 11 ∨ gK g b = 12) ∧ WP cd Q (pc + 3) ls (.ref b :: st) g) := WP_at hl hk
theorem E_acpy {a b : Nat} {n dp sp : Int32} (hl : locs_ok cd) (hk : lk cd pc = tD f_acpy) : WP cd Q pc ls (.int n :: .int dp :: .ref b :: .int sp :: .ref a :: st) g = (((gK g a = 11 ∨ gK g a = 12) ∧ (gK g b = 11 ∨ gK g b = 12) ∧ ¬ sp < 0 ∧ ¬ dp < 0 ∧ ¬ n < 0 ∧ sp.toNatClampNeg + n.toNatClampNeg ≤ gN g a ∧ dp.toNatClampNeg + n.toNatClampNeg ≤ gN g b ∧ st.length ≤ 4) ∧ WP cd Q (pc + 3) ls st (pA g b (va_cpy (gI g a) (gI g b) sp.toNatClampNeg dp.toNatClampNeg n.toNatClampNeg))) := WP_at hl hk
theorem E_min {x y : Int32} (hl : locs_ok cd) (hk : lk cd pc = tD f_min) : WP cd Q pc ls (.int y :: .int x :: st) g = (st.length ≤ 4 ∧ WP cd Q (pc + 3) ls (.int (if y < x then y else x) :: st) g) := WP_at hl hk
theorem E_max {x y : Int32} (hl : locs_ok cd) (hk : lk cd pc = tD f_max) : WP cd Q pc ls (.int y :: .int x :: st) g = (st.length ≤ 4 ∧ WP cd Q (pc + 3) ls (.int (if x < y then y else x) :: st) g) := WP_at hl hk
theorem E_minL {x y : Int64} (hl : locs_ok cd) (hk : lk cd pc = tD f_minL) : WP cd Q pc ls (.long y :: .long x :: st) g = (st.length ≤ 4 ∧ WP cd Q (pc + 3) ls (.long (if y < x then y else x) :: st) g) := WP_at hl hk
theorem E_obj {x : Nat} (hl : locs_ok cd) (hk : lk cd pc = tD f_obj) : WP cd Q pc ls (.ref x :: st) g = (st.length ≤ 4 ∧ WP cd Q (pc + 3) ls st g) := WP_at hl hk
theorem E_ret (hl : locs_ok cd) (hk : lk cd pc = tR f_ret) : WP cd Q pc ls [] g = Q none g := (WP_at hl hk).trans tand
theorem E_iret {v : Int32} (hl : locs_ok cd) (hk : lk cd pc = tR f_iret) : WP cd Q pc ls [.int v] g = Q (some (.int v)) g := (WP_at hl hk).trans tand
theorem E_zret {v : Int32} (hl : locs_ok cd) (hk : lk cd pc = tR f_zret) : WP cd Q pc ls [.int v] g = ((v = 0 ∨ v = 1) ∧ Q (some (.int v)) g) := WP_at hl hk
theorem E_aret {v : Nat} (hl : locs_ok cd) (hk : lk cd pc = tR f_aret) : WP cd Q pc ls [.ref v] g = Q (some (.ref v)) g := (WP_at hl hk).trans tand
theorem E_aretn (hl : locs_ok cd) (hk : lk cd pc = tR f_aret) : WP cd Q pc ls [.null] g = Q (some .null) g := (WP_at hl hk).trans tand
theorem E_CV {spec : mS} {kd na : Nat} {ar r : List Value} {b : Nat} (hl : locs_ok cd) (hk : lk cd pc = tC spec kd na) (hn : ar.length = na) (hr : ar.reverse = .ref b :: r) (hkd : kd ≠ 0) : WP cd Q pc ls (ar ++ st) g = (st.length ≤ 4 ∧ gK g b = kd ∧ stbs g ls ∧ stbs g st ∧ spec (.ref b :: r) g (fun v g' => WP cd Q (pc + 3) ls (v.toList ++ st) g')) := by
  rw [WP_at hl hk]
  have e1 : (ar ++ st).take na = ar := by rw [← hn, List.take_left']; rfl
  have e2 : (ar ++ st).drop na = st := by rw [← hn, List.drop_left']; rfl
  unfold tC
  rw [e1, e2, hr]
  refine propext ⟨fun ⟨_, h2, h3, h4, h5, h6⟩ => ⟨h2, ?_, h4, h5, h6⟩, fun ⟨h2, h3, h4, h5, h6⟩ => ⟨by simp; omega, h2, Or.inr ⟨b, r, rfl, h3⟩, h4, h5, h6⟩⟩
  rcases h3 with h3 | ⟨b', r', h3, h7⟩
  · exact absurd h3 hkd
  · cases h3; exact h7
theorem E_CS {spec : mS} {na : Nat} {ar r : List Value} (hl : locs_ok cd) (hk : lk cd pc = tC spec 0 na) (hn : ar.length = na) (hr : ar.reverse = r) : WP cd Q pc ls (ar ++ st) g = (st.length ≤ 4 ∧ stbs g ls ∧ stbs g st ∧ spec r g (fun v g' => WP cd Q (pc + 3) ls (v.toList ++ st) g')) := by
  rw [WP_at hl hk]
  have e1 : (ar ++ st).take na = ar := by rw [← hn, List.take_left']; rfl
  have e2 : (ar ++ st).drop na = st := by rw [← hn, List.drop_left']; rfl
  unfold tC
  rw [e1, e2, hr]
  exact propext ⟨fun ⟨_, h2, h3, h4, h5, h6⟩ => ⟨h2, h4, h5, h6⟩, fun ⟨h2, h4, h5, h6⟩ => ⟨by simp; omega, h2, Or.inl rfl, h4, h5, h6⟩⟩
end Eqs
/-! small words that a run leaves -/
theorem nl1_int {x : Int32} : nl1 (.int x) = True := rfl
theorem nl1_ref {x : Nat} : nl1 (.ref x) = True := rfl
theorem nl1_null : nl1 .null = True := rfl
theorem nl1_ra {x : Nat} : nl1 (.retAddr x) = True := rfl
theorem cat1_int {x : Int32} : cat1 (.int x) = True := rfl
theorem cat1_ref {x : Nat} : cat1 (.ref x) = True := rfl
theorem cat1_null : cat1 .null = True := rfl
theorem stb_int {g : mG} {x : Int32} : stb g (.int x) = True := rfl
theorem stb_long {g : mG} {x : Int64} : stb g (.long x) = True := rfl
theorem stb_ref {g : mG} {x : Nat} : stb g (.ref x) = ok1 g x := rfl
theorem stb_null {g : mG} : stb g .null = True := rfl
theorem stb_ra {g : mG} {x : Nat} : stb g (.retAddr x) = True := rfl
theorem alv1_int {g : mG} {x : Int32} : alv1 g (.int x) = True := rfl
theorem alv1_ref {g : mG} {x : Nat} : alv1 g (.ref x) = (gK g x ≠ 0) := rfl
theorem alv1_null {g : mG} : alv1 g .null = True := rfl
theorem alv1_ra {g : mG} {x : Nat} : alv1 g (.retAddr x) = True := rfl
/-- a method's own predicate, at given arguments -/
theorem wm_at {cd : List (Nat × mT)} {na n : Nat} {args : List Value} {g : mG} {Q : mQ} (h : args.length = na) (h2 : argsok args) (hw : WP cd Q 0 (args ++ List.replicate n (.retAddr 0)) [] g) : wm cd na n args g Q := ⟨⟨h, h2⟩, hw⟩
theorem wm_up {cd : List (Nat × mT)} {na n : Nat} {args : List Value} {g : mG} {Q Q' : mQ} (hl : locs_ok cd) (h : wm cd na n args g Q) (hq : ∀ v g', Q v g' → Q' v g') : wm cd na n args g Q' := ⟨h.1, WP_up hl h.2 hq⟩
