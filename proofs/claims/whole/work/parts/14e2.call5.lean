/-! ===== a call above five ===== -/
def c1s : List Value → Prop
  | [] => True
  | v :: t => cat1 v ∧ c1s t
theorem c1s_sum {L : Nat → Nat} : ∀ (l : List Value), c1s l → ((l.map (rz L)).map fun v => v.category).sum ≤ l.length
  | [], _ => Nat.zero_le _
  | v :: t, h => by
    have ih := c1s_sum (L := L) t h.2
    have h1 := h.1
    have e : (rz L v).category ≤ 1 := by
      rw [rz_cat]
      cases v <;> simp_all [cat1, Value.category]
    simp only [List.map_cons, List.sum_cons, List.length_cons]
    omega
def tC5 (spec : mS) (na : Nat) : mT := fun _ P pc ls st g =>
  na ≤ st.length ∧ ((st.drop na).length ≤ 8 ∧ c1s (st.drop na)) ∧ stbs g ls ∧ stbs g (st.drop na) ∧ spec (st.take na).reverse g (fun v g' => P (pc + 3) ls (v.toList ++ st.drop na) g')
theorem loc_C5 {spec : mS} {na : Nat} (h : DET spec) : LOC (tC5 spec na) := by
  intro Q P pc ls st g ⟨h1, h2, h4, h5, h6⟩
  obtain ⟨v, g', e1, e2, e3, e4⟩ := h _ _ _ h6
  exact Or.inl ⟨_, _, _, _, e1, e2, e3, fun Q' P' hp => ⟨h1, h2, h4, h5, e4 _ hp⟩⟩
theorem snd_CS5 {own : String} {mn : String × Nat} {cc : ByteArray} {nL pc : Nat} {spec : mS} {y : MethodName} {cd : ByteArray} {maxL : Nat} {ret : Option FieldType} {d na index : Nat} (hSM : SM y cd maxL ret d spec) (hw1 : Cond.methodLink own index y ∈ tw) (hw2 : Cond.static y ∈ tw) (hw4 : Cond.initialized y.cls ∈ tw) (hw5 : Cond.code y cd maxL ret ∈ tw)
    (hn : y.cls ≠ "java/lang/invoke/MethodHandle" ∧ y.cls ≠ "java/lang/invoke/VarHandle" ∧ (parseMethodDescriptor y.desc).map (fun d => d.parameters.length) = some na) (hd1 : d + 1 ≤ mn.2) (hd2 : maxL ≤ 21) (hd : decode cc pc = .ok (.invokestatic index, 3)) : SND own cc nL mn (tC5 spec na) pc := by
  intro p l e R s m args below meth c D cA n0 g0 L0 ve ge Z cx hrc hrs Qf ls st g ⟨h1, h2, h4, h5, h6⟩
  obtain ⟨v1, g1, hmp, m1, m2, hsp⟩ := hSM.1 _ _ _ h6
  have hsp := hsp (Qx v1 g1) ⟨rfl, rfl⟩
  refine ⟨⟨Nat.le_trans m1 hmp.1.1, Nat.le_trans m2 hmp.1.2⟩, fun a1 a2 a3 L H locs lsA hH hl hS hK => ?_⟩
  have hM := hSM.2 l D cA n0 g L _ v1 g1 hsp
  have hlen : ((st.take na).reverse.map (rz L)).length = na := by simp; omega
  have hstk : st.map (rz L) = ((st.take na).reverse.map (rz L)).reverse ++ (st.drop na).map (rz L) := by
    conv => lhs; rw [← List.take_append_drop na st]
    simp
  have b1 := hmp.1.1
  have b2 := hmp.1.2
  refine call_go (aa := ((st.take na).reverse.map (rz L)).toArray) hmp ?_ a1 a2 m1 m2 a3 h4 h5 hl hS hK
  rw [hstk]
  have hts := cx.2.2.2.2.1
  have hR1 : d + 1 ≤ R.frames := Nat.le_trans hd1 cx.2.2.2.2.2.2.2.2.2.2.2.2.2.1
  have hR2 : 40 * mn.2 ≤ R.locals := cx.2.2.2.2.2.2.2.2.2.2.2.2.2.2
  have hcat : 2 * 0 + (((st.drop na).map (rz L)).map fun v => v.category).sum ≤ 8 := by
    have := c1s_sum (L := L) _ h2.2
    have := h2.1
    omega
  refine va_runS (Ts := tw) ⟨cx.1, cx.2.1, cx.2.2.1, cx.2.2.2.1, hts⟩ hM (n := na) (index := index) (bytes := cd) (maxL := maxL) (ret := ret) ⟨⟨rfl, rfl, hR1, ?_, nws_good hw5 hts, List.mem_cons_self, hts _ hw5, hts _ hw4, ⟨hn.1, hn.2.1⟩, fun sig hs => ?_, hts _ hw1⟩, hts _ hw2⟩
    ⟨PC_blind, fun U hU hW => PC_of cx hH hS hK (st.take na).reverse U hU hW⟩ rfl hlen hl.1 rfl hcat hd ⟨by omega, by omega⟩
  · show 8 + (maxL + 11) + 40 * d ≤ R.locals
    have : 40 * (d + 1) ≤ 40 * mn.2 := Nat.mul_le_mul_left 40 hd1
    omega
  · have h := hn.2.2
    rw [hs] at h
    exact (Option.some.inj h).symm
theorem E_CS5 {cd : List (Nat × mT)} {Q : mQ} {pc : Nat} {ls st : List Value} {g : mG} {spec : mS} {na : Nat} {ar r : List Value} (hl : locs_ok cd) (hk : lk cd pc = tC5 spec na) (hn : ar.length = na) (hr : ar.reverse = r) : WP cd Q pc ls (ar ++ st) g = ((st.length ≤ 8 ∧ c1s st) ∧ stbs g ls ∧ stbs g st ∧ spec r g (fun v g' => WP cd Q (pc + 3) ls (v.toList ++ st) g')) := by
  rw [WP_eq hl, hk]
  have e1 : (ar ++ st).take na = ar := by rw [← hn, List.take_left']; rfl
  have e2 : (ar ++ st).drop na = st := by rw [← hn, List.drop_left']; rfl
  unfold tC5
  rw [e1, e2, hr]
  exact propext ⟨fun ⟨_, h2, h4, h5, h6⟩ => ⟨h2, h4, h5, h6⟩, fun ⟨h2, h4, h5, h6⟩ => ⟨by simp; omega, h2, h4, h5, h6⟩⟩
theorem c1s_nil : c1s [] = True := rfl
theorem c1s_cons {v : Value} {t : List Value} : c1s (v :: t) = (cat1 v ∧ c1s t) := rfl
