/-! ===== ends, and a whole method ===== -/
def SNDr (own : String) (cc : ByteArray) (nL : Nat) (mn : String × Nat) (ret : Option FieldType) (t : mT) (pc : Nat) : Prop :=
  ∀ (p : Program) (l : Launch) (e : Env) (R : Room) (s : State) (m : MethodId) (args : Array Value) (below : List Frame) (meth : Method) (c : Code) (D : va_G) (cA : Nat → ClassId) (n0 : Nat) (g0 : mG) (L0 : Nat → Nat) (ve : Option Value) (ge : mG),
    CX p l e R s m args below meth c D cA n0 g0 L0 own cc nL mn → meth.sig.returnType = ret → gC ge - gC g0 ≤ R.cells → gS ge - gS g0 ≤ R.slots →
    ∀ (ls st : List Value) (g : mG), t (Qx ve ge) (MP p l e R s m args below meth c D cA n0 g0 L0 nL ge (MQ below (QC D cA n0 g0 L0 ve ge) args s (gC ge - gC g0) (gS ge - gS g0) (fun q => n0 ≤ q))) pc ls st g →
      MP p l e R s m args below meth c D cA n0 g0 L0 nL ge (MQ below (QC D cA n0 g0 L0 ve ge) args s (gC ge - gC g0) (gS ge - gS g0) (fun q => n0 ≤ q)) pc ls st g
section Ends
variable {own : String} {mn : String × Nat} {cc : ByteArray} {nL pc : Nat}
theorem SND.r {ret : Option FieldType} {t : mT} (h : SND own cc nL mn t pc) : SNDr own cc nL mn ret t pc := fun p l e R s m args below meth c D cA n0 g0 L0 ve ge cx _ hrc hrs ls st g ht => h p l e R s m args below meth c D cA n0 g0 L0 ve ge _ cx hrc hrs _ ls st g ht
theorem STP.r {ret : Option FieldType} {f : mF} (hm : mono f) (h : STP own cc nL mn f pc) : SNDr own cc nL mn ret (tD f) pc := (snd_D hm h).r
theorem STE.r {ret : Option FieldType} {f : Nat → mF} (hm : ∀ a, mono (f a)) (h : ∀ a, STP own cc nL mn (f a) pc) : SNDr own cc nL mn ret (tE f) pc := (snd_E hm h).r
theorem r_bad {ret : Option FieldType} : SNDr own cc nL mn ret tBad pc := fun _ _ _ _ _ _ _ _ _ _ _ _ _ _ _ _ _ _ _ _ _ _ _ _ h => h.elim
theorem QC_of {D : va_G} {cA : Nat → ClassId} {n0 : Nat} {g0 ge : mG} {L0 L : Nat → Nat} {v : Option Value} {args : Array Value} {s : State} {H : Heap} {locs : List Loc} (hH : HR D cA n0 ge L H) (hS : va_S (fun q => n0 ≤ q) s.heap H locs) (hK : Kp g0 L0 ge L) (t : State) (ht : t.heap = H) : QC D cA n0 g0 L0 v ge args s (.returned (v.map (rz L))) t :=
  ⟨L, rfl, by rw [ht]; exact hH, hK, hS.F ht⟩
theorem r_ret (hd : decode cc pc = .ok (.return_, 1)) : SNDr own cc nL mn none (tR f_ret) pc := by
  intro p l e R s m args below meth c D cA n0 g0 L0 ve ge cx hr hrc hrs ls st g ht
  match st, ht with
  | [], ht =>
    obtain ⟨-, rfl, rfl⟩ := ht
    exact ⟨⟨Nat.le_refl _, Nat.le_refl _⟩, fun a1 a2 a3 L H locs lsA hH hl hS hK => W.vret cx.1 cx.2.1 hr (fun t ht _ => QC_of (v := none) hH hS hK t ht) hS.2.2 hd cx.2.2.2.2.2.1⟩
theorem r_iret (hd : decode cc pc = .ok (.ireturn, 1)) : SNDr own cc nL mn (some .int) (tR f_iret) pc := by
  intro p l e R s m args below meth c D cA n0 g0 L0 ve ge cx hr hrc hrs ls st g ht
  match st, ht with
  | [.int v], ht =>
    obtain ⟨-, rfl, rfl⟩ := ht
    exact ⟨⟨Nat.le_refl _, Nat.le_refl _⟩, fun a1 a2 a3 L H locs lsA hH hl hS hK => W.iret cx.1 cx.2.1 hr (fun t ht _ => QC_of (v := some (.int v)) hH hS hK t ht) hS.2.2 hd cx.2.2.2.2.2.1⟩
theorem r_zret (hd : decode cc pc = .ok (.ireturn, 1)) : SNDr own cc nL mn (some .boolean) (tR f_zret) pc := by
  intro p l e R s m args below meth c D cA n0 g0 L0 ve ge cx hr hrc hrs ls st g ht
  match st, ht with
  | [.int v], ht =>
    obtain ⟨hv, rfl, rfl⟩ := ht
    have hn : narrow .boolean (.int v) = .int v := by
      rcases hv with e | e
      · rw [e]; decide +kernel
      · rw [e]; decide +kernel
    exact ⟨⟨Nat.le_refl _, Nat.le_refl _⟩, fun a1 a2 a3 L H locs lsA hH hl hS hK => W.zret cx.1 cx.2.1 hr hn (fun t ht _ => QC_of (v := some (.int v)) hH hS hK t ht) hS.2.2 hd cx.2.2.2.2.2.1⟩
theorem r_aret {rt : FieldType} (hrt : (∃ n, rt = .object n) ∨ ∃ t, rt = .array t) (hd : decode cc pc = .ok (.areturn, 1)) : SNDr own cc nL mn (some rt) (tR f_aret) pc := by
  intro p l e R s m args below meth c D cA n0 g0 L0 ve ge cx hr hrc hrs ls st g ht
  match st, ht with
  | [.ref v], ht =>
    obtain ⟨-, rfl, rfl⟩ := ht
    exact ⟨⟨Nat.le_refl _, Nat.le_refl _⟩, fun a1 a2 a3 L H locs lsA hH hl hS hK => W.aret cx.1 cx.2.1 hr hrt (Or.inr ⟨L v, rfl⟩) (fun t ht _ => QC_of (v := some (.ref v)) hH hS hK t ht) hS.2.2 hd cx.2.2.2.2.2.1⟩
  | [.null], ht =>
    obtain ⟨-, rfl, rfl⟩ := ht
    exact ⟨⟨Nat.le_refl _, Nat.le_refl _⟩, fun a1 a2 a3 L H locs lsA hH hl hS hK => W.aret cx.1 cx.2.1 hr hrt (Or.inl rfl) (fun t ht _ => QC_of (v := some .null) hH hS hK t ht) hS.2.2 hd cx.2.2.2.2.2.1⟩
end Ends
/-! a method's predicate: its arguments and their sorts, its code from 0 -/
def argok : Value → Prop
  | .int _ => True
  | .ref _ => True
  | .null => True
  | _ => False
def argsok : List Value → Prop
  | [] => True
  | v :: t => argok v ∧ argsok t
def wm (cd : List (Nat × mT)) (na n : Nat) : mS := fun args g Q => (args.length = na ∧ argsok args) ∧ WP cd Q 0 (args ++ List.replicate n (.retAddr 0)) [] g
theorem wm_det {cd : List (Nat × mT)} {na n : Nat} (hl : locs_ok cd) : DET (wm cd na n) := by
  intro args g Q ⟨h1, h2⟩
  obtain ⟨v, g', a, b, c, d⟩ := WP_det hl h2
  exact ⟨v, g', a, b, c, fun Q' hq => ⟨h1, d Q' hq⟩⟩
theorem lvs_entry {L : Nat → Nat} : ∀ (vs : List Value) (i n : Nat), argsok vs → lvs L i (vs ++ List.replicate n (.retAddr 0)) = lv_args i (vs.map (rz L)) ∧ (lg_sl (vs.map (rz L))).length = vs.length
  | [], i, n, _ => by
    refine ⟨?_, rfl⟩
    simp only [List.nil_append, List.map_nil, lv_args]
    induction n generalizing i with
    | zero => rfl
    | succ n ih => simp only [List.replicate_succ, lvs]; exact ih (i + 1)
  | v :: t, i, n, h => by
    obtain ⟨h1, h2⟩ := lvs_entry (L := L) t (i + 1) n h.2
    have hv := h.1
    constructor
    · rw [List.map_cons, lv_args, List.cons_append]
      cases v <;> simp_all [argok, lvs, rz, Value.category]
    · have e : lg_sl ((v :: t).map (rz L)) = [.val (rz L v)] ++ lg_sl (t.map (rz L)) := by
        cases v <;> simp_all [argok, lg_sl, rz, Value.category]
      rw [e, List.length_append, h2]
      simp
      omega
theorem SM_of {y : MethodName} {cd : ByteArray} {maxL : Nat} {ret : Option FieldType} {d : Nat} {code : List (Nat × mT)} {na n : Nat} (hy : plainName y.cls = true) (hnn : na + n = maxL) (hd : 1 ≤ d) (hl : locs_ok code) (hs : ∀ q ∈ code, SNDr y.cls cd maxL (y.name, d) ret q.2 q.1) : SM y cd maxL ret d (wm code na n) := by
  refine ⟨wm_det hl, fun l D cA n0 g L av v g1 ⟨⟨hlen, hok⟩, hw⟩ => ?_⟩
  refine Met.ofW (cc := cd) (maxL := maxL) (ret := ret) (ws' := tw) hy rfl ?_
  intro p e s m args below meth c s₁ B hml hv
  obtain ⟨rfl, hH, hKF, hRO, hST, hn0⟩ := hv
  have hts := atoms_spec (ws := nws y cd maxL ret) B.pre
  have cx : CX p l e (headSpec (nws y cd maxL ret) (rmd d (gC g1 - gC g) (gS g1 - gS g))).room s m (av.map (rz L)).toArray below meth c D cA n0 g L y.cls cd maxL (y.name, d) :=
    ⟨B.exec, B.bytes, hml, findClass_of_methodNamed B.named, fun w hw => hts w (List.mem_cons_of_mem _ hw), B.notSynchronized, hKF, hRO, hST, hn0, hd, (by show 40 ≤ 40 * d; omega), (name_of_methodNamed B.named B.method).1, Nat.le_refl d, Nat.le_refl (40 * d)⟩
  have hmp := hw (MP p l e (headSpec (nws y cd maxL ret) (rmd d (gC g1 - gC g) (gS g1 - gS g))).room s m (av.map (rz L)).toArray below meth c D cA n0 g L maxL g1 (MQ below (QC D cA n0 g L v g1) (av.map (rz L)).toArray s (gC g1 - gC g) (gS g1 - gS g) (fun q => n0 ≤ q)))
    (fun pc ls st g' ht => lk_all (p := fun pc t => SNDr y.cls cd maxL (y.name, d) ret t pc) (fun _ => r_bad) code hs pc p l e _ s m _ below meth c D cA n0 g L v g1 cx B.returns (Nat.le_refl _) (Nat.le_refl _) ls st g' ht)
  obtain ⟨e1, e2⟩ := lvs_entry (L := L) av 0 n hok
  have hle : (lg_sl (av.map (rz L))).length ≤ maxL := by omega
  have hlv := lv_entry (av.map (rz L)) hle
  have hLH : LH ((lg_sl (av.map (rz L)) ++ List.replicate (maxL - (lg_sl (av.map (rz L))).length) Slot.unset).toArray) maxL L (av ++ List.replicate n (.retAddr 0)) := by
    unfold LH
    rw [e1]
    exact hlv
  have hk := hmp.2 (Nat.le_refl _) (Nat.le_refl _) (by simp; omega) L s.heap [] _ hH hLH va_S.rf Kp.rf
  rw [lg_entry_eq]
  rw [Nat.sub_self, Nat.sub_self] at hk
  exact hk
