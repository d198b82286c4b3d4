/-! ===== calls and ends ===== -/
section Calls
variable {own : String} {mn : String × Nat} {cc : ByteArray} {nL pc : Nat}
theorem nws_good {y : MethodName} {cd : ByteArray} {maxL : Nat} {ret : Option FieldType} (hc : Cond.code y cd maxL ret ∈ tw) {args : Array Value} {s : State} (hts : ∀ w ∈ tw, w.before args s = true) : ∀ w ∈ nws y cd maxL ret, ∀ (a' : Array Value) (U : State), s.WarmedH U.vm → w.before a' U = true :=
  pay_in hts fun w hw => by
    have h : w ∈ tw := by
      rcases List.mem_cons.mp hw with e | e
      · rw [e]; exact hc
      · exact e
    exact ⟨h, good_of_word (List.mem_filter.mp h).2⟩
theorem call_go {p : Program} {l : Launch} {e : Env} {R : Room} {s : State} {m : MethodId} {args : Array Value} {below : List Frame} {meth : Method} {c : Code} {D : va_G} {cA : Nat → ClassId} {n0 : Nat} {g0 g g1 ge : mG} {L0 L : Nat → Nat} {Z : State → Prop} {H : Heap} {locs : List Loc} {lsA : Array Slot} {stR : List Value} {ls rest : List Value} {v1 : Option Value} {aa : Array Value}
    (hmp : MP p l e R s m args below meth c D cA n0 g0 L0 nL ge Z (pc + 3) ls (v1.toList ++ rest) g1)
    (hrun : va_Run p l e R s m args below meth c H locs (gC g - gC g0) (gS g - gS g0) (gC g1 - gC g) (gS g1 - gS g) (F0 m pc lsA stR) (rest.map (rz L)) (QC D cA n0 g L v1 g1 aa) (fun q => n0 ≤ q))
    (a1 : gC g0 ≤ gC g) (a2 : gS g0 ≤ gS g) (m1 : gC g ≤ gC g1) (m2 : gS g ≤ gS g1) (a3 : ls.length = nL) (hls : stbs g ls) (hr : stbs g rest) (hl : LH lsA nL L ls) (hS : va_S (fun q => n0 ≤ q) s.heap H locs) (hK : Kp g0 L0 g L) :
    W p l e R s m args below meth c H locs (gC g - gC g0) (gS g - gS g0) Z (F0 m pc lsA stR) := by
  intro T hT X
  obtain ⟨v, st₀, t, T', Lx, h0, X', hL, e1, e2, ⟨L', hv, hHR, hKp, hF⟩, goes⟩ := hrun T hT X
  have hv : v = v1.map (rz L') := Outcome.returned.inj hv
  have hLs : ∀ a, ok1 g a → L' a = L a := fun a h => (hKp.1 a h).2
  have k1 : (gC g - gC g0) + (gC g1 - gC g) = gC g1 - gC g0 := by omega
  have k2 : (gS g - gS g0) + (gS g1 - gS g) = gS g1 - gS g0 := by omega
  rw [k1, k2] at X'
  have hS' : va_S (fun q => n0 ≤ q) s.heap T'.heap (locs ++ Lx) := by
    obtain ⟨f1, f2⟩ := hF
    rw [h0] at f1 f2
    refine ⟨by rw [e1]; exact Nat.le_trans hS.1 f1, fun q q1 q2 => ?_, fun q hq => ?_⟩
    · rw [e1, f2 q (Nat.lt_of_lt_of_le q1 hS.1) q2]
      exact hS.2.1 q q1 q2
    · rcases List.mem_append.mp hq with h | h
      · exact hS.2.2 q h
      · exact hL q h
  obtain ⟨t2, b1, b2⟩ := hmp.2 (Nat.le_trans a1 m1) (Nat.le_trans a2 m2) a3 L' T'.heap (locs ++ Lx) lsA (by rw [e1]; exact hHR) (hl.moved hls hLs) hS' (hK.tr hKp) T' rfl X'
  refine ⟨t2, goes t2 ?_, b2⟩
  have e3 : v.toList ++ rest.map (rz L) = (v1.toList ++ rest).map (rz L') := by
    rw [List.map_append, map_moved hr hLs, hv]
    cases v1 <;> rfl
  rw [e3]
  exact b1
theorem PC_of {p : Program} {l : Launch} {e : Env} {R : Room} {s : State} {m : MethodId} {args : Array Value} {below : List Frame} {meth : Method} {c : Code} {D : va_G} {cA : Nat → ClassId} {n0 : Nat} {g0 g : mG} {L0 L : Nat → Nat} {H : Heap} {locs : List Loc} (cx : CX p l e R s m args below meth c D cA n0 g0 L0 own cc nL mn) (hH : HR D cA n0 g L H) (hS : va_S (fun q => n0 ≤ q) s.heap H locs) (hK : Kp g0 L0 g L) (al : List Value) (U : State) (hU : U.heap = H) (hW : s.WarmedH U.vm) : PC D cA n0 g L al (al.map (rz L)).toArray U := by
  refine ⟨rfl, by rw [hU]; exact hH, cx.2.2.2.2.2.2.1.warm hW, ?_, ?_, ?_⟩
  · rw [hU]
    exact RO.warm hW (cx.2.2.2.2.2.2.2.1.next hK (fun q hq => hS.2.1 q (Nat.lt_of_lt_of_le hq cx.2.2.2.2.2.2.2.2.2.1) (Nat.not_le.mpr hq)))
  · rw [hU]
    have z : ∀ x, gK g x = 10 → L x = L0 x := fun x hx => (hK.1 x ⟨by rw [(hK.2 x hx).1]; decide, by rw [(hK.2 x hx).1]; decide⟩).2
    obtain ⟨k3, k4, k5⟩ := hH.2.2.2.1
    exact ST.warm hW (cx.2.2.2.2.2.2.2.2.1.next ⟨z 3 k3, z 4 k4, z 5 k5⟩ hS.2.1)
  · rw [hU]; exact Nat.le_trans cx.2.2.2.2.2.2.2.2.2.1 hS.1
theorem st_split {st : List Value} {na b : Nat} {r : List Value} (hr : (st.take na).reverse = .ref b :: r) : st = r.reverse ++ .ref b :: st.drop na := by
  have h : st.take na = (Value.ref b :: r).reverse := by rw [← hr, List.reverse_reverse]
  conv => lhs; rw [← List.take_append_drop na st, h]
  simp
theorem cat8 {L : Nat → Nat} {rest : List Value} (h : rest.length ≤ 4) : 2 * 0 + ((rest.map (rz L)).map fun v => v.category).sum ≤ 8 := by
  have := cat_len (L := L) rest
  omega
theorem snd_CV {spec : mS} {y : MethodName} {cd : ByteArray} {maxL : Nat} {ret : Option FieldType} {d kd na index : Nat} (hSM : SM y cd maxL ret d spec) (hkd : 1 ≤ kd ∧ kd ≤ 8) (hcls : xR kd = y.cls) (hw1 : Cond.methodLink own index y ∈ tw) (hw2 : Cond.instanceMethod y ∈ tw) (hw3 : Cond.selects y.cls y y ∈ lw_tbl) (hg3 : goodWord (Cond.selects y.cls y y) = true) (hw4 : Cond.initialized y.cls ∈ tw) (hw5 : Cond.code y cd maxL ret ∈ tw)
    (hn : y.cls ≠ "java/lang/invoke/MethodHandle" ∧ y.cls ≠ "java/lang/invoke/VarHandle" ∧ (parseMethodDescriptor y.desc).map (fun d => d.parameters.length) = some na) (hd1 : d + 1 ≤ mn.2) (hd2 : maxL ≤ 21) (hd : decode cc pc = .ok (.invokevirtual index, 3)) : SND own cc nL mn (tC spec kd (na + 1)) pc := by
  intro p l e R s m args below meth c D cA n0 g0 L0 ve ge Z cx hrc hrs Qf ls st g ⟨h1, h2, h3, h4, h5, h6⟩
  obtain ⟨v1, g1, hmp, m1, m2, hsp⟩ := hSM.1 _ _ _ h6
  have hsp := hsp (Qx v1 g1) ⟨rfl, rfl⟩
  refine ⟨⟨Nat.le_trans m1 hmp.1.1, Nat.le_trans m2 hmp.1.2⟩, fun a1 a2 a3 L H locs lsA hH hl hS hK => ?_⟩
  rcases h3 with h3 | ⟨b, r, hr, hkb⟩
  · omega
  have hM := hSM.2 l D cA n0 g L _ v1 g1 hsp
  rw [hr] at hM
  have hlen : r.length = na := by
    have := congrArg List.length hr
    simp at this
    omega
  have hstk : st.map (rz L) = (r.map (rz L)).reverse ++ .ref (L b) :: (st.drop (na + 1)).map (rz L) := by
    conv => lhs; rw [st_split hr]
    simp [rz]
  have hob := (hH.1 b).1 (by rw [hkb]; exact hkd)
  rw [hkb] at hob
  obtain ⟨cell, q1, q2, q3, -⟩ := hob
  have hcl := (cx.2.2.2.2.2.2.1.1.1 (kd - 1) _ (mcl_at hkd)).2.1
  have b1 := hmp.1.1
  have b2 := hmp.1.2
  refine call_go (aa := (Value.ref (L b) :: r.map (rz L)).toArray) hmp ?_ a1 a2 m1 m2 a3 h4 h5 hl hS hK
  rw [hstk]
  have hts := cx.2.2.2.2.1
  have hR1 : d + 1 ≤ R.frames := Nat.le_trans hd1 cx.2.2.2.2.2.2.2.2.2.2.2.2.2.1
  have hR2 : 40 * mn.2 ≤ R.locals := cx.2.2.2.2.2.2.2.2.2.2.2.2.2.2
  refine va_runV (Ts := tw) ⟨cx.1, cx.2.1, cx.2.2.1, cx.2.2.2.1, hts⟩ hM (n := na) (index := index) (C := y.cls) (bytes := cd) (maxL := maxL) (ret := ret) ⟨⟨rfl, rfl, hR1, ?_, nws_good hw5 hts, List.mem_cons_self, hts _ hw5, hts _ hw4, ⟨hn.1, hn.2.1⟩, fun sig hs => ?_, hts _ hw1⟩, hts _ hw2, hts _ (List.mem_filter.mpr ⟨hw3, hg3⟩)⟩
    ⟨PC_blind, ⟨cell, q1, by rw [q3]; rfl, by rw [q2, ← hcls]; exact hcl⟩, fun U hU hW => PC_of cx hH hS hK (.ref b :: r) U hU hW⟩ rfl (by simp [hlen]) hl.1 rfl (cat8 h2) hd ⟨by omega, by omega⟩
  · show 8 + (maxL + 11) + 40 * d ≤ R.locals
    have : 40 * (d + 1) ≤ 40 * mn.2 := Nat.mul_le_mul_left 40 hd1
    omega
  · have h := hn.2.2
    rw [hs] at h
    exact (Option.some.inj h).symm
theorem snd_CS {spec : mS} {y : MethodName} {cd : ByteArray} {maxL : Nat} {ret : Option FieldType} {d na index : Nat} (hSM : SM y cd maxL ret d spec) (hw1 : Cond.methodLink own index y ∈ tw) (hw2 : Cond.static y ∈ tw) (hw4 : Cond.initialized y.cls ∈ tw) (hw5 : Cond.code y cd maxL ret ∈ tw)
    (hn : y.cls ≠ "java/lang/invoke/MethodHandle" ∧ y.cls ≠ "java/lang/invoke/VarHandle" ∧ (parseMethodDescriptor y.desc).map (fun d => d.parameters.length) = some na) (hd1 : d + 1 ≤ mn.2) (hd2 : maxL ≤ 21) (hd : decode cc pc = .ok (.invokestatic index, 3)) : SND own cc nL mn (tC spec 0 na) pc := by
  intro p l e R s m args below meth c D cA n0 g0 L0 ve ge Z cx hrc hrs Qf ls st g ⟨h1, h2, h3, h4, h5, h6⟩
  obtain ⟨v1, g1, hmp, m1, m2, hsp⟩ := hSM.1 _ _ _ h6
  have hsp := hsp (Qx v1 g1) ⟨rfl, rfl⟩
  refine ⟨⟨Nat.le_trans m1 hmp.1.1, Nat.le_trans m2 hmp.1.2⟩, fun a1 a2 a3 L H locs lsA hH hl hS hK => ?_⟩
  have hM := hSM.2 l D cA n0 g L _ v1 g1 hsp
  have hlen : ((st.take na).reverse.map (rz L)).length = na := by simp; omega
  have hstk : st.map (rz L) = ((st.take na).reverse.map (rz L)).reverse ++ (st.drop na).map (rz L) := by
    conv => lhs; rw [← List.take_append_drop na st]
    simp
  have b1 := hmp.1.1
  have b2 := hmp.1.2
  refine call_go (aa := ((st.take na).reverse.map (rz L)).toArray) hmp ?_ a1 a2 m1 m2 a3 h4 h5 hl hS hK
  rw [hstk]
  have hts := cx.2.2.2.2.1
  have hR1 : d + 1 ≤ R.frames := Nat.le_trans hd1 cx.2.2.2.2.2.2.2.2.2.2.2.2.2.1
  have hR2 : 40 * mn.2 ≤ R.locals := cx.2.2.2.2.2.2.2.2.2.2.2.2.2.2
  refine va_runS (Ts := tw) ⟨cx.1, cx.2.1, cx.2.2.1, cx.2.2.2.1, hts⟩ hM (n := na) (index := index) (bytes := cd) (maxL := maxL) (ret := ret) ⟨⟨rfl, rfl, hR1, ?_, nws_good hw5 hts, List.mem_cons_self, hts _ hw5, hts _ hw4, ⟨hn.1, hn.2.1⟩, fun sig hs => ?_, hts _ hw1⟩, hts _ hw2⟩
    ⟨PC_blind, fun U hU hW => PC_of cx hH hS hK (st.take na).reverse U hU hW⟩ rfl hlen hl.1 rfl (cat8 h2) hd ⟨by omega, by omega⟩
  · show 8 + (maxL + 11) + 40 * d ≤ R.locals
    have : 40 * (d + 1) ≤ 40 * mn.2 := Nat.mul_le_mul_left 40 hd1
    omega
  · have h := hn.2.2
    rw [hs] at h
    exact (Option.some.inj h).symm
theorem snd_CSN {spec : mS} {y : MethodName} {cd : ByteArray} {maxL : Nat} {ret : Option FieldType} {d na index : Nat} {host : String} (hSM : SM y cd maxL ret d spec) (hw1 : Cond.methodLinkNest own index y host ∈ nestW) (hw2 : Cond.static y ∈ tw) (hw4 : Cond.initialized y.cls ∈ tw) (hw5 : Cond.code y cd maxL ret ∈ tw)
    (hn : y.cls ≠ "java/lang/invoke/MethodHandle" ∧ y.cls ≠ "java/lang/invoke/VarHandle" ∧ (parseMethodDescriptor y.desc).map (fun d => d.parameters.length) = some na) (hd1 : d + 1 ≤ mn.2) (hd2 : maxL ≤ 21) (hd : decode cc pc = .ok (.invokestatic index, 3)) : SND own cc nL mn (tC spec 0 na) pc := by
  intro p l e R s m args below meth c D cA n0 g0 L0 ve ge Z cx hrc hrs Qf ls st g ⟨h1, h2, h3, h4, h5, h6⟩
  obtain ⟨v1, g1, hmp, m1, m2, hsp⟩ := hSM.1 _ _ _ h6
  have hsp := hsp (Qx v1 g1) ⟨rfl, rfl⟩
  refine ⟨⟨Nat.le_trans m1 hmp.1.1, Nat.le_trans m2 hmp.1.2⟩, fun a1 a2 a3 L H locs lsA hH hl hS hK => ?_⟩
  have hM := hSM.2 l D cA n0 g L _ v1 g1 hsp
  have hlen : ((st.take na).reverse.map (rz L)).length = na := by simp; omega
  have hstk : st.map (rz L) = ((st.take na).reverse.map (rz L)).reverse ++ (st.drop na).map (rz L) := by
    conv => lhs; rw [← List.take_append_drop na st]
    simp
  have b1 := hmp.1.1
  have b2 := hmp.1.2
  refine call_go (aa := ((st.take na).reverse.map (rz L)).toArray) hmp ?_ a1 a2 m1 m2 a3 h4 h5 hl hS hK
  rw [hstk]
  have hts := cx.2.2.2.2.1
  have hR1 : d + 1 ≤ R.frames := Nat.le_trans hd1 cx.2.2.2.2.2.2.2.2.2.2.2.2.2.1
  have hR2 : 40 * mn.2 ≤ R.locals := cx.2.2.2.2.2.2.2.2.2.2.2.2.2.2
  refine va_runSN (Ts := tw) ⟨cx.1, cx.2.1, cx.2.2.1, cx.2.2.2.1, hts⟩ hM (n := na) (index := index) (host := host) (bytes := cd) (maxL := maxL) (ret := ret) ⟨⟨⟨rfl, rfl, hR1, ?_, nws_good hw5 hts, List.mem_cons_self⟩, hts _ hw5, hts _ hw4, ⟨hn.1, hn.2.1⟩, fun sig hs => ?_, va_Nw.use rfl (cx.2.2.2.2.2.2.1.2 _ hw1)⟩, hts _ hw2, trivial⟩
    ⟨PC_blind, fun U hU hW => PC_of cx hH hS hK (st.take na).reverse U hU hW⟩ rfl hlen hl.1 rfl (cat8 h2) hd ⟨by omega, by omega⟩
  · show 8 + (maxL + 11) + 40 * d ≤ R.locals
    have : 40 * (d + 1) ≤ 40 * mn.2 := Nat.mul_le_mul_left 40 hd1
    omega
  · have h := hn.2.2
    rw [hs] at h
    exact (Option.some.inj h).symm
theorem snd_CI {spec : mS} {y : MethodName} {cd : ByteArray} {maxL : Nat} {d kd na index : Nat} (hSM : SM y cd maxL none d spec) (hkd : 1 ≤ kd) (hy1 : y.name = "<init>") (hw1 : Cond.methodLink own index y ∈ tw) (hw2 : Cond.instanceMethod y ∈ tw) (hw4 : Cond.initialized y.cls ∈ tw) (hw5 : Cond.code y cd maxL none ∈ tw)
    (hn : y.cls ≠ "java/lang/invoke/MethodHandle" ∧ y.cls ≠ "java/lang/invoke/VarHandle" ∧ (parseMethodDescriptor y.desc).map (fun d => d.parameters.length) = some na) (hd1 : d + 1 ≤ mn.2) (hd2 : maxL ≤ 21) (hd : decode cc pc = .ok (.invokespecial index, 3)) : SND own cc nL mn (tC spec kd (na + 1)) pc := by
  intro p l e R s m args below meth c D cA n0 g0 L0 ve ge Z cx hrc hrs Qf ls st g ⟨h1, h2, h3, h4, h5, h6⟩
  obtain ⟨v1, g1, hmp, m1, m2, hsp⟩ := hSM.1 _ _ _ h6
  have hsp := hsp (Qx v1 g1) ⟨rfl, rfl⟩
  refine ⟨⟨Nat.le_trans m1 hmp.1.1, Nat.le_trans m2 hmp.1.2⟩, fun a1 a2 a3 L H locs lsA hH hl hS hK => ?_⟩
  rcases h3 with h3 | ⟨b, r, hr, hkb⟩
  · omega
  have hM := hSM.2 l D cA n0 g L _ v1 g1 hsp
  rw [hr] at hM
  have hlen : r.length = na := by
    have := congrArg List.length hr
    simp at this
    omega
  have hstk : st.map (rz L) = (r.map (rz L)).reverse ++ .ref (L b) :: (st.drop (na + 1)).map (rz L) := by
    conv => lhs; rw [st_split hr]
    simp [rz]
  have b1 := hmp.1.1
  have b2 := hmp.1.2
  refine call_go (aa := (Value.ref (L b) :: r.map (rz L)).toArray) hmp ?_ a1 a2 m1 m2 a3 h4 h5 hl hS hK
  rw [hstk]
  have hts := cx.2.2.2.2.1
  have hR1 : d + 1 ≤ R.frames := Nat.le_trans hd1 cx.2.2.2.2.2.2.2.2.2.2.2.2.2.1
  have hR2 : 40 * mn.2 ≤ R.locals := cx.2.2.2.2.2.2.2.2.2.2.2.2.2.2
  refine va_runI (Ts := tw) ⟨cx.1, cx.2.1, cx.2.2.1, cx.2.2.2.1, hts⟩ hM (n := na) (index := index) (bytes := cd) (maxL := maxL) ⟨⟨rfl, rfl, hR1, ?_, nws_good hw5 hts, List.mem_cons_self, hts _ hw5, hts _ hw4, ⟨hn.1, hn.2.1⟩, fun sig hs => ?_, hts _ hw1⟩, hy1, hts _ hw2⟩
    ⟨PC_blind, fun U hU hW => PC_of cx hH hS hK (.ref b :: r) U hU hW⟩ rfl (by simp [hlen]) hl.1 rfl (cat8 h2) hd ⟨by omega, by omega⟩
  · show 8 + (maxL + 11) + 40 * d ≤ R.locals
    have : 40 * (d + 1) ≤ 40 * mn.2 := Nat.mul_le_mul_left 40 hd1
    omega
  · have h := hn.2.2
    rw [hs] at h
    exact (Option.some.inj h).symm
theorem snd_CIN {spec : mS} {y : MethodName} {cd : ByteArray} {maxL : Nat} {d kd na index : Nat} {host : String} (hSM : SM y cd maxL none d spec) (hkd : 1 ≤ kd) (hy1 : y.name = "<init>") (hw1 : Cond.methodLinkNest own index y host ∈ nestW) (hw2 : Cond.instanceMethod y ∈ tw) (hw4 : Cond.initialized y.cls ∈ tw) (hw5 : Cond.code y cd maxL none ∈ tw)
    (hn : y.cls ≠ "java/lang/invoke/MethodHandle" ∧ y.cls ≠ "java/lang/invoke/VarHandle" ∧ (parseMethodDescriptor y.desc).map (fun d => d.parameters.length) = some na) (hd1 : d + 1 ≤ mn.2) (hd2 : maxL ≤ 21) (hd : decode cc pc = .ok (.invokespecial index, 3)) : SND own cc nL mn (tC spec kd (na + 1)) pc := by
  intro p l e R s m args below meth c D cA n0 g0 L0 ve ge Z cx hrc hrs Qf ls st g ⟨h1, h2, h3, h4, h5, h6⟩
  obtain ⟨v1, g1, hmp, m1, m2, hsp⟩ := hSM.1 _ _ _ h6
  have hsp := hsp (Qx v1 g1) ⟨rfl, rfl⟩
  refine ⟨⟨Nat.le_trans m1 hmp.1.1, Nat.le_trans m2 hmp.1.2⟩, fun a1 a2 a3 L H locs lsA hH hl hS hK => ?_⟩
  rcases h3 with h3 | ⟨b, r, hr, hkb⟩
  · omega
  have hM := hSM.2 l D cA n0 g L _ v1 g1 hsp
  rw [hr] at hM
  have hlen : r.length = na := by
    have := congrArg List.length hr
    simp at this
    omega
  have hstk : st.map (rz L) = (r.map (rz L)).reverse ++ .ref (L b) :: (st.drop (na + 1)).map (rz L) := by
    conv => lhs; rw [st_split hr]
    simp [rz]
  have b1 := hmp.1.1
  have b2 := hmp.1.2
  refine call_go (aa := (Value.ref (L b) :: r.map (rz L)).toArray) hmp ?_ a1 a2 m1 m2 a3 h4 h5 hl hS hK
  rw [hstk]
  have hts := cx.2.2.2.2.1
  have hR1 : d + 1 ≤ R.frames := Nat.le_trans hd1 cx.2.2.2.2.2.2.2.2.2.2.2.2.2.1
  have hR2 : 40 * mn.2 ≤ R.locals := cx.2.2.2.2.2.2.2.2.2.2.2.2.2.2
  refine va_runIN (Ts := tw) ⟨cx.1, cx.2.1, cx.2.2.1, cx.2.2.2.1, hts⟩ hM (n := na) (index := index) (host := host) (bytes := cd) (maxL := maxL) ⟨⟨⟨rfl, rfl, hR1, ?_, nws_good hw5 hts, List.mem_cons_self⟩, hts _ hw5, hts _ hw4, ⟨hn.1, hn.2.1⟩, fun sig hs => ?_, va_Nw.use rfl (cx.2.2.2.2.2.2.1.2 _ hw1)⟩, hy1, hts _ hw2⟩
    ⟨PC_blind, fun U hU hW => PC_of cx hH hS hK (.ref b :: r) U hU hW⟩ rfl (by simp [hlen]) hl.1 rfl (cat8 h2) hd ⟨by omega, by omega⟩
  · show 8 + (maxL + 11) + 40 * d ≤ R.locals
    have : 40 * (d + 1) ≤ 40 * mn.2 := Nat.mul_le_mul_left 40 hd1
    omega
  · have h := hn.2.2
    rw [hs] at h
    exact (Option.some.inj h).symm
end Calls
