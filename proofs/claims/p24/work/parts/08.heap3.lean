/-! ===== arrays of references, lengths, makings, copies ===== -/
section H3
variable {own : String} {mn : String × Nat} {cc : ByteArray} {nL pc : Nat}
/-- the class of the elements of an array of kind kd -/
def ekd (kd : Nat) : Nat := match kd with
  | 14 => 1 | 15 => 3 | 16 => 2 | _ => 6
theorem kd17 {P : Nat → Prop} (h1 : P 14) (h2 : P 15) (h3 : P 16) (h4 : P 17) {kd : Nat} (h : 14 ≤ kd ∧ kd ≤ 17) : P kd := by
  have h' : kd = 14 ∨ kd = 15 ∨ kd = 16 ∨ kd = 17 := by omega
  rcases h' with rfl | rfl | rfl | rfl
  · exact h1
  · exact h2
  · exact h3
  · exact h4
theorem arrQ {D : va_G} {cA : Nat → ClassId} {U : State} (h : KF D cA U) {kd : Nat} (hkd : 14 ≤ kd ∧ kd ≤ 17) : ArrOfT U (cA (kd - 12)) (.object (xR (ekd kd))) ∧ va_RA U (cA (kd - 12)) (.object (xR (ekd kd))) :=
  kd17 (P := fun kd => ArrOfT U (cA (kd - 12)) (.object (xR (ekd kd))) ∧ va_RA U (cA (kd - 12)) (.object (xR (ekd kd)))) (h.1.2 2 _ rfl) (h.1.2 3 _ rfl) (h.1.2 4 _ rfl) (h.1.2 5 _ rfl) hkd
theorem q_alen (hd : decode cc pc = .ok (.arraylength, 1)) : STP own cc nL mn f_alen pc := by
  intro p l e R s m args below meth c D cA n0 g0 L0 ge Z cx _ _ ls st g n hf hn h1 h2 h3 h4 h5 L H locs lsA hH hl hS hK K
  unfold f_alen at hf
  split at hf
  next a r =>
    cases hf
    have hn : 10 ≤ gK g a ∧ gK g a ≤ 17 := hn
    have hk := cx.2.2.2.2.2.2.1
    by_cases c1 : gK g a = 10
    · obtain ⟨cell, q1, q2, q3, q4, q5, -⟩ := cx.2.2.2.2.2.2.2.1.next hK (H := H) (fun q hq => hS.2.1 q (Nat.lt_of_lt_of_le hq cx.2.2.2.2.2.2.2.2.2.1) (Nat.not_le.mpr hq)) a c1
      exact W.alen (n := Int32.ofNat (gN g a)) cx.1 cx.2.1 q1 q2 (by rw [q4] <;> rfl) rfl rfl hd (K L H locs lsA hH hl hS hK h5)
    · by_cases c2 : gK g a = 11 ∨ gK g a = 12
      · exact W.alen (n := Int32.ofNat (gN g a)) cx.1 cx.2.1 ((hH.1 a).2.1 c2) ((arrI hk).1 _ _) (by rw [arrV_size] <;> rfl) rfl rfl hd (K L H locs lsA hH hl hS hK h5)
      · by_cases c3 : gK g a = 13
        · exact W.alen (n := Int32.ofNat (gN g a)) cx.1 cx.2.1 ((hH.1 a).2.2.1 c3) ((arrC hk).1 _ _) (by rw [arrV_size] <;> rfl) rfl rfl hd (K L H locs lsA hH hl hS hK h5)
        · have c4 : 14 ≤ gK g a ∧ gK g a ≤ 17 := by omega
          exact W.alen (n := Int32.ofNat (gN g a)) cx.1 cx.2.1 ((hH.1 a).2.2.2 c4) ((arrQ hk c4).1 _ _) (by rw [arrV_size] <;> rfl) rfl rfl hd (K L H locs lsA hH hl hS hK h5)
  next => cases hf
theorem q_aald {kd : Nat} (hkd : 14 ≤ kd ∧ kd ≤ 17) (hd : decode cc pc = .ok (.aaload, 1)) : STP own cc nL mn (f_aald kd) pc := by
  intro p l e R s m args below meth c D cA n0 g0 L0 ge Z cx _ _ ls st g n hf hn h1 h2 h3 h4 h5 L H locs lsA hH hl hS hK K
  unfold f_aald at hf
  split at hf
  next i a r =>
    cases hf
    obtain ⟨hn, hin, h0⟩ : gK g a = kd ∧ vp_in i (gN g a) ∧ gR g a i.toNatClampNeg ≠ 0 := hn
    have hlt : i.toNatClampNeg < gN g a := Nat.not_le.mp fun q => hin (Or.inr q)
    have hc := (hH.1 a).2.2.2 (by rw [hn]; exact hkd)
    rw [hn] at hc
    exact W.aald (v := .ref (L (gR g a i.toNatClampNeg))) cx.1 cx.2.1 hc ((arrQ cx.2.2.2.2.2.2.1 hkd).1 _ _) rfl (fun q => by cases q) (by rw [arrV_size]; exact hin) (by rw [arrV_read _ _ hlt, rv, if_neg h0]) rfl rfl hd (K L H locs lsA hH hl hS hK h5)
  next => cases hf
theorem q_aast {kd : Nat} (hkd : 14 ≤ kd ∧ kd ≤ 17) (hd : decode cc pc = .ok (.aastore, 1)) : STP own cc nL mn (f_aast kd (ekd kd)) pc := by
  intro p l e R s m args below meth c D cA n0 g0 L0 ge Z cx _ _ ls st g n hf hn h1 h2 h3 h4 h5 L H locs lsA hH hl hS hK K
  unfold f_aast at hf
  split at hf
  next v i a r =>
    cases hf
    obtain ⟨hn, hin, hv, hv0⟩ : gK g a = kd ∧ vp_in i (gN g a) ∧ gK g v = ekd kd ∧ v ≠ 0 := hn
    have hlt : i.toNatClampNeg < gN g a := Nat.not_le.mp fun q => hin (Or.inr q)
    have hi0 : ¬ i < 0 := fun q => hin (Or.inl q)
    have hc := (hH.1 a).2.2.2 (by rw [hn]; exact hkd)
    rw [hn] at hc
    have hek : 1 ≤ ekd kd ∧ ekd kd ≤ 8 := kd17 (P := fun kd => 1 ≤ ekd kd ∧ ekd kd ≤ 8) (by decide) (by decide) (by decide) (by decide) hkd
    have hob := (hH.1 v).1 (by rw [hv]; exact hek)
    rw [hv] at hob
    obtain ⟨cellV, g1, g2, g3, -⟩ := hob
    have hcls := (cx.2.2.2.2.2.2.1.1.1 (ekd kd - 1) _ (mcl_at hek)).2
    obtain ⟨kA, comp, k1, k2, k3, -⟩ := (arrQ cx.2.2.2.2.2.2.1 hkd).2
    have hcomp : comp = D.1 (ekd kd - 1) := Option.some.inj (k3.symm.trans hcls.1)
    subst hcomp
    obtain ⟨kC, hkC, -⟩ := hcls.2
    have hlx : lvx g a := ⟨by omega, by omega⟩
    refine W.aast cx.1 cx.2.1 hc (fun q h => by cases h) (fun h => by cases h) k1 k2 rfl hkC ⟨hi0, by rw [arrV_size]; exact hlt⟩ g1 (fun q h => by rw [g3] at h; cases h) (by rw [g2]; exact hkC) (by rw [g2]; exact va_assign hcls) rfl rfl hd fun H1 e z oq => ?_
    refine K L H1 _ lsA (hH.upd a (fun _ => rfl) (fun b hb => ⟨rfl, rfl, fun k' => by show gR (pR g a _ v) b k' = _; rw [gR_pR, if_neg hb]⟩) oq z hlx ?_ (fun k' hk' => ?_)) hl (hS.put z oq (hH.2.2.1 a hlx).1) (hK.upd (fun _ => rfl) (fun b hb => ⟨rfl, rfl⟩)) h5
    · unfold cellOK
      rw [show gK (pR g a i.toNatClampNeg v) a = kd from hn, show gN (pR g a i.toNatClampNeg v) a = gN g a from rfl]
      refine ⟨fun q => by omega, fun q => by omega, fun q => by omega, fun _ => ?_⟩
      rw [e, arrV_store]
      congr 2
      funext j
      rw [gR_pR, if_pos rfl]
      by_cases hj : j = i.toNatClampNeg
      · rw [hj, updV_same, if_pos rfl, rv, if_neg hv0]
      · rw [updV_ne hj, if_neg hj]
    · change gR (pR g a i.toNatClampNeg v) a k' ≠ 0 at hk'
      show ok1 g (gR (pR g a i.toNatClampNeg v) a k')
      rw [gR_pR, if_pos rfl] at hk' ⊢
      split at hk'
      · rw [if_pos (by assumption)]
        have : gK g v ≤ 8 ∧ 1 ≤ gK g v := by rw [hv]; exact ⟨hek.2, hek.1⟩
        exact ⟨by omega, by omega⟩
      · rw [if_neg (by assumption)]; exact hH.2.2.2.2 a k' hlx hk'
  next => cases hf
/-- a new cell -/
theorem HR.new {D : va_G} {cA : Nat → ClassId} {n0 : Nat} {g : mG} {L : Nat → Nat} {H H1 : Heap} (hH : HR D cA n0 g L H) {a kd n sz : Nat} {f : Nat → Int32} (hf : frsh g a) (hk : kd ≠ 0 ∧ kd ≠ 10) (hn0 : n0 ≤ H.size) (hq : ∀ z, z < H.size → H1[z]? = H[z]?) (hsz : H1.size = H.size + 1)
    (hc : cellOK D cA (nw g a kd n sz f) (fun b => if b = a then H.size else L b) H1 a) : HR D cA n0 (nw g a kd n sz f) (fun b => if b = a then H.size else L b) H1 := by
  obtain ⟨h1, h2, h3, ⟨h4a, h4b, h4c⟩, h5⟩ := hH
  obtain ⟨hf1, hf2, hf3⟩ := hf
  have key : ∀ b, b ≠ a → lvx (nw g a kd n sz f) b → lvx g b := by
    intro b hb hl
    unfold lvx at hl
    rw [gK_nw, if_neg hb] at hl
    exact hl
  have hok : ∀ x, ok1 g x → ok1 (nw g a kd n sz f) x ∧ x ≠ a := by
    intro x hx
    have c1 : x ≠ a := fun z => hx.1 (by rw [z]; exact hf1)
    refine ⟨?_, c1⟩
    unfold ok1
    rw [gK_nw, if_neg c1]
    exact hx
  refine ⟨fun b => ?_, fun b d hb hd he => ?_, fun b hb => ?_, ?_, fun b k hb hne => ?_⟩
  · by_cases hba : b = a
    · rw [hba]; exact hc
    · by_cases hlb : lvx g b
      · refine (h1 b).cong (by rw [gK_nw, if_neg hba]) (by rw [gN_nw, if_neg hba]) (by rw [gI_nw, if_neg hba]) (fun k => by rw [gR_nw, if_neg hba]) (by simp only [if_neg hba]) (fun k hk => by simp only [if_neg (hok _ (h5 b k hlb hk)).2]) (fun hb5 => ?_) (hq _ (h3 b hlb).2)
        have c1 : b + 1 ≠ a := fun z => hf2 (by rw [← z]; exact hb5)
        exact ⟨by rw [gK_nw, if_neg c1], fun _ => by simp only [if_neg c1]⟩
      · have h0 : gK g b = 0 ∨ gK g b = 10 := by
          by_cases z : gK g b = 0
          · exact Or.inl z
          · exact Or.inr (Classical.byContradiction fun w => hlb ⟨z, w⟩)
        unfold cellOK
        rw [gK_nw, if_neg hba]
        exact ⟨fun q => by omega, fun q => by omega, fun q => by omega, fun q => by omega⟩
  · by_cases hb1 : b = a
    · by_cases hd1 : d = a
      · rw [hb1, hd1]
      · have := (h3 d (key d hd1 hd)).2
        simp only [if_pos hb1, if_neg hd1] at he
        omega
    · by_cases hd1 : d = a
      · have := (h3 b (key b hb1 hb)).2
        simp only [if_neg hb1, if_pos hd1] at he
        omega
      · simp only [if_neg hb1, if_neg hd1] at he
        exact h2 b d (key b hb1 hb) (key d hd1 hd) he
  · rw [hsz]
    by_cases hb1 : b = a
    · simp only [if_pos hb1]; omega
    · simp only [if_neg hb1]
      have := h3 b (key b hb1 hb)
      omega
  · have z : ∀ x, gK g x = 10 → gK (nw g a kd n sz f) x = 10 := by
      intro x hx
      have c1 := (hok x ⟨by rw [hx]; decide, by rw [hx]; decide⟩).2
      rw [gK_nw, if_neg c1]; exact hx
    exact ⟨z 3 h4a, z 4 h4b, z 5 h4c⟩
  · by_cases hb1 : b = a
    · exact absurd (by rw [gR_nw, if_pos hb1]) hne
    · rw [gR_nw, if_neg hb1] at hne ⊢
      exact (hok _ (h5 b k (key b hb1 hb) hne)).1
theorem Kp.new {g0 g : mG} {L0 L : Nat → Nat} {a kd n sz z : Nat} {f : Nat → Int32} (h : Kp g0 L0 g L) (hf : frsh g a) (hk : kd ≠ 10) : Kp g0 L0 (nw g a kd n sz f) (fun b => if b = a then z else L b) := by
  refine ⟨fun b hb => ?_, fun b hb => ?_⟩
  · have c1 : b ≠ a := fun q => (h.1 b hb).1.1 (by rw [q]; exact hf.1)
    refine ⟨?_, by simp only [if_neg c1]; exact (h.1 b hb).2⟩
    unfold ok1
    rw [gK_nw, if_neg c1]
    exact (h.1 b hb).1
  · have c1 : b ≠ a := fun q => by rw [gK_nw, if_pos q] at hb; exact hk hb
    rw [gK_nw, if_neg c1] at hb
    rw [gN_nw, if_neg c1, gI_nw, if_neg c1]
    exact h.2 b hb
theorem lvs_map {g : mG} {L : Nat → Nat} {a z : Nat} (hf : gK g a = 0) {x : Nat} (hx : gK g x ≠ 0) : (fun b => if b = a then z else L b) x = L x := if_neg fun q => hx (by rw [q]; exact hf)
theorem LH.new {lsA : Array Slot} {nL : Nat} {L : Nat → Nat} {ls : List Value} {g : mG} {a z : Nat} (h : LH lsA nL L ls) (hs : alv g ls) (hf : gK g a = 0) : LH lsA nL (fun b => if b = a then z else L b) ls := by
  refine ⟨h.1, h.2.1, fun q hq => h.2.2 q ?_⟩
  obtain ⟨k, w, h1, h2, rfl⟩ := (lvs_mem _ _ _).mp hq
  refine (lvs_mem _ _ _).mpr ⟨k, w, h1, h2, ?_⟩
  have hw := hs w (List.mem_of_getElem? h1)
  cases w with
  | ref x => simp only [rz]; rw [if_neg fun q => hw (by rw [q]; exact hf)]
  | _ => rfl
theorem map_new {L : Nat → Nat} {l : List Value} {g : mG} {a z : Nat} (hs : alv g l) (hf : gK g a = 0) : l.map (rz fun b => if b = a then z else L b) = l.map (rz L) := by
  refine List.map_congr_left fun w hw => ?_
  have h := hs w hw
  cases w with
  | ref x => simp only [rz]; rw [if_neg fun q => h (by rw [q]; exact hf)]
  | _ => rfl
theorem xdef {kd : Nat} (hkd : 1 ≤ kd ∧ kd ≤ 8) : ∀ k, k < xn kd → defaultValue (xty kd k) = if isRf kd k = true then .null else .int 0 := kd8 (P := fun kd => ∀ k, k < xn kd → defaultValue (xty kd k) = if isRf kd k = true then .null else .int 0) (by decide +kernel) (by decide +kernel) (by decide +kernel) (by decide +kernel) (by decide +kernel) (by decide +kernel) (by decide +kernel) (by decide +kernel) hkd
theorem va_S.grow {A : Nat → Prop} {H0 H H1 : Heap} {locs : List Loc} (h : va_S A H0 H locs) (hz : H1.size = H.size + 1) (hq : ∀ z, z < H.size → H1[z]? = H[z]?) : va_S A H0 H1 locs := ⟨Nat.le_trans h.1 (by omega), fun x h1 h2 => (hq x (Nat.lt_of_lt_of_le h1 h.1)).trans (h.2.1 x h1 h2), h.2.2⟩
theorem q_new {kd index : Nat} (hkd : 1 ≤ kd ∧ kd ≤ 8) (hw1 : Cond.classLink own index (xR kd) ∈ tw) (hw2 : Cond.instantiable (xR kd) (xn kd) ∈ tw) (hw3 : Cond.initialized (xR kd) ∈ tw) (hd : decode cc pc = .ok (.new index, 3)) (a : Nat) : STP own cc nL mn (f_new kd a) pc := by
  intro p l e R s m args below meth c D cA n0 g0 L0 ge Z cx hrc hrs ls st g n hf hn h1 h2 h3 h4 h5 L H locs lsA hH hl hS hK K
  cases hf
  obtain ⟨hfr, hk5, hal, hast⟩ := hn
  have hKn := cx.2.2.2.2.2.2.1.1.1 (kd - 1) _ (mcl_at hkd)
  have e1 : gC (nw g a kd 0 (xn kd) fun _ => 0) - gC g0 = gC g - gC g0 + 1 := by rw [gC_nw]; omega
  have e2 : gS (nw g a kd 0 (xn kd) fun _ => 0) - gS g0 = gS g - gS g0 + xn kd := by rw [gS_nw]; omega
  have h3 : gC (nw g a kd 0 (xn kd) fun _ => 0) ≤ gC ge := h3
  have h4 : gS (nw g a kd 0 (xn kd) fun _ => 0) ≤ gS ge := h4
  rw [gC_nw] at h3
  rw [gS_nw] at h4
  have hsz : n0 ≤ H.size := Nat.le_trans cx.2.2.2.2.2.2.2.2.2.1 hS.1
  refine W.newcK cx.1 cx.2.1 cx.2.2.2.1 (cx.2.2.2.2.1 _ hw1) (cx.2.2.2.2.1 _ hw2) (cx.2.2.2.2.1 _ hw3) rfl hd (by omega) (by omega) hKn.2.1 rfl fun H1 kC hkC ee z1 o1 => ?_
  have hob := u_born (xty kd) cx.2.2.2.2.1 (xin hkd) hKn hkC ee (xty_ok hkd)
  have hk := K (fun b => if b = a then H.size else L b) H1 locs lsA (hH.new (kd := kd) (n := 0) (sz := xn kd) (f := fun _ => 0) hfr ⟨by omega, by omega⟩ hsz o1 z1 ?_) (hl.new hal hfr.1) (hS.grow z1 o1) (hK.new hfr (by omega)) h5
  · rw [e1, e2] at hk
    have e3 : (st.map (rz fun b => if b = a then H.size else L b)) = st.map (rz L) := map_new hast hfr.1
    have e4 : ((Value.ref a :: st).map (rz fun b => if b = a then H.size else L b)) = .ref H.size :: st.map (rz L) := by
      rw [List.map_cons, e3]
      simp only [rz, if_true]
    change W p l e R s m args below meth c H1 locs _ _ Z (F0 m (pc + 3) lsA ((Value.ref a :: st).map (rz fun b => if b = a then H.size else L b))) at hk
    rw [e4] at hk
    exact hk
  · unfold cellOK
    rw [gK_nw, if_pos rfl]
    refine ⟨fun _ => ?_, fun q => by omega, fun q => by omega, fun q => by omega⟩
    simp only [if_true]
    refine hob.to (fun k hk => ?_)
    rw [xdef hkd k hk]
    have hkk : gK (nw g a kd 0 (xn kd) fun _ => 0) a = kd := by rw [gK_nw, if_pos rfl]
    by_cases c5 : kd = 5 ∧ k = 0
    · obtain ⟨c5, c6⟩ := c5
      subst c6
      have hrf : isRf kd 0 = true := by rw [c5]; rfl
      rw [if_pos hrf, fv_Y (hkk.trans c5), gK_nw, if_neg (show ¬ a + 1 = a by omega), if_pos (hk5 c5)]
    · by_cases cr : isRf kd k = true
      · rw [if_pos cr, fv_ref (by rw [hkk]; exact cr) (by rw [hkk]; exact c5), gR_nw, if_pos rfl]
        rfl
      · have cr : isRf kd k = false := by simpa using cr
        rw [if_neg (by rw [cr]; decide), fv_int (by rw [hkk]; exact cr), gI_nw, if_pos rfl]
theorem q_newa {kd : Nat} {atype : ArrayType} (hkd : ((kd = 11 ∨ kd = 12) ∧ atype = .int) ∨ (kd = 13 ∧ atype = .char)) (hw : Cond.arrayClass (newarray.typeOf atype) ∈ tw) (hd : decode cc pc = .ok (.newarray atype, 2)) (a : Nat) : STP own cc nL mn (f_newa kd a) pc := by
  intro p l e R s m args below meth c D cA n0 g0 L0 ge Z cx hrc hrs ls st g n hf hn h1 h2 h3 h4 h5 L H locs lsA hH hl hS hK K
  unfold f_newa at hf
  split at hf
  next i r =>
    cases hf
    obtain ⟨hfr, hi, hbig, hal, hast⟩ := hn
    generalize hN : i.toNatClampNeg = N at *
    have e1 : gC (nw g a kd N N fun _ => 0) - gC g0 = gC g - gC g0 + 1 := by rw [gC_nw]; omega
    have e2 : gS (nw g a kd N N fun _ => 0) - gS g0 = gS g - gS g0 + N := by rw [gS_nw]; omega
    have h3 : gC (nw g a kd N N fun _ => 0) ≤ gC ge := h3
    have h4 : gS (nw g a kd N N fun _ => 0) ≤ gS ge := h4
    rw [gC_nw] at h3
    rw [gS_nw] at h4
    have hsz : n0 ≤ H.size := Nat.le_trans cx.2.2.2.2.2.2.2.2.2.1 hS.1
    have hbyt : N * componentBytes (newarray.typeOf atype) ≤ 536870912 := by
      have : componentBytes (newarray.typeOf atype) ≤ 8 := by
        rcases hkd with ⟨-, rfl⟩ | ⟨-, rfl⟩ <;> decide
      have := Nat.mul_le_mul hbig this
      omega
    refine va_newaK cx.1 cx.2.1 (cx.2.2.2.2.1 _ hw) rfl hd rfl hi hN hbyt (by omega) (by omega) rfl fun H1 cB ee z1 o1 hAr hNm => ?_
    have hk := K (fun b => if b = a then H.size else L b) H1 locs lsA (hH.new (kd := kd) (n := N) (sz := N) (f := fun _ => 0) hfr ⟨by omega, by omega⟩ hsz o1 z1 ?_) (hl.new hal hfr.1) (hS.grow z1 o1) (hK.new hfr (by omega)) h5
    · rw [e1, e2] at hk
      have e4 : ((Value.ref a :: r).map (rz fun b => if b = a then H.size else L b)) = .ref H.size :: r.map (rz L) := by
        rw [List.map_cons, map_new hast hfr.1]
        simp only [rz, if_true]
      change W p l e R s m args below meth c H1 locs _ _ Z (F0 m (pc + 2) lsA ((Value.ref a :: r).map (rz fun b => if b = a then H.size else L b))) at hk
      rw [e4] at hk
      exact hk
    · unfold cellOK
      rw [gK_nw, if_pos rfl, gN_nw, if_pos rfl, gI_nw, if_pos rfl]
      simp only [if_true]
      have hk := cx.2.2.2.2.2.2.1
      refine ⟨fun q => by omega, fun q => ?_, fun q => ?_, fun q => by omega⟩
      · rcases hkd with ⟨-, rfl⟩ | ⟨c1, -⟩
        · have ec : cB = cA 0 := Option.some.inj (hNm.symm.trans (arrI hk).2)
          rw [ee, ec]
          rfl
        · omega
      · rcases hkd with ⟨c1, -⟩ | ⟨-, rfl⟩
        · omega
        · have ec : cB = cA 1 := Option.some.inj (hNm.symm.trans (arrC hk).2)
          rw [ee, ec]
          rfl
  next => cases hf
theorem q_newq {kd index : Nat} (hkd : 14 ≤ kd ∧ kd ≤ 17) (hw1 : Cond.classLink own index (xR (ekd kd)) ∈ tw) (hw2 : Cond.arrayOver (.object (xR (ekd kd))) ∈ nestW) (hd : decode cc pc = .ok (.anewarray index, 3)) (a : Nat) : STP own cc nL mn (f_newq kd a) pc := by
  intro p l e R s m args below meth c D cA n0 g0 L0 ge Z cx hrc hrs ls st g n hf hn h1 h2 h3 h4 h5 L H locs lsA hH hl hS hK K
  unfold f_newq at hf
  split at hf
  next i r =>
    cases hf
    obtain ⟨hfr, hi, hbig, hal, hast⟩ := hn
    have e1 : gC (nw g a kd i.toNatClampNeg i.toNatClampNeg fun _ => 0) - gC g0 = gC g - gC g0 + 1 := by rw [gC_nw]; omega
    have e2 : gS (nw g a kd i.toNatClampNeg i.toNatClampNeg fun _ => 0) - gS g0 = gS g - gS g0 + i.toNatClampNeg := by rw [gS_nw]; omega
    have h3 : gC (nw g a kd i.toNatClampNeg i.toNatClampNeg fun _ => 0) ≤ gC ge := h3
    have h4 : gS (nw g a kd i.toNatClampNeg i.toNatClampNeg fun _ => 0) ≤ gS ge := h4
    rw [gC_nw] at h3
    rw [gS_nw] at h4
    have hsz : n0 ≤ H.size := Nat.le_trans cx.2.2.2.2.2.2.2.2.2.1 hS.1
    refine W.anew cx.1 cx.2.1 cx.2.2.2.1 (cx.2.2.2.2.1 _ hw1) (cx.2.2.2.2.2.2.1.2 _ hw2) rfl hd rfl hi (by omega) (by omega) (by omega) fun cB kA comp f1 f2 f3 f4 => ?_
    generalize hH1 : H.push ({ cls := cB, slots := Array.replicate i.toNatClampNeg .null, vm := .none } : Cell) = H1
    have z1 : H1.size = H.size + 1 := by rw [← hH1, Array.size_push]
    have ee : H1[H.size]? = some (arrV cB i.toNatClampNeg (fun _ => .null)) := by rw [← hH1, Array.getElem?_push_size, ← arrV_new]
    have o1 : ∀ q : Nat, q < H.size → H1[q]? = H[q]? := fun q hq => by rw [← hH1, Array.getElem?_push, if_neg (Nat.ne_of_lt hq)]
    have hk := K (fun b => if b = a then H.size else L b) H1 locs lsA (hH.new (kd := kd) (n := i.toNatClampNeg) (sz := i.toNatClampNeg) (f := fun _ => 0) hfr ⟨by omega, by omega⟩ hsz o1 z1 ?_) (hl.new hal hfr.1) (hS.grow z1 o1) (hK.new hfr (by omega)) h5
    · rw [e1, e2] at hk
      have e4 : ((Value.ref a :: r).map (rz fun b => if b = a then H.size else L b)) = .ref H.size :: r.map (rz L) := by
        rw [List.map_cons, map_new hast hfr.1]
        simp only [rz, if_true]
      change W p l e R s m args below meth c H1 locs _ _ Z (F0 m (pc + 3) lsA ((Value.ref a :: r).map (rz fun b => if b = a then H.size else L b))) at hk
      rw [e4] at hk
      exact hk
    · unfold cellOK
      rw [gK_nw, if_pos rfl, gN_nw, if_pos rfl, gI_nw, if_pos rfl]
      simp only [if_true]
      refine ⟨fun q => by omega, fun q => by omega, fun q => by omega, fun q => ?_⟩
      obtain ⟨kA', comp', k1, k2, k3, k4⟩ := (arrQ cx.2.2.2.2.2.2.1 hkd).2
      have ec : cB = cA (kd - 12) := Option.some.inj (f1.symm.trans k4)
      rw [ee, ec]
      congr 2
      funext j
      rw [gR_nw, if_pos rfl]
      rfl
  next => cases hf
end H3
