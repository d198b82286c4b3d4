/-! ===== stores, arrays, makings ===== -/
theorem ok1.lvx {g : mG} {a : Nat} (h : gK g a ≠ 0) (h2 : gK g a ≠ 10) : lvx g a := ⟨h, h2⟩
section Stores
variable {own : String} {mn : String × Nat} {cc : ByteArray} {nL pc : Nat}
theorem updV_same {V : Nat → Value} {k : Nat} {v : Value} : updV V k v k = v := by simp [updV]
theorem updV_ne {V : Nat → Value} {k j : Nat} {v : Value} (h : j ≠ k) : updV V k v j = V j := by simp [updV, h]
theorem q_pIg {kd k index : Nat} {v : Int32} (hkd : 1 ≤ kd ∧ kd ≤ 8) (hk : k < xn kd) (hnr : isRf kd k = false) (hfin : (xT kd k).2.2.2 = false) (hn1 : narrow (xty kd k) (.int v) = .int v) (hft : fits (xty kd k) (.int v) = true) (hw : Cond.fieldLink own index (xT kd k).1 (xT kd k).2.1 (xT kd k).2.2.1 ∈ tw) (hd : decode cc pc = .ok (.putfield index, 3))
    {p : Program} {l : Launch} {e : Env} {R : Room} {s : State} {m : MethodId} {args : Array Value} {below : List Frame} {meth : Method} {c : Code} {D : va_G} {cA : Nat → ClassId} {n0 : Nat} {g0 : mG} {L0 : Nat → Nat} {Z : State → Prop} {ls r : List Value} {g : mG} {a : Nat} (cx : CX p l e R s m args below meth c D cA n0 g0 L0 own cc nL mn) (hn : gK g a = kd) (h5 : ls.length = nL)
    {L : Nat → Nat} {H : Heap} {locs : List Loc} {lsA : Array Slot} (hH : HR D cA n0 g L H) (hl : LH lsA nL L ls) (hS : va_S (fun q => n0 ≤ q) s.heap H locs) (hK : Kp g0 L0 g L)
    (K : ∀ (L' : Nat → Nat) (H' : Heap) (locs' : List Loc) (lsA' : Array Slot), HR D cA n0 (pI g a k v) L' H' → LH lsA' nL L' ls → va_S (fun q => n0 ≤ q) s.heap H' locs' → Kp g0 L0 (pI g a k v) L' → ls.length = nL →
      W p l e R s m args below meth c H' locs' (gC g - gC g0) (gS g - gS g0) Z (F0 m (pc + 3) lsA' (r.map (rz L')))) :
    W p l e R s m args below meth c H locs (gC g - gC g0) (gS g - gS g0) Z (F0 m pc lsA ((.int v :: .ref a :: r).map (rz L))) := by
  have hob := (hH.1 a).1 (by rw [hn]; exact hkd)
  rw [hn] at hob
  have hlx : lvx g a := ⟨by rw [hn]; omega, by rw [hn]; omega⟩
  refine put_row hkd hk (Or.inl hfin) hw hd cx (fun q => by rw [hfin] at q; cases q) hob hn1 hft (fun H1 j hob1 hz hq => ?_)
  refine K L H1 _ lsA (hH.upd a (fun _ => rfl) (fun b hb => ⟨rfl, gI_pI_ne hb, fun _ => rfl⟩) hq hz hlx ?_ (fun k' hk' => hH.2.2.2.2 a k' hlx hk')) hl (hS.put hz hq (hH.2.2.1 a hlx).1) (hK.upd (fun _ => rfl) (fun b hb => ⟨rfl, gI_pI_ne (fun q => hlx.2 (by rw [← q]; exact hb))⟩)) h5
  unfold cellOK
  rw [show gK (pI g a k v) a = kd from hn]
  refine ⟨fun _ => hob1.to (fun k' hk' => ?_), fun q => by omega, fun q => by omega, fun q => by omega⟩
  by_cases hkk : k' = k
  · rw [hkk, updV_same, fv_int (by rw [show gK (pI g a k v) a = kd from hn]; exact hnr), gI_pI_eq, if_pos rfl]; rfl
  · rw [updV_ne hkk]
    unfold fv
    rw [gI_pI_eq, if_neg hkk]
    rfl
theorem q_pI {kd k index : Nat} (hkd : 1 ≤ kd ∧ kd ≤ 8) (hk : k < xn kd) (hty : xty kd k = .int) (hfin : (xT kd k).2.2.2 = false) (hw : Cond.fieldLink own index (xT kd k).1 (xT kd k).2.1 (xT kd k).2.2.1 ∈ tw) (hd : decode cc pc = .ok (.putfield index, 3)) : STP own cc nL mn (f_pI kd k) pc := by
  intro p l e R s m args below meth c D cA n0 g0 L0 ge Z cx _ _ ls st g n hf hn h1 h2 h3 h4 h5 L H locs lsA hH hl hS hK K
  unfold f_pI at hf
  split at hf
  next v a r =>
    cases hf
    exact q_pIg hkd hk (by unfold isRf; rw [hty]) hfin (by rw [hty]; exact vp_nar_int v) (by rw [hty]; rfl) hw hd cx hn h5 hH hl hS hK K
  next => cases hf
theorem q_pB {kd k index : Nat} (hkd : 1 ≤ kd ∧ kd ≤ 8) (hk : k < xn kd) (hty : xty kd k = .boolean) (hfin : (xT kd k).2.2.2 = false) (hw : Cond.fieldLink own index (xT kd k).1 (xT kd k).2.1 (xT kd k).2.2.1 ∈ tw) (hd : decode cc pc = .ok (.putfield index, 3)) : STP own cc nL mn (f_pB kd k) pc := by
  intro p l e R s m args below meth c D cA n0 g0 L0 ge Z cx _ _ ls st g n hf hn h1 h2 h3 h4 h5 L H locs lsA hH hl hS hK K
  unfold f_pB at hf
  split at hf
  next v a r =>
    cases hf
    have hv : narrow .boolean (.int v) = .int v ∧ fits .boolean (.int v) = true := by
      rcases hn.2 with e | e
      · rw [e]; decide +kernel
      · rw [e]; decide +kernel
    exact q_pIg hkd hk (by unfold isRf; rw [hty]) hfin (by rw [hty]; exact hv.1) (by rw [hty]; exact hv.2) hw hd cx hn.1 h5 hH hl hS hK K
  next => cases hf
theorem narrow_ref {ty : FieldType} {x : Nat} (h : (∃ C, ty = .object C) ∨ ∃ t, ty = .array t) : narrow ty (.ref x) = .ref x ∧ fits ty (.ref x) = true := by
  rcases h with ⟨C, rfl⟩ | ⟨t, rfl⟩ <;> exact ⟨rfl, rfl⟩
theorem isRf_ty {kd k : Nat} (hkd : 1 ≤ kd ∧ kd ≤ 8) (hk : k < xn kd) (h : isRf kd k = true) : (∃ C, xty kd k = .object C) ∨ ∃ t, xty kd k = .array t := by
  unfold isRf at h
  revert h
  refine kd8 (P := fun kd => k < xn kd → (match xty kd k with | .int => false | .boolean => false | _ => true) = true → (∃ C, xty kd k = .object C) ∨ ∃ t, xty kd k = .array t) ?_ ?_ ?_ ?_ ?_ ?_ ?_ ?_ hkd hk
  all_goals
    intro hk
    match k, hk with
    | 0, _ | 1, _ | 2, _ | 3, _ | 4, _ | 5, _ | 6, _ | 7, _ | 8, _ | 9, _ | 10, _ | 11, _ | 12, _ | 13, _ => first | (intro h; cases h; done) | (intro _; exact Or.inl ⟨_, rfl⟩) | (intro _; exact Or.inr ⟨_, rfl⟩)
    | k + 14, h => exact absurd h (by simp [xn])
theorem q_pR {kd k index : Nat} (hkd : 1 ≤ kd ∧ kd ≤ 8) (hk : k < xn kd) (hnr : isRf kd k = true) (hny : ¬ (kd = 5 ∧ k = 0)) (hfin : (xT kd k).2.2.2 = false ∨ (own = (xT kd k).1 ∧ (xT kd k).2.2.2 = true)) (hini : (xT kd k).2.2.2 = true → mn.1 = "<init>") (hw : Cond.fieldLink own index (xT kd k).1 (xT kd k).2.1 (xT kd k).2.2.1 ∈ tw) (hd : decode cc pc = .ok (.putfield index, 3)) : STP own cc nL mn (f_pR kd k) pc := by
  intro p l e R s m args below meth c D cA n0 g0 L0 ge Z cx _ _ ls st g n hf hn h1 h2 h3 h4 h5 L H locs lsA hH hl hS hK K
  unfold f_pR at hf
  split at hf
  next v a r =>
    cases hf
    obtain ⟨hn, hv, hv0⟩ : gK g a = kd ∧ ok1 g v ∧ v ≠ 0 := hn
    have hob := (hH.1 a).1 (by rw [hn]; exact hkd)
    rw [hn] at hob
    have hlx : lvx g a := ⟨by rw [hn]; omega, by rw [hn]; omega⟩
    obtain ⟨n1, n2⟩ := narrow_ref (x := L v) (isRf_ty hkd hk hnr)
    refine put_row hkd hk hfin hw hd cx hini hob n1 n2 (fun H1 j hob1 hz hq => ?_)
    refine K L H1 _ lsA (hH.upd a (fun _ => rfl) (fun b hb => ⟨rfl, rfl, fun k' => by show gR (pR g a k v) b k' = _; rw [gR_pR, if_neg hb]⟩) hq hz hlx ?_ (fun k' hk' => ?_)) hl (hS.put hz hq (hH.2.2.1 a hlx).1) (hK.upd (fun _ => rfl) (fun b hb => ⟨rfl, rfl⟩)) h5
    · unfold cellOK
      rw [show gK (pR g a k v) a = kd from hn]
      refine ⟨fun _ => hob1.to (fun k' hk' => ?_), fun q => by omega, fun q => by omega, fun q => by omega⟩
      by_cases hkk : k' = k
      · rw [hkk, updV_same, fv_ref (by rw [show gK (pR g a k v) a = kd from hn]; exact hnr) (by rw [show gK (pR g a k v) a = kd from hn]; exact hny), gR_pR, if_pos rfl, if_pos rfl, rv, if_neg hv0]; rfl
      · rw [updV_ne hkk]
        unfold fv
        rw [gR_pR, if_pos rfl, if_neg hkk]
        rfl
    · change gR (pR g a k v) a k' ≠ 0 at hk'
      show ok1 g (gR (pR g a k v) a k')
      rw [gR_pR, if_pos rfl] at hk' ⊢
      split at hk'
      · rw [if_pos (by assumption)]; exact hv
      · rw [if_neg (by assumption)]; exact hH.2.2.2.2 a k' hlx hk'
  next => cases hf
/-- the row q goes to the Permits a -/
theorem HR.mv {D : va_G} {cA : Nat → ClassId} {n0 : Nat} {g : mG} {L : Nat → Nat} {H H1 : Heap} (hH : HR D cA n0 g L H) {a q : Nat} (ha : gK g a = 5) (hq12 : gK g q = 12) (hqa : q ≠ a + 1) (hy : gK g (a + 1) = 0 ∨ gK g (a + 1) = 12) (hq1 : gK g (q - 1) ≠ 5)
    (hob : t_OB (L a) (D.1 4) 3 (D.2 4) H1 (updV (fv g L a) 0 (.ref (L q)))) (hq : ∀ z, z ≠ L a → H1[z]? = H[z]?) (hsz : H1.size = H.size) : HR D cA n0 (mY g a q) (fun b => if b = a + 1 then L q else L b) H1 := by
  obtain ⟨h1, h2, h3, ⟨h4a, h4b, h4c⟩, h5⟩ := hH
  have hlq : lvx g q := ⟨by rw [hq12]; decide, by rw [hq12]; decide⟩
  have hla : lvx g a := ⟨by rw [ha]; decide, by rw [ha]; decide⟩
  have haa : a ≠ a + 1 := by omega
  have haq : a ≠ q := fun z => by rw [z, hq12] at ha; cases ha
  have key : ∀ b, b ≠ a + 1 → lvx (mY g a q) b → lvx g b ∧ b ≠ q := by
    intro b hb hl
    by_cases hbq : b = q
    · exact absurd (by rw [gK_mY, if_neg hb, if_pos hbq]) hl.1
    · refine ⟨?_, hbq⟩
      unfold lvx at hl
      rw [gK_mY, if_neg hb, if_neg hbq] at hl
      exact hl
  have hok : ∀ x, ok1 g x → ok1 (mY g a q) x ∧ x ≠ a + 1 ∧ x ≠ q := by
    intro x hx
    have c1 : x ≠ a + 1 := fun z => by
      rcases hy with y | y
      · exact hx.1 (by rw [z]; exact y)
      · exact hx.2 (by rw [z]; exact y)
    have c2 : x ≠ q := fun z => hx.2 (by rw [z]; exact hq12)
    refine ⟨?_, c1, c2⟩
    unfold ok1
    rw [gK_mY, if_neg c1, if_neg c2]
    exact hx
  refine ⟨fun b => ?_, fun b d hb hd he => ?_, fun b hb => ?_, ?_, fun b k hb hne => ?_⟩
  · by_cases hb1 : b = a + 1
    · subst hb1
      have hc := (h1 q).2.1 (Or.inr hq12)
      unfold cellOK
      rw [gK_mY, if_pos rfl]
      refine ⟨fun z => by omega, fun _ => ?_, fun z => by omega, fun z => by omega⟩
      simp only [if_true]
      rw [gN_mY, if_pos rfl, gI_mY, if_pos rfl, hq _ (fun z => haq (h2 q a hlq hla z).symm)]
      exact hc
    · by_cases hbq : b = q
      · unfold cellOK
        rw [gK_mY, if_neg hb1, if_pos hbq]
        exact ⟨fun z => by omega, fun z => by omega, fun z => by omega, fun z => by omega⟩
      · by_cases hba : b = a
        · subst hba
          unfold cellOK
          rw [gK_mY, if_neg hb1, if_neg hbq, ha]
          refine ⟨fun _ => ?_, fun z => by omega, fun z => by omega, fun z => by omega⟩
          simp only [if_neg hb1]
          refine hob.to (fun k hk => ?_)
          have hK5 : gK (mY g b q) b = 5 := by rw [gK_mY, if_neg hb1, if_neg hbq, ha]
          by_cases hk0 : k = 0
          · subst hk0
            rw [updV_same, fv_Y hK5, gK_mY, if_pos rfl, if_neg (by decide), if_pos rfl]
          · rw [updV_ne hk0]
            have hr : isRf 5 k = false := by
              match k, hk with
              | 0, _ => exact absurd rfl hk0
              | 1, _ => rfl
              | 2, _ => rfl
            rw [fv_int (g := g) (by rw [ha]; exact hr), fv_int (g := mY g b q) (by rw [hK5]; exact hr), gI_mY, if_neg hb1]
        · by_cases hlb : lvx g b
          · refine (h1 b).cong ?_ ?_ ?_ (fun k => by rw [gR_mY, if_neg hb1]) ?_ (fun k hk => ?_) (fun hb5 => ?_) (hq _ (fun z => hba (h2 b a hlb hla z)))
            · rw [gK_mY, if_neg hb1, if_neg hbq]
            · rw [gN_mY, if_neg hb1]
            · rw [gI_mY, if_neg hb1]
            · simp only [if_neg hb1]
            · simp only [if_neg (hok _ (h5 b k hlb hk)).2.1]
            · have c1 : b + 1 ≠ a + 1 := fun z => hba (by omega)
              have c2 : b + 1 ≠ q := fun z => hq1 (by rw [← z]; exact hb5)
              refine ⟨by rw [gK_mY, if_neg c1, if_neg c2], fun _ => by simp only [if_neg c1]⟩
          · have h0 : gK g b = 0 ∨ gK g b = 10 := by
              by_cases z : gK g b = 0
              · exact Or.inl z
              · exact Or.inr (Classical.byContradiction fun w => hlb ⟨z, w⟩)
            unfold cellOK
            rw [gK_mY, if_neg hb1, if_neg hbq]
            exact ⟨fun q => by omega, fun q => by omega, fun q => by omega, fun q => by omega⟩
  · by_cases hb1 : b = a + 1
    · by_cases hd1 : d = a + 1
      · rw [hb1, hd1]
      · obtain ⟨c1, c2⟩ := key d hd1 hd
        simp only [if_pos hb1, if_neg hd1] at he
        exact absurd (h2 q d hlq c1 he).symm c2
    · obtain ⟨c1, c2⟩ := key b hb1 hb
      by_cases hd1 : d = a + 1
      · simp only [if_neg hb1, if_pos hd1] at he
        exact absurd (h2 b q c1 hlq he) c2
      · obtain ⟨c3, c4⟩ := key d hd1 hd
        simp only [if_neg hb1, if_neg hd1] at he
        exact h2 b d c1 c3 he
  · rw [hsz]
    by_cases hb1 : b = a + 1
    · simp only [if_pos hb1]; exact h3 q hlq
    · simp only [if_neg hb1]; exact h3 b (key b hb1 hb).1
  · have z : ∀ x, gK g x = 10 → gK (mY g a q) x = 10 := by
      intro x hx
      obtain ⟨-, c1, c2⟩ := hok x ⟨by rw [hx]; decide, by rw [hx]; decide⟩
      rw [gK_mY, if_neg c1, if_neg c2]; exact hx
    exact ⟨z 3 h4a, z 4 h4b, z 5 h4c⟩
  · by_cases hb1 : b = a + 1
    · exact absurd (by rw [gR_mY, if_pos hb1]) hne
    · rw [gR_mY, if_neg hb1] at hne ⊢
      exact (hok _ (h5 b k (key b hb1 hb).1 hne)).1
theorem Kp.mv {g0 g : mG} {L0 L : Nat → Nat} {a q : Nat} (h : Kp g0 L0 g L) (hq12 : gK g q = 12) (hy : gK g (a + 1) = 0 ∨ gK g (a + 1) = 12) : Kp g0 L0 (mY g a q) (fun b => if b = a + 1 then L q else L b) := by
  have hok : ∀ x, ok1 g x → x ≠ a + 1 ∧ x ≠ q := by
    intro x hx
    refine ⟨fun z => ?_, fun z => hx.2 (by rw [z]; exact hq12)⟩
    rcases hy with y | y
    · exact hx.1 (by rw [z]; exact y)
    · exact hx.2 (by rw [z]; exact y)
  refine ⟨fun b hb => ?_, fun b hb => ?_⟩
  · obtain ⟨c1, c2⟩ := hok b (h.1 b hb).1
    refine ⟨?_, by simp only [if_neg c1]; exact (h.1 b hb).2⟩
    unfold ok1
    rw [gK_mY, if_neg c1, if_neg c2]
    exact (h.1 b hb).1
  · have c1 : b ≠ a + 1 := fun z => by rw [gK_mY, if_pos z] at hb; cases hb
    have c2 : b ≠ q := fun z => by rw [gK_mY, if_neg c1, if_pos z] at hb; cases hb
    rw [gK_mY, if_neg c1, if_neg c2] at hb
    rw [gN_mY, if_neg c1, gI_mY, if_neg c1]
    exact h.2 b hb
theorem q_pY {index : Nat} (hw : Cond.fieldLink own index (xT 5 0).1 (xT 5 0).2.1 (xT 5 0).2.2.1 ∈ tw) (hd : decode cc pc = .ok (.putfield index, 3)) : STP own cc nL mn f_pY pc := by
  intro p l e R s m args below meth c D cA n0 g0 L0 ge Z cx _ _ ls st g n hf hn h1 h2 h3 h4 h5 L H locs lsA hH hl hS hK K
  have hkd : 1 ≤ 5 ∧ 5 ≤ 8 := by decide
  unfold f_pY at hf
  split at hf
  next q a r =>
    cases hf
    obtain ⟨hn, hq12, hqa, hy, hq1, hls, hr⟩ := hn
    have hob := (hH.1 a).1 (by rw [hn]; exact hkd)
    rw [hn] at hob
    have hlx : lvx g a := ⟨by rw [hn]; omega, by rw [hn]; omega⟩
    have hok : ∀ x, ok1 g x → (fun b => if b = a + 1 then L q else L b) x = L x := by
      intro x hx
      refine if_neg fun z => ?_
      rcases hy with y | y
      · exact hx.1 (by rw [z]; exact y)
      · exact hx.2 (by rw [z]; exact y)
    refine put_row (kd := 5) (k := 0) hkd (by decide) (Or.inl rfl) hw hd cx (fun q => by cases q) hob rfl rfl (fun H1 j hob1 hz hq => ?_)
    have e := map_moved hr hok
    rw [← e]
    exact K (fun b => if b = a + 1 then L q else L b) H1 (locs ++ [⟨L a, j⟩]) lsA (hH.mv hn hq12 hqa hy hq1 hob1 hq hz) (hl.moved hls hok) (hS.put hz hq (hH.2.2.1 a hlx).1) (hK.mv hq12 hy) h5
  next => cases hf
theorem va_S.F0 {A : Nat → Prop} {H0 H : Heap} {locs : List Loc} (h : va_S A H0 H locs) : ∀ q : Nat, q < H0.size → ¬ A q → H[q]? = H0[q]? := h.2.1
theorem q_gs {lab index : Nat} {nm : String} (hl3 : (lab = 3 ∧ nm = "SETTING_LEAST") ∨ (lab = 4 ∧ nm = "SETTING_MOST") ∨ (lab = 5 ∧ nm = "SETTING_FIRST")) (hw : Cond.fieldLink own index RX6 nm "[I" ∈ tw) (hd : decode cc pc = .ok (.getstatic index, 3)) : STP own cc nL mn (f_gs lab) pc := by
  intro p l e R s m args below meth c D cA n0 g0 L0 ge Z cx _ _ ls st g n hf hn h1 h2 h3 h4 h5 L H locs lsA hH hl hS hK K
  cases hf
  have hn : gK g lab = 10 := hn
  have e1 := hK.2 lab hn
  have e2 : L lab = L0 lab := (hK.1 lab ⟨by rw [e1.1]; decide, by rw [e1.1]; decide⟩).2
  have hz : va_Z RX6 nm "[I" (.ref (L lab)) (fun q => n0 ≤ q) s s.heap := by
    rw [e2]
    obtain ⟨s1, s2, s3⟩ := cx.2.2.2.2.2.2.2.2.1
    rcases hl3 with ⟨rfl, rfl⟩ | ⟨rfl, rfl⟩ | ⟨rfl, rfl⟩
    · exact s1
    · exact s2
    · exact s3
  exact va_gets cx.1 cx.2.1 hz hS cx.2.2.2.1 (cx.2.2.2.2.1 _ hw) (fun _ h => h) hd (K L H locs lsA hH hl hS hK h5)
theorem q_gsN {lab index : Nat} {nm host : String} (hl3 : (lab = 3 ∧ nm = "SETTING_LEAST") ∨ (lab = 4 ∧ nm = "SETTING_MOST") ∨ (lab = 5 ∧ nm = "SETTING_FIRST")) (hw : Cond.fieldLinkNest own index RX6 nm "[I" host ∈ nestW) (hd : decode cc pc = .ok (.getstatic index, 3)) : STP own cc nL mn (f_gs lab) pc := by
  intro p l e R s m args below meth c D cA n0 g0 L0 ge Z cx _ _ ls st g n hf hn h1 h2 h3 h4 h5 L H locs lsA hH hl hS hK K
  cases hf
  have hn : gK g lab = 10 := hn
  have e1 := hK.2 lab hn
  have e2 : L lab = L0 lab := (hK.1 lab ⟨by rw [e1.1]; decide, by rw [e1.1]; decide⟩).2
  have hz : va_Z RX6 nm "[I" (.ref (L lab)) (fun q => n0 ≤ q) s s.heap := by
    rw [e2]
    obtain ⟨s1, s2, s3⟩ := cx.2.2.2.2.2.2.2.2.1
    rcases hl3 with ⟨rfl, rfl⟩ | ⟨rfl, rfl⟩ | ⟨rfl, rfl⟩
    · exact s1
    · exact s2
    · exact s3
  exact va_getsN cx.1 cx.2.1 hz hS cx.2.2.2.1 (va_Nw.use rfl (cx.2.2.2.2.2.2.1.2 _ hw)) (fun _ h => h) hd (K L H locs lsA hH hl hS hK h5)
/-! arrays -/
theorem arrI {D : va_G} {cA : Nat → ClassId} {U : State} (h : KF D cA U) : ArrOfT U (cA 0) .int ∧ va_RA U (cA 0) .int := h.1.2 0 _ rfl
theorem arrC {D : va_G} {cA : Nat → ClassId} {U : State} (h : KF D cA U) : ArrOfT U (cA 1) .char ∧ va_RA U (cA 1) .char := h.1.2 1 _ rfl
theorem q_iald (hd : decode cc pc = .ok (.iaload, 1)) : STP own cc nL mn f_iald pc := by
  intro p l e R s m args below meth c D cA n0 g0 L0 ge Z cx _ _ ls st g n hf hn h1 h2 h3 h4 h5 L H locs lsA hH hl hS hK K
  unfold f_iald at hf
  split at hf
  next i a r =>
    cases hf
    obtain ⟨hn, hin⟩ : isIA g a ∧ vp_in i (gN g a) := hn
    have hlt : i.toNatClampNeg < gN g a := Nat.not_le.mp fun q => hin (Or.inr q)
    rcases hn with hn | hn
    · obtain ⟨cell, q1, q2, q3, q4, q5, -⟩ := cx.2.2.2.2.2.2.2.1.next hK (H := H) (fun q hq => hS.2.1 q (Nat.lt_of_lt_of_le hq cx.2.2.2.2.2.2.2.2.2.1) (Nat.not_le.mpr hq)) a hn
      exact W.iald (v := .int (gI g a i.toNatClampNeg)) cx.1 cx.2.1 q1 q2 q3 (by rw [q4]; exact hin) (q5 _ hlt) rfl rfl hd (K L H locs lsA hH hl hS hK h5)
    · exact W.iald (v := .int (gI g a i.toNatClampNeg)) cx.1 cx.2.1 ((hH.1 a).2.1 hn) ((arrI cx.2.2.2.2.2.2.1).1 _ _) (fun q => by cases q) (by rw [arrV_size]; exact hin) (by rw [arrV_read _ _ hlt]) rfl rfl hd (K L H locs lsA hH hl hS hK h5)
  next => cases hf
theorem q_cald (hd : decode cc pc = .ok (.caload, 1)) : STP own cc nL mn f_cald pc := by
  intro p l e R s m args below meth c D cA n0 g0 L0 ge Z cx _ _ ls st g n hf hn h1 h2 h3 h4 h5 L H locs lsA hH hl hS hK K
  unfold f_cald at hf
  split at hf
  next i a r =>
    cases hf
    obtain ⟨hn, hin⟩ : gK g a = 13 ∧ vp_in i (gN g a) := hn
    have hlt : i.toNatClampNeg < gN g a := Nat.not_le.mp fun q => hin (Or.inr q)
    exact W.cald (v := .int (gI g a i.toNatClampNeg)) cx.1 cx.2.1 ((hH.1 a).2.2.1 hn) ((arrC cx.2.2.2.2.2.2.1).1 _ _) (fun q => by cases q) (by rw [arrV_size]; exact hin) (by rw [arrV_read _ _ hlt]) rfl rfl hd (K L H locs lsA hH hl hS hK h5)
  next => cases hf
theorem HR.updI {D : va_G} {cA : Nat → ClassId} {n0 : Nat} {g : mG} {L : Nat → Nat} {H H1 : Heap} (hH : HR D cA n0 g L H) {a j : Nat} {v : Int32} {ci : ClassId} (hk : 11 ≤ gK g a ∧ gK g a ≤ 13) (hci : ci = if gK g a = 13 then cA 1 else cA 0) (e : H1[L a]? = some ((arrV ci (gN g a) (fun j => .int (gI g a j))).setSlot j (.int v))) (hz : H1.size = H.size) (hq : ∀ q, q ≠ L a → H1[q]? = H[q]?) : HR D cA n0 (pI g a j v) L H1 := by
  have hlx : lvx g a := ⟨by omega, by omega⟩
  refine hH.upd a (fun _ => rfl) (fun b hb => ⟨rfl, gI_pI_ne hb, fun _ => rfl⟩) hq hz hlx ?_ (fun k hk => hH.2.2.2.2 a k hlx hk)
  have e2 : H1[L a]? = some (arrV ci (gN g a) (fun i => .int (gI (pI g a j v) a i))) := by
    rw [e, arrV_store]
    congr 2
    funext i
    rw [gI_pI_eq]
    by_cases hi : i = j
    · rw [hi, updV_same, if_pos rfl]
    · rw [updV_ne hi, if_neg hi]
  unfold cellOK
  rw [gK_pI, gN_pI]
  refine ⟨fun q => by omega, fun q => ?_, fun q => ?_, fun q => by omega⟩
  · rw [e2, hci, if_neg (by omega)]
  · rw [e2, hci, if_pos q]
theorem q_iast (hd : decode cc pc = .ok (.iastore, 1)) : STP own cc nL mn f_iast pc := by
  intro p l e R s m args below meth c D cA n0 g0 L0 ge Z cx _ _ ls st g n hf hn h1 h2 h3 h4 h5 L H locs lsA hH hl hS hK K
  unfold f_iast at hf
  split at hf
  next v i a r =>
    cases hf
    obtain ⟨hn, hin⟩ : (gK g a = 11 ∨ gK g a = 12) ∧ vp_in i (gN g a) := hn
    have hlx : lvx g a := ⟨by omega, by omega⟩
    refine W.iast cx.1 cx.2.1 ((hH.1 a).2.1 hn) ((arrI cx.2.2.2.2.2.2.1).1 _ _) (fun q => by cases q) (by rw [arrV_size]; exact hin) rfl rfl hd fun H1 e z oq => ?_
    exact K L H1 _ lsA (hH.updI (by omega) (by rw [if_neg (by omega)]) e z oq) hl (hS.put z oq (hH.2.2.1 a hlx).1) (hK.upd (fun _ => rfl) (fun b hb => ⟨rfl, gI_pI_ne (fun q => hlx.2 (by rw [← q]; exact hb))⟩)) h5
  next => cases hf
theorem q_cast (hd : decode cc pc = .ok (.castore, 1)) : STP own cc nL mn f_cast pc := by
  intro p l e R s m args below meth c D cA n0 g0 L0 ge Z cx _ _ ls st g n hf hn h1 h2 h3 h4 h5 L H locs lsA hH hl hS hK K
  unfold f_cast at hf
  split at hf
  next v i a r =>
    cases hf
    obtain ⟨hn, hin, hnar⟩ : gK g a = 13 ∧ vp_in i (gN g a) ∧ narrow .char (.int v) = .int v := hn
    have hlx : lvx g a := ⟨by omega, by omega⟩
    refine W.cast cx.1 cx.2.1 ((hH.1 a).2.2.1 hn) ((arrC cx.2.2.2.2.2.2.1).1 _ _) (fun q => by cases q) (by rw [arrV_size]; exact hin) rfl rfl hd fun H1 e z oq => ?_
    rw [hnar] at e
    exact K L H1 _ lsA (hH.updI (by omega) (by rw [if_pos hn]) e z oq) hl (hS.put z oq (hH.2.2.1 a hlx).1) (hK.upd (fun _ => rfl) (fun b hb => ⟨rfl, gI_pI_ne (fun q => hlx.2 (by rw [← q]; exact hb))⟩)) h5
  next => cases hf
end Stores
