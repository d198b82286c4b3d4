/-! ===== the transformers are true of the machine: branches, fields, arrays, makings ===== -/
section Br
variable {own : String} {mn : String × Nat} {cc : ByteArray} {nL pc : Nat}
theorem snd_I1 {cnd : Int32 → Prop} {tgt : Nat} (row : ∀ {p : Program} {l : Launch} {e : Env} {R : Room} {s : State} {m : MethodId} {args : Array Value} {below : List Frame} {meth : Method} {c : Code} {H : Heap} {locs : List Loc} {cells slots : Nat} {Q : State → Prop} {ls : Array Slot} {rest : List Value} {x : Int32}, p.tables.exec = Jvm.exec → c.code = cc →
    (cnd x → W p l e R s m args below meth c H locs cells slots Q (F0 m tgt ls rest)) → (¬ cnd x → W p l e R s m args below meth c H locs cells slots Q (F0 m (pc + 3) ls rest)) → W p l e R s m args below meth c H locs cells slots Q (F0 m pc ls (.int x :: rest))) : SND own cc nL mn (tI1 cnd tgt) pc := by
  intro p l e R s m args below meth c D cA n0 g0 L0 ve ge Z cx hrc hrs Qf ls st g ht
  match st, ht with
  | .int x :: r, ht =>
    have hb : gC g ≤ gC ge ∧ gS g ≤ gS ge := by
      by_cases hc : cnd x
      · exact (ht.1 hc).1
      · exact (ht.2 hc).1
    exact ⟨hb, fun a1 a2 a3 L H locs lsA hH hl hS hK => row cx.1 cx.2.1 (fun hc => (ht.1 hc).2 a1 a2 a3 L H locs lsA hH hl hS hK) (fun hc => (ht.2 hc).2 a1 a2 a3 L H locs lsA hH hl hS hK)⟩
theorem snd_I2 {cnd : Int32 → Int32 → Prop} {tgt : Nat} (row : ∀ {p : Program} {l : Launch} {e : Env} {R : Room} {s : State} {m : MethodId} {args : Array Value} {below : List Frame} {meth : Method} {c : Code} {H : Heap} {locs : List Loc} {cells slots : Nat} {Q : State → Prop} {ls : Array Slot} {rest : List Value} {x y : Int32}, p.tables.exec = Jvm.exec → c.code = cc →
    (cnd x y → W p l e R s m args below meth c H locs cells slots Q (F0 m tgt ls rest)) → (¬ cnd x y → W p l e R s m args below meth c H locs cells slots Q (F0 m (pc + 3) ls rest)) → W p l e R s m args below meth c H locs cells slots Q (F0 m pc ls (.int y :: .int x :: rest))) : SND own cc nL mn (tI2 cnd tgt) pc := by
  intro p l e R s m args below meth c D cA n0 g0 L0 ve ge Z cx hrc hrs Qf ls st g ht
  match st, ht with
  | .int y :: .int x :: r, ht =>
    have hb : gC g ≤ gC ge ∧ gS g ≤ gS ge := by
      by_cases hc : cnd x y
      · exact (ht.1 hc).1
      · exact (ht.2 hc).1
    exact ⟨hb, fun a1 a2 a3 L H locs lsA hH hl hS hK => row cx.1 cx.2.1 (fun hc => (ht.1 hc).2 a1 a2 a3 L H locs lsA hH hl hS hK) (fun hc => (ht.2 hc).2 a1 a2 a3 L H locs lsA hH hl hS hK)⟩
theorem q_if_eq {off : Int} {tgt : Nat} (hd : decode cc pc = .ok (.ifCond .eq off, 3)) (ht : (pc : Int) + off = (tgt : Int)) : SND own cc nL mn (tI1 (fun x => x = 0) tgt) pc := snd_I1 (fun hx hb kt kf => lv_if_eq hx hb hd ht kt kf)
theorem q_if_ne {off : Int} {tgt : Nat} (hd : decode cc pc = .ok (.ifCond .ne off, 3)) (ht : (pc : Int) + off = (tgt : Int)) : SND own cc nL mn (tI1 (fun x => ¬ x = 0) tgt) pc := snd_I1 (fun hx hb kt kf => lv_if_ne hx hb hd ht kt (fun h => kf (fun q => q h)))
theorem q_if_lt {off : Int} {tgt : Nat} (hd : decode cc pc = .ok (.ifCond .lt off, 3)) (ht : (pc : Int) + off = (tgt : Int)) : SND own cc nL mn (tI1 (fun x => x < 0) tgt) pc := snd_I1 (fun hx hb kt kf => lv_if_lt hx hb hd ht kt kf)
theorem q_if_ge {off : Int} {tgt : Nat} (hd : decode cc pc = .ok (.ifCond .ge off, 3)) (ht : (pc : Int) + off = (tgt : Int)) : SND own cc nL mn (tI1 (fun x => 0 ≤ x) tgt) pc := snd_I1 (fun hx hb kt kf => lv_if_ge hx hb hd ht kt kf)
theorem q_if_gt {off : Int} {tgt : Nat} (hd : decode cc pc = .ok (.ifCond .gt off, 3)) (ht : (pc : Int) + off = (tgt : Int)) : SND own cc nL mn (tI1 (fun x => 0 < x) tgt) pc := snd_I1 (fun hx hb kt kf => lv_if_gt hx hb hd ht kt kf)
theorem q_if_le {off : Int} {tgt : Nat} (hd : decode cc pc = .ok (.ifCond .le off, 3)) (ht : (pc : Int) + off = (tgt : Int)) : SND own cc nL mn (tI1 (fun x => x ≤ 0) tgt) pc := snd_I1 (fun hx hb kt kf => lv_if_le hx hb hd ht kt kf)
theorem q_ic_eq {off : Int} {tgt : Nat} (hd : decode cc pc = .ok (.if_icmp .eq off, 3)) (ht : (pc : Int) + off = (tgt : Int)) : SND own cc nL mn (tI2 (fun x y => x = y) tgt) pc := snd_I2 (fun hx hb kt kf => lv_icmp_eq hx hb hd ht kt kf)
theorem q_ic_ne {off : Int} {tgt : Nat} (hd : decode cc pc = .ok (.if_icmp .ne off, 3)) (ht : (pc : Int) + off = (tgt : Int)) : SND own cc nL mn (tI2 (fun x y => ¬ x = y) tgt) pc := snd_I2 (fun hx hb kt kf => lv_icmp_ne hx hb hd ht kt (fun h => kf (fun q => q h)))
theorem q_ic_lt {off : Int} {tgt : Nat} (hd : decode cc pc = .ok (.if_icmp .lt off, 3)) (ht : (pc : Int) + off = (tgt : Int)) : SND own cc nL mn (tI2 (fun x y => x < y) tgt) pc := snd_I2 (fun hx hb kt kf => lv_icmp_lt hx hb hd ht kt kf)
theorem q_ic_ge {off : Int} {tgt : Nat} (hd : decode cc pc = .ok (.if_icmp .ge off, 3)) (ht : (pc : Int) + off = (tgt : Int)) : SND own cc nL mn (tI2 (fun x y => y ≤ x) tgt) pc := snd_I2 (fun hx hb kt kf => lv_icmp_ge hx hb hd ht kt kf)
theorem q_ic_gt {off : Int} {tgt : Nat} (hd : decode cc pc = .ok (.if_icmp .gt off, 3)) (ht : (pc : Int) + off = (tgt : Int)) : SND own cc nL mn (tI2 (fun x y => y < x) tgt) pc := snd_I2 (fun hx hb kt kf => lv_icmp_gt hx hb hd ht kt kf)
theorem q_ic_le {off : Int} {tgt : Nat} (hd : decode cc pc = .ok (.if_icmp .le off, 3)) (ht : (pc : Int) + off = (tgt : Int)) : SND own cc nL mn (tI2 (fun x y => x ≤ y) tgt) pc := snd_I2 (fun hx hb kt kf => lv_icmp_le hx hb hd ht kt kf)
end Br
/-! the heap's meaning under a change -/
theorem fv_int {g : mG} {L : Nat → Nat} {a k : Nat} (h : isRf (gK g a) k = false) : fv g L a k = .int (gI g a k) := by
  unfold fv
  rw [if_neg (fun q => by rw [q.1, q.2] at h; cases h), if_neg (by rw [h]; decide)]
theorem fv_ref {g : mG} {L : Nat → Nat} {a k : Nat} (h : isRf (gK g a) k = true) (hn : ¬ (gK g a = 5 ∧ k = 0)) : fv g L a k = rv L (gR g a k) := by
  unfold fv
  rw [if_neg hn, if_pos h]
theorem fv_Y {g : mG} {L : Nat → Nat} {a : Nat} (h : gK g a = 5) : fv g L a 0 = if gK g (a + 1) = 0 then .null else .ref (L (a + 1)) := by
  unfold fv
  rw [if_pos ⟨h, rfl⟩]
theorem rv_cong {L L' : Nat → Nat} {r : Nat} (h : r ≠ 0 → L' r = L r) : rv L' r = rv L r := by
  unfold rv
  split
  · rfl
  · rw [h (by assumption)]
theorem cellOK.cong {D : va_G} {cA : Nat → ClassId} {g g' : mG} {L L' : Nat → Nat} {H H1 : Heap} {b : Nat} (h : cellOK D cA g L H b) (e1 : gK g' b = gK g b) (e2 : gN g' b = gN g b) (e3 : gI g' b = gI g b) (e4 : ∀ k, gR g' b k = gR g b k) (eL : L' b = L b) (eR : ∀ k, gR g b k ≠ 0 → L' (gR g b k) = L (gR g b k))
    (eY : gK g b = 5 → (gK g' (b + 1) = 0 ↔ gK g (b + 1) = 0) ∧ (gK g (b + 1) ≠ 0 → L' (b + 1) = L (b + 1))) (hq : H1[L b]? = H[L b]?) : cellOK D cA g' L' H1 b := by
  obtain ⟨h1, h2, h3, h4⟩ := h
  unfold cellOK
  rw [e1, eL, e2, e3]
  refine ⟨fun hk => ((h1 hk).kept hq).to (fun k _ => ?_), fun hk => hq.trans (h2 hk), fun hk => hq.trans (h3 hk), fun hk => ?_⟩
  · unfold fv
    rw [e1, e3, e4]
    by_cases c1 : gK g b = 5 ∧ k = 0
    · obtain ⟨y1, y2⟩ := eY c1.1
      rw [if_pos c1, if_pos c1]
      by_cases c2 : gK g (b + 1) = 0
      · rw [if_pos c2, if_pos (y1.mpr c2)]
      · rw [if_neg c2, if_neg (fun q => c2 (y1.mp q)), y2 c2]
    · rw [if_neg c1, if_neg c1, rv_cong (eR k)]
  · rw [hq, h4 hk]
    congr 2
    funext j
    rw [e4, rv_cong (eR j)]
theorem HR.upd {D : va_G} {cA : Nat → ClassId} {n0 : Nat} {g g' : mG} {L : Nat → Nat} {H H1 : Heap} (hH : HR D cA n0 g L H) (a : Nat) (hK : ∀ b, gK g' b = gK g b) (hN : ∀ b, b ≠ a → gN g' b = gN g b ∧ gI g' b = gI g b ∧ ∀ k, gR g' b k = gR g b k) (hq : ∀ q, q ≠ L a → H1[q]? = H[q]?) (hsz : H1.size = H.size) (hl : lvx g a) (hc : cellOK D cA g' L H1 a)
    (hr : ∀ k, gR g' a k ≠ 0 → ok1 g (gR g' a k)) : HR D cA n0 g' L H1 := by
  obtain ⟨h1, h2, h3, h4, h5⟩ := hH
  have hlv : ∀ b, lvx g' b → lvx g b := fun b hb => ⟨by rw [← hK]; exact hb.1, by rw [← hK]; exact hb.2⟩
  refine ⟨fun b => ?_, fun b d hb hd => h2 b d (hlv b hb) (hlv d hd), fun b hb => by rw [hsz]; exact h3 b (hlv b hb), by rw [hK, hK, hK]; exact h4, fun b k hb hne => ?_⟩
  · by_cases hba : b = a
    · rw [hba]; exact hc
    · by_cases hlb : lvx g b
      · obtain ⟨e2, e3, e4⟩ := hN b hba
        exact (h1 b).cong (hK b) e2 e3 e4 rfl (fun _ _ => rfl) (fun _ => ⟨by rw [hK], fun _ => rfl⟩) (hq _ (fun q => hba (h2 b a hlb hl q)))
      · have h0 : gK g b = 0 ∨ gK g b = 10 := by
          by_cases z : gK g b = 0
          · exact Or.inl z
          · exact Or.inr (Classical.byContradiction fun w => hlb ⟨z, w⟩)
        unfold cellOK
        rw [hK]
        exact ⟨fun q => by omega, fun q => by omega, fun q => by omega, fun q => by omega⟩
  · unfold ok1
    rw [hK]
    by_cases hba : b = a
    · rw [hba] at hne ⊢
      exact hr k hne
    · obtain ⟨-, -, e4⟩ := hN b hba
      rw [e4] at hne ⊢
      exact h5 b k (hlv b hb) hne
theorem Kp.upd {g0 g g' : mG} {L0 L : Nat → Nat} (h : Kp g0 L0 g L) (hK : ∀ b, gK g' b = gK g b) (hN : ∀ b, gK g b = 10 → gN g' b = gN g b ∧ gI g' b = gI g b) : Kp g0 L0 g' L := by
  refine ⟨fun a ha => ⟨by unfold ok1; rw [hK]; exact (h.1 a ha).1, (h.1 a ha).2⟩, fun a ha => ?_⟩
  rw [hK] at ha
  obtain ⟨e1, e2, e3⟩ := h.2 a ha
  obtain ⟨f1, f2⟩ := hN a ha
  exact ⟨e1, f1.trans e2, f2.trans e3⟩
section Flds
variable {own : String} {mn : String × Nat} {cc : ByteArray} {nL pc : Nat}
theorem q_gI {kd k index : Nat} (hkd : 1 ≤ kd ∧ kd ≤ 8) (hk : k < xn kd) (hnr : isRf kd k = false) (hw : Cond.fieldLink own index (xT kd k).1 (xT kd k).2.1 (xT kd k).2.2.1 ∈ tw) (hd : decode cc pc = .ok (.getfield index, 3)) : STP own cc nL mn (f_gI kd k) pc := by
  intro p l e R s m args below meth c D cA n0 g0 L0 ge Z cx _ _ ls st g n hf hn h1 h2 h3 h4 h5 L H locs lsA hH hl hS hK K
  unfold f_gI at hf
  split at hf
  next a r =>
    cases hf
    have hn : gK g a = kd := hn
    have hob := (hH.1 a).1 (by rw [hn]; exact hkd)
    rw [hn] at hob
    obtain ⟨cell, q1, q2, q3, q4⟩ := hob
    obtain ⟨hS', hfc, kC, hkC, hkind⟩ := cx.2.2.2.2.2.2.1.1.1 (kd - 1) _ (mcl_at hkd)
    obtain ⟨cf, kf, fi, f, hi, hsl⟩ := hS' k hk
    refine W.getf cx.1 cx.2.1 cx.2.2.2.1 (cx.2.2.2.2.1 _ hw) hi (u_facts hfc hkC (u_lays cx.2.2.2.2.1 (xin hkd) hk) hi).1 q1 (by rw [q3]; exact fun h => by cases h) (v := .int (gI g a k)) ?_ rfl rfl hd (K L H locs lsA hH hl hS hK h5)
    rw [hsl, q4 k hk, fv_int (by rw [hn]; exact hnr)]
  next => cases hf
theorem q_gR {kd k index : Nat} (hkd : 1 ≤ kd ∧ kd ≤ 8) (hk : k < xn kd) (hnr : isRf kd k = true) (hny : ¬ (kd = 5 ∧ k = 0)) (hw : Cond.fieldLink own index (xT kd k).1 (xT kd k).2.1 (xT kd k).2.2.1 ∈ tw) (hd : decode cc pc = .ok (.getfield index, 3)) : STP own cc nL mn (f_gR kd k) pc := by
  intro p l e R s m args below meth c D cA n0 g0 L0 ge Z cx _ _ ls st g n hf hn h1 h2 h3 h4 h5 L H locs lsA hH hl hS hK K
  unfold f_gR at hf
  split at hf
  next a r =>
    cases hf
    have hn : gK g a = kd ∧ gR g a k ≠ 0 := hn
    have hob := (hH.1 a).1 (by rw [hn.1]; exact hkd)
    rw [hn.1] at hob
    obtain ⟨cell, q1, q2, q3, q4⟩ := hob
    obtain ⟨hS', hfc, kC, hkC, hkind⟩ := cx.2.2.2.2.2.2.1.1.1 (kd - 1) _ (mcl_at hkd)
    obtain ⟨cf, kf, fi, f, hi, hsl⟩ := hS' k hk
    refine W.getf cx.1 cx.2.1 cx.2.2.2.1 (cx.2.2.2.2.1 _ hw) hi (u_facts hfc hkC (u_lays cx.2.2.2.2.1 (xin hkd) hk) hi).1 q1 (by rw [q3]; exact fun h => by cases h) (v := .ref (L (gR g a k))) ?_ rfl rfl hd (K L H locs lsA hH hl hS hK h5)
    rw [hsl, q4 k hk, fv_ref (by rw [hn.1]; exact hnr) (by rw [hn.1]; exact hny), rv, if_neg hn.2]
  next => cases hf
theorem q_gY {index : Nat} (hw : Cond.fieldLink own index (xT 5 0).1 (xT 5 0).2.1 (xT 5 0).2.2.1 ∈ tw) (hd : decode cc pc = .ok (.getfield index, 3)) : STP own cc nL mn f_gY pc := by
  intro p l e R s m args below meth c D cA n0 g0 L0 ge Z cx _ _ ls st g n hf hn h1 h2 h3 h4 h5 L H locs lsA hH hl hS hK K
  have hkd : 1 ≤ 5 ∧ 5 ≤ 8 := by decide
  have hk : 0 < xn 5 := by decide
  unfold f_gY at hf
  split at hf
  next a r =>
    cases hf
    have hn : gK g a = 5 ∧ gK g (a + 1) = 12 := hn
    have hob := (hH.1 a).1 (by rw [hn.1]; exact hkd)
    rw [hn.1] at hob
    obtain ⟨cell, q1, q2, q3, q4⟩ := hob
    obtain ⟨hS', hfc, kC, hkC, hkind⟩ := cx.2.2.2.2.2.2.1.1.1 (5 - 1) _ (mcl_at hkd)
    obtain ⟨cf, kf, fi, f, hi, hsl⟩ := hS' 0 hk
    refine W.getf cx.1 cx.2.1 cx.2.2.2.1 (cx.2.2.2.2.1 _ hw) hi (u_facts hfc hkC (u_lays cx.2.2.2.2.1 (xin hkd) hk) hi).1 q1 (by rw [q3]; exact fun h => by cases h) (v := .ref (L (a + 1))) ?_ rfl rfl hd (K L H locs lsA hH hl hS hK h5)
    rw [hsl, q4 0 hk, fv_Y hn.1, if_neg (by rw [hn.2]; decide)]
  next => cases hf
/-- a store in a field: what the machine does -/
theorem put_row {kd k index : Nat} (hkd : 1 ≤ kd ∧ kd ≤ 8) (hk : k < xn kd) (hfin : (xT kd k).2.2.2 = false ∨ (own = (xT kd k).1 ∧ (xT kd k).2.2.2 = true)) (hw : Cond.fieldLink own index (xT kd k).1 (xT kd k).2.1 (xT kd k).2.2.1 ∈ tw) (hd : decode cc pc = .ok (.putfield index, 3))
    {p : Program} {l : Launch} {e : Env} {R : Room} {s : State} {m : MethodId} {args : Array Value} {below : List Frame} {meth : Method} {c : Code} {D : va_G} {cA : Nat → ClassId} {n0 : Nat} {g0 : mG} {L0 : Nat → Nat} (cx : CX p l e R s m args below meth c D cA n0 g0 L0 own cc nL mn) (hini : (xT kd k).2.2.2 = true → mn.1 = "<init>")
    {o : Nat} {V : Nat → Value} {H : Heap} {locs : List Loc} {cells slots : Nat} {Q : State → Prop} {ls : Array Slot} {rest : List Value} {v : Value} (hob : t_OB o (D.1 (kd - 1)) (xn kd) (D.2 (kd - 1)) H V) (hn : narrow (xty kd k) v = v) (hft : fits (xty kd k) v = true)
    (kk : ∀ (H1 : Heap) (j : Nat), t_OB o (D.1 (kd - 1)) (xn kd) (D.2 (kd - 1)) H1 (updV V k v) → H1.size = H.size → (∀ q, q ≠ o → H1[q]? = H[q]?) → W p l e R s m args below meth c H1 (locs ++ [⟨o, j⟩]) cells slots Q (F0 m (pc + 3) ls rest)) :
    W p l e R s m args below meth c H locs cells slots Q (F0 m pc ls (v :: .ref o :: rest)) := by
  obtain ⟨hx, hb, -, hown, hts, -, ⟨hKc, -⟩, -, -, -, -, -, hmn⟩ := cx
  have hap := va_apart (own := own) hts (xin hkd) (xty kd) (xty_ok hkd) (xnm hkd) hKc (mcl_at hkd)
  obtain ⟨cell, q1, q2, q3, q4⟩ := hob
  obtain ⟨hS', hfc, kC, hkC, hkind⟩ := hKc.1 (kd - 1) _ (mcl_at hkd)
  obtain ⟨cf, kf, fi, f, hi, hsl⟩ := hS' k hk
  have hlay := hts _ (xin hkd _ (u_in_lay hk))
  have hst := (u_facts hfc hkC (u_lays hts (xin hkd) hk) hi).1
  unfold u_lay at hlay
  rcases hfin with hfin | ⟨hdecl, hfin⟩
  · rw [if_neg (by rw [hfin]; decide)] at hlay
    have h6 := u_store hfc hkC hkind hlay hi (xty_ok hkd k hk) hn hft
    refine W.putK hx hb (f := f) ⟨hown, hts _ hw, ⟨_, _, _, hi⟩, hst⟩ (by rw [q2]; exact h6) q1 q3 (by rw [hsl]; exact k2_hasslot (q4 k hk)) rfl rfl hd fun H' e1 e2 e3 => ?_
    rw [hsl] at e1
    exact kk H' _ ⟨_, e1, q2, q3, t_set q4 hap hk v⟩ e2 e3
  · rw [if_pos hfin] at hlay
    have hcf : m.cls = cf := by
      obtain ⟨_, _, c', _, _, _, -, -, hf', -, -, -, hown2, -⟩ := Cond.laysFinal_spec hlay
      have e1 : c' = cf := by have := hi.symm.trans hf'; simp at this; exact this.1.symm
      rw [← hdecl] at hown2
      rw [← e1]; exact Option.some.inj (hown.symm.trans hown2)
    have h6 := u_fits hfc hkC hkind (Or.inr hlay) hi (xty_ok hkd k hk) hn hft
    refine W.putFinK hx hb hown (hts _ hw) hi hst hcf (hmn.1.trans (hini hfin)) (by rw [q2]; exact h6) q1 q3 (by rw [hsl]; exact k2_hasslot (q4 k hk)) rfl rfl hd fun H' e1 e2 e3 => ?_
    rw [hsl] at e1
    exact kk H' _ ⟨_, e1, q2, q3, t_set q4 hap hk v⟩ e2 e3
end Flds
