/-! ===== programs ===== -/
/-! KilnPermits.pushSpare()V -/
def m_X6_pushSpare : List (Nat × mT) := [(0, tD (f_al 0 1)),
  (1, tD (f_gR 7 4)),
  (4, tD (f_al 0 1)),
  (5, tD (f_gR 7 4)),
  (8, tD (f_alen)),
  (9, tD (f_ic (nI 1) 1)),
  (10, tD (f_b2 fun x y => x - y)),
  (11, tD (f_aald 17)),
  (12, tD (f_as 1 1)),
  (13, tD (f_al 0 1)),
  (14, tD (f_gR 7 4)),
  (17, tD (f_alen)),
  (18, tD (f_ic (nI 1) 1)),
  (19, tD (f_b2 fun x y => x - y)),
  (20, tD (f_is 2 1)),
  (21, tD (f_il 2 1)),
  (22, tI1 (fun x => x ≤ 0) 45),
  (25, tD (f_al 0 1)),
  (26, tD (f_gR 7 4)),
  (29, tD (f_il 2 1)),
  (30, tD (f_al 0 1)),
  (31, tD (f_gR 7 4)),
  (34, tD (f_il 2 1)),
  (35, tD (f_ic (nI 1) 1)),
  (36, tD (f_b2 fun x y => x - y)),
  (37, tD (f_aald 17)),
  (38, tD (f_aast 17 (ekd 17))),
  (39, tD (f_inc 2 ((-1)))),
  (42, tD (f_goto 21)),
  (45, tD (f_al 0 1)),
  (46, tD (f_gR 7 4)),
  (49, tD (f_ic (nI 0) 1)),
  (50, tD (f_al 0 1)),
  (51, tD (f_gR 7 1)),
  (54, tD (f_aast 17 (ekd 17))),
  (55, tD (f_al 0 1)),
  (56, tD (f_al 1 1)),
  (57, tD (f_pR 7 1)),
  (60, tD (f_al 0 1)),
  (61, tD (f_al 0 1)),
  (62, tD (f_gI 7 5)),
  (65, tD (f_ic (nI 1) 1)),
  (66, tD (f_b2 fun x y => x + y)),
  (67, tD (f_al 0 1)),
  (68, tD (f_gR 7 4)),
  (71, tD (f_alen)),
  (72, tD (f_min)),
  (75, tD (f_pI 7 5)),
  (78, tR f_ret)]
abbrev w_X6_pushSpare : mS := wm m_X6_pushSpare 1 2
set_option maxRecDepth 100000 in
theorem lo_X6_pushSpare : locs_ok m_X6_pushSpare := List.forall_mem_cons.mpr ⟨loc_D mo_al,
  List.forall_mem_cons.mpr ⟨loc_D mo_gR,
  List.forall_mem_cons.mpr ⟨loc_D mo_al,
  List.forall_mem_cons.mpr ⟨loc_D mo_gR,
  List.forall_mem_cons.mpr ⟨loc_D mo_alen,
  List.forall_mem_cons.mpr ⟨loc_D mo_ic,
  List.forall_mem_cons.mpr ⟨loc_D mo_b2,
  List.forall_mem_cons.mpr ⟨loc_D mo_aald,
  List.forall_mem_cons.mpr ⟨loc_D mo_as,
  List.forall_mem_cons.mpr ⟨loc_D mo_al,
  List.forall_mem_cons.mpr ⟨loc_D mo_gR,
  List.forall_mem_cons.mpr ⟨loc_D mo_alen,
  List.forall_mem_cons.mpr ⟨loc_D mo_ic,
  List.forall_mem_cons.mpr ⟨loc_D mo_b2,
  List.forall_mem_cons.mpr ⟨loc_D mo_is,
  List.forall_mem_cons.mpr ⟨loc_D mo_il,
  List.forall_mem_cons.mpr ⟨loc_I1,
  List.forall_mem_cons.mpr ⟨loc_D mo_al,
  List.forall_mem_cons.mpr ⟨loc_D mo_gR,
  List.forall_mem_cons.mpr ⟨loc_D mo_il,
  List.forall_mem_cons.mpr ⟨loc_D mo_al,
  List.forall_mem_cons.mpr ⟨loc_D mo_gR,
  List.forall_mem_cons.mpr ⟨loc_D mo_il,
  List.forall_mem_cons.mpr ⟨loc_D mo_ic,
  List.forall_mem_cons.mpr ⟨loc_D mo_b2,
  List.forall_mem_cons.mpr ⟨loc_D mo_aald,
  List.forall_mem_cons.mpr ⟨loc_D mo_aast,
  List.forall_mem_cons.mpr ⟨loc_D mo_inc,
  List.forall_mem_cons.mpr ⟨loc_D mo_goto,
  List.forall_mem_cons.mpr ⟨loc_D mo_al,
  List.forall_mem_cons.mpr ⟨loc_D mo_gR,
  List.forall_mem_cons.mpr ⟨loc_D mo_ic,
  List.forall_mem_cons.mpr ⟨loc_D mo_al,
  List.forall_mem_cons.mpr ⟨loc_D mo_gR,
  List.forall_mem_cons.mpr ⟨loc_D mo_aast,
  List.forall_mem_cons.mpr ⟨loc_D mo_al,
  List.forall_mem_cons.mpr ⟨loc_D mo_al,
  List.forall_mem_cons.mpr ⟨loc_D mo_pR,
  List.forall_mem_cons.mpr ⟨loc_D mo_al,
  List.forall_mem_cons.mpr ⟨loc_D mo_al,
  List.forall_mem_cons.mpr ⟨loc_D mo_gI,
  List.forall_mem_cons.mpr ⟨loc_D mo_ic,
  List.forall_mem_cons.mpr ⟨loc_D mo_b2,
  List.forall_mem_cons.mpr ⟨loc_D mo_al,
  List.forall_mem_cons.mpr ⟨loc_D mo_gR,
  List.forall_mem_cons.mpr ⟨loc_D mo_alen,
  List.forall_mem_cons.mpr ⟨loc_D mo_min,
  List.forall_mem_cons.mpr ⟨loc_D mo_pI,
  List.forall_mem_cons.mpr ⟨loc_R,
  fun _ h => absurd h List.not_mem_nil⟩⟩⟩⟩⟩⟩⟩⟩⟩⟩⟩⟩⟩⟩⟩⟩⟩⟩⟩⟩⟩⟩⟩⟩⟩⟩⟩⟩⟩⟩⟩⟩⟩⟩⟩⟩⟩⟩⟩⟩⟩⟩⟩⟩⟩⟩⟩⟩⟩
set_option maxRecDepth 100000 in
theorem sm_X6_pushSpare : SM yX6_pushSpare cX6_pushSpare 3 none 1 w_X6_pushSpare := SM_of' RX6 "pushSpare" rfl rfl (by decide) (by decide) (by decide) lo_X6_pushSpare (List.forall_mem_cons.mpr ⟨STP.r mo_al (q_aload_n dX6_pushSpare_0 rfl),
  List.forall_mem_cons.mpr ⟨STP.r mo_gR (q_gR ⟨by decide, by decide⟩ (by decide) rfl (by decide) kf_X6_22 dX6_pushSpare_1),
  List.forall_mem_cons.mpr ⟨STP.r mo_al (q_aload_n dX6_pushSpare_4 rfl),
  List.forall_mem_cons.mpr ⟨STP.r mo_gR (q_gR ⟨by decide, by decide⟩ (by decide) rfl (by decide) kf_X6_22 dX6_pushSpare_5),
  List.forall_mem_cons.mpr ⟨STP.r mo_alen (q_alen dX6_pushSpare_8),
  List.forall_mem_cons.mpr ⟨STP.r mo_ic (q_iconst dX6_pushSpare_9 (by decide)),
  List.forall_mem_cons.mpr ⟨STP.r mo_b2 (q_isub dX6_pushSpare_10),
  List.forall_mem_cons.mpr ⟨STP.r mo_aald (q_aald ⟨by decide, by decide⟩ dX6_pushSpare_11),
  List.forall_mem_cons.mpr ⟨STP.r mo_as (q_astore_n dX6_pushSpare_12 rfl),
  List.forall_mem_cons.mpr ⟨STP.r mo_al (q_aload_n dX6_pushSpare_13 rfl),
  List.forall_mem_cons.mpr ⟨STP.r mo_gR (q_gR ⟨by decide, by decide⟩ (by decide) rfl (by decide) kf_X6_22 dX6_pushSpare_14),
  List.forall_mem_cons.mpr ⟨STP.r mo_alen (q_alen dX6_pushSpare_17),
  List.forall_mem_cons.mpr ⟨STP.r mo_ic (q_iconst dX6_pushSpare_18 (by decide)),
  List.forall_mem_cons.mpr ⟨STP.r mo_b2 (q_isub dX6_pushSpare_19),
  List.forall_mem_cons.mpr ⟨STP.r mo_is (q_istore_n dX6_pushSpare_20 rfl),
  List.forall_mem_cons.mpr ⟨STP.r mo_il (q_iload_n dX6_pushSpare_21 rfl),
  List.forall_mem_cons.mpr ⟨(q_if_le dX6_pushSpare_22 (by decide)).r,
  List.forall_mem_cons.mpr ⟨STP.r mo_al (q_aload_n dX6_pushSpare_25 rfl),
  List.forall_mem_cons.mpr ⟨STP.r mo_gR (q_gR ⟨by decide, by decide⟩ (by decide) rfl (by decide) kf_X6_22 dX6_pushSpare_26),
  List.forall_mem_cons.mpr ⟨STP.r mo_il (q_iload_n dX6_pushSpare_29 rfl),
  List.forall_mem_cons.mpr ⟨STP.r mo_al (q_aload_n dX6_pushSpare_30 rfl),
  List.forall_mem_cons.mpr ⟨STP.r mo_gR (q_gR ⟨by decide, by decide⟩ (by decide) rfl (by decide) kf_X6_22 dX6_pushSpare_31),
  List.forall_mem_cons.mpr ⟨STP.r mo_il (q_iload_n dX6_pushSpare_34 rfl),
  List.forall_mem_cons.mpr ⟨STP.r mo_ic (q_iconst dX6_pushSpare_35 (by decide)),
  List.forall_mem_cons.mpr ⟨STP.r mo_b2 (q_isub dX6_pushSpare_36),
  List.forall_mem_cons.mpr ⟨STP.r mo_aald (q_aald ⟨by decide, by decide⟩ dX6_pushSpare_37),
  List.forall_mem_cons.mpr ⟨STP.r mo_aast (q_aast ⟨by decide, by decide⟩ dX6_pushSpare_38),
  List.forall_mem_cons.mpr ⟨STP.r mo_inc (q_inc dX6_pushSpare_39 (by decide)),
  List.forall_mem_cons.mpr ⟨STP.r mo_goto (q_goto dX6_pushSpare_42 (by decide)),
  List.forall_mem_cons.mpr ⟨STP.r mo_al (q_aload_n dX6_pushSpare_45 rfl),
  List.forall_mem_cons.mpr ⟨STP.r mo_gR (q_gR ⟨by decide, by decide⟩ (by decide) rfl (by decide) kf_X6_22 dX6_pushSpare_46),
  List.forall_mem_cons.mpr ⟨STP.r mo_ic (q_iconst dX6_pushSpare_49 (by decide)),
  List.forall_mem_cons.mpr ⟨STP.r mo_al (q_aload_n dX6_pushSpare_50 rfl),
  List.forall_mem_cons.mpr ⟨STP.r mo_gR (q_gR ⟨by decide, by decide⟩ (by decide) rfl (by decide) kf_X6_16 dX6_pushSpare_51),
  List.forall_mem_cons.mpr ⟨STP.r mo_aast (q_aast ⟨by decide, by decide⟩ dX6_pushSpare_54),
  List.forall_mem_cons.mpr ⟨STP.r mo_al (q_aload_n dX6_pushSpare_55 rfl),
  List.forall_mem_cons.mpr ⟨STP.r mo_al (q_aload_n dX6_pushSpare_56 rfl),
  List.forall_mem_cons.mpr ⟨STP.r mo_pR (q_pR ⟨by decide, by decide⟩ (by decide) rfl (by decide) (Or.inl rfl) (fun h => absurd h (by decide)) kf_X6_16 dX6_pushSpare_57),
  List.forall_mem_cons.mpr ⟨STP.r mo_al (q_aload_n dX6_pushSpare_60 rfl),
  List.forall_mem_cons.mpr ⟨STP.r mo_al (q_aload_n dX6_pushSpare_61 rfl),
  List.forall_mem_cons.mpr ⟨STP.r mo_gI (q_gI ⟨by decide, by decide⟩ (by decide) rfl kf_X6_153 dX6_pushSpare_62),
  List.forall_mem_cons.mpr ⟨STP.r mo_ic (q_iconst dX6_pushSpare_65 (by decide)),
  List.forall_mem_cons.mpr ⟨STP.r mo_b2 (q_iadd dX6_pushSpare_66),
  List.forall_mem_cons.mpr ⟨STP.r mo_al (q_aload_n dX6_pushSpare_67 rfl),
  List.forall_mem_cons.mpr ⟨STP.r mo_gR (q_gR ⟨by decide, by decide⟩ (by decide) rfl (by decide) kf_X6_22 dX6_pushSpare_68),
  List.forall_mem_cons.mpr ⟨STP.r mo_alen (q_alen dX6_pushSpare_71),
  List.forall_mem_cons.mpr ⟨STP.r mo_min (q_min km_X6_252 kz_mins kz_mi kz_minc dX6_pushSpare_72),
  List.forall_mem_cons.mpr ⟨STP.r mo_pI (q_pI ⟨by decide, by decide⟩ (by decide) rfl rfl kf_X6_153 dX6_pushSpare_75),
  List.forall_mem_cons.mpr ⟨r_ret dX6_pushSpare_78,
  fun _ h => absurd h List.not_mem_nil⟩⟩⟩⟩⟩⟩⟩⟩⟩⟩⟩⟩⟩⟩⟩⟩⟩⟩⟩⟩⟩⟩⟩⟩⟩⟩⟩⟩⟩⟩⟩⟩⟩⟩⟩⟩⟩⟩⟩⟩⟩⟩⟩⟩⟩⟩⟩⟩⟩)
theorem e_X6_pushSpare_0 {Q : mQ} {l1 l2 : Value} {st : List Value} {g : mG} {x : Nat} : WP m_X6_pushSpare Q 0 [.ref x, l1, l2] st g = WP m_X6_pushSpare Q 1 [.ref x, l1, l2] (.ref x :: st) g := E_al (i := 0) (n := 1) lo_X6_pushSpare rfl rfl
theorem e_X6_pushSpare_1 {Q : mQ} {ls st : List Value} {g : mG} {a : Nat} : WP m_X6_pushSpare Q 1 ls (.ref a :: st) g = ((gK g a = 7 ∧ gR g a 4 ≠ 0) ∧ WP m_X6_pushSpare Q 4 ls (.ref (gR g a 4) :: st) g) := E_gR lo_X6_pushSpare rfl
theorem e_X6_pushSpare_4 {Q : mQ} {l1 l2 : Value} {st : List Value} {g : mG} {x : Nat} : WP m_X6_pushSpare Q 4 [.ref x, l1, l2] st g = WP m_X6_pushSpare Q 5 [.ref x, l1, l2] (.ref x :: st) g := E_al (i := 0) (n := 1) lo_X6_pushSpare rfl rfl
theorem e_X6_pushSpare_5 {Q : mQ} {ls st : List Value} {g : mG} {a : Nat} : WP m_X6_pushSpare Q 5 ls (.ref a :: st) g = ((gK g a = 7 ∧ gR g a 4 ≠ 0) ∧ WP m_X6_pushSpare Q 8 ls (.ref (gR g a 4) :: st) g) := E_gR lo_X6_pushSpare rfl
theorem e_X6_pushSpare_8 {Q : mQ} {ls st : List Value} {g : mG} {a : Nat} : WP m_X6_pushSpare Q 8 ls (.ref a :: st) g = ((10 ≤ gK g a ∧ gK g a ≤ 17) ∧ WP m_X6_pushSpare Q 9 ls (.int (nI (gN g a)) :: st) g) := E_alen lo_X6_pushSpare rfl
theorem e_X6_pushSpare_9 {Q : mQ} {ls st : List Value} {g : mG} : WP m_X6_pushSpare Q 9 ls st g = WP m_X6_pushSpare Q 10 ls (.int (nI 1) :: st) g := E_ic (v := nI 1) (n := 1) lo_X6_pushSpare rfl
theorem e_X6_pushSpare_10 {Q : mQ} {ls st : List Value} {g : mG} {x y : Int32} : WP m_X6_pushSpare Q 10 ls (.int y :: .int x :: st) g = WP m_X6_pushSpare Q 11 ls (.int (x - y) :: st) g := E_b2 (f := fun x y => x - y) lo_X6_pushSpare rfl
theorem e_X6_pushSpare_11 {Q : mQ} {ls st : List Value} {g : mG} {a : Nat} {i : Int32} : WP m_X6_pushSpare Q 11 ls (.int i :: .ref a :: st) g = ((gK g a = 17 ∧ vp_in i (gN g a) ∧ gR g a i.toNatClampNeg ≠ 0) ∧ WP m_X6_pushSpare Q 12 ls (.ref (gR g a i.toNatClampNeg) :: st) g) := E_aald lo_X6_pushSpare rfl
theorem e_X6_pushSpare_12 {Q : mQ} {l0 l1 l2 : Value} {st : List Value} {g : mG} {x : Nat} : WP m_X6_pushSpare Q 12 [l0, l1, l2] (.ref x :: st) g = (nl1 l0 ∧ WP m_X6_pushSpare Q 13 [l0, .ref x, l2] st g) := E_as (i := 1) (n := 1) lo_X6_pushSpare rfl (Nat.le_of_ble_eq_true rfl)
theorem e_X6_pushSpare_12n {Q : mQ} {l0 l1 l2 : Value} {st : List Value} {g : mG} : WP m_X6_pushSpare Q 12 [l0, l1, l2] (.null :: st) g = (nl1 l0 ∧ WP m_X6_pushSpare Q 13 [l0, .null, l2] st g) := E_asn (i := 1) (n := 1) lo_X6_pushSpare rfl (Nat.le_of_ble_eq_true rfl)
theorem e_X6_pushSpare_13 {Q : mQ} {l1 l2 : Value} {st : List Value} {g : mG} {x : Nat} : WP m_X6_pushSpare Q 13 [.ref x, l1, l2] st g = WP m_X6_pushSpare Q 14 [.ref x, l1, l2] (.ref x :: st) g := E_al (i := 0) (n := 1) lo_X6_pushSpare rfl rfl
theorem e_X6_pushSpare_14 {Q : mQ} {ls st : List Value} {g : mG} {a : Nat} : WP m_X6_pushSpare Q 14 ls (.ref a :: st) g = ((gK g a = 7 ∧ gR g a 4 ≠ 0) ∧ WP m_X6_pushSpare Q 17 ls (.ref (gR g a 4) :: st) g) := E_gR lo_X6_pushSpare rfl
theorem e_X6_pushSpare_17 {Q : mQ} {ls st : List Value} {g : mG} {a : Nat} : WP m_X6_pushSpare Q 17 ls (.ref a :: st) g = ((10 ≤ gK g a ∧ gK g a ≤ 17) ∧ WP m_X6_pushSpare Q 18 ls (.int (nI (gN g a)) :: st) g) := E_alen lo_X6_pushSpare rfl
theorem e_X6_pushSpare_18 {Q : mQ} {ls st : List Value} {g : mG} : WP m_X6_pushSpare Q 18 ls st g = WP m_X6_pushSpare Q 19 ls (.int (nI 1) :: st) g := E_ic (v := nI 1) (n := 1) lo_X6_pushSpare rfl
theorem e_X6_pushSpare_19 {Q : mQ} {ls st : List Value} {g : mG} {x y : Int32} : WP m_X6_pushSpare Q 19 ls (.int y :: .int x :: st) g = WP m_X6_pushSpare Q 20 ls (.int (x - y) :: st) g := E_b2 (f := fun x y => x - y) lo_X6_pushSpare rfl
theorem e_X6_pushSpare_20 {Q : mQ} {l0 l1 l2 : Value} {st : List Value} {g : mG} {x : Int32} : WP m_X6_pushSpare Q 20 [l0, l1, l2] (.int x :: st) g = (nl1 l1 ∧ WP m_X6_pushSpare Q 21 [l0, l1, .int x] st g) := E_is (i := 2) (n := 1) lo_X6_pushSpare rfl (Nat.le_of_ble_eq_true rfl)
theorem e_X6_pushSpare_21 {Q : mQ} {l0 l1 : Value} {st : List Value} {g : mG} {x : Int32} : WP m_X6_pushSpare Q 21 [l0, l1, .int x] st g = WP m_X6_pushSpare Q 22 [l0, l1, .int x] (.int x :: st) g := E_il (i := 2) (n := 1) lo_X6_pushSpare rfl rfl
theorem e_X6_pushSpare_22 {Q : mQ} {ls st : List Value} {g : mG} {x : Int32} : WP m_X6_pushSpare Q 22 ls (.int x :: st) g = ((x ≤ 0 → WP m_X6_pushSpare Q 45 ls st g) ∧ (¬ (x ≤ 0) → WP m_X6_pushSpare Q 25 ls st g)) := E_I1 (c := fun x => x ≤ 0) (t := 45) lo_X6_pushSpare rfl
theorem e_X6_pushSpare_25 {Q : mQ} {l1 l2 : Value} {st : List Value} {g : mG} {x : Nat} : WP m_X6_pushSpare Q 25 [.ref x, l1, l2] st g = WP m_X6_pushSpare Q 26 [.ref x, l1, l2] (.ref x :: st) g := E_al (i := 0) (n := 1) lo_X6_pushSpare rfl rfl
theorem e_X6_pushSpare_26 {Q : mQ} {ls st : List Value} {g : mG} {a : Nat} : WP m_X6_pushSpare Q 26 ls (.ref a :: st) g = ((gK g a = 7 ∧ gR g a 4 ≠ 0) ∧ WP m_X6_pushSpare Q 29 ls (.ref (gR g a 4) :: st) g) := E_gR lo_X6_pushSpare rfl
theorem e_X6_pushSpare_29 {Q : mQ} {l0 l1 : Value} {st : List Value} {g : mG} {x : Int32} : WP m_X6_pushSpare Q 29 [l0, l1, .int x] st g = WP m_X6_pushSpare Q 30 [l0, l1, .int x] (.int x :: st) g := E_il (i := 2) (n := 1) lo_X6_pushSpare rfl rfl
theorem e_X6_pushSpare_30 {Q : mQ} {l1 l2 : Value} {st : List Value} {g : mG} {x : Nat} : WP m_X6_pushSpare Q 30 [.ref x, l1, l2] st g = WP m_X6_pushSpare Q 31 [.ref x, l1, l2] (.ref x :: st) g := E_al (i := 0) (n := 1) lo_X6_pushSpare rfl rfl
theorem e_X6_pushSpare_31 {Q : mQ} {ls st : List Value} {g : mG} {a : Nat} : WP m_X6_pushSpare Q 31 ls (.ref a :: st) g = ((gK g a = 7 ∧ gR g a 4 ≠ 0) ∧ WP m_X6_pushSpare Q 34 ls (.ref (gR g a 4) :: st) g) := E_gR lo_X6_pushSpare rfl
theorem e_X6_pushSpare_34 {Q : mQ} {l0 l1 : Value} {st : List Value} {g : mG} {x : Int32} : WP m_X6_pushSpare Q 34 [l0, l1, .int x] st g = WP m_X6_pushSpare Q 35 [l0, l1, .int x] (.int x :: st) g := E_il (i := 2) (n := 1) lo_X6_pushSpare rfl rfl
theorem e_X6_pushSpare_35 {Q : mQ} {ls st : List Value} {g : mG} : WP m_X6_pushSpare Q 35 ls st g = WP m_X6_pushSpare Q 36 ls (.int (nI 1) :: st) g := E_ic (v := nI 1) (n := 1) lo_X6_pushSpare rfl
theorem e_X6_pushSpare_36 {Q : mQ} {ls st : List Value} {g : mG} {x y : Int32} : WP m_X6_pushSpare Q 36 ls (.int y :: .int x :: st) g = WP m_X6_pushSpare Q 37 ls (.int (x - y) :: st) g := E_b2 (f := fun x y => x - y) lo_X6_pushSpare rfl
theorem e_X6_pushSpare_37 {Q : mQ} {ls st : List Value} {g : mG} {a : Nat} {i : Int32} : WP m_X6_pushSpare Q 37 ls (.int i :: .ref a :: st) g = ((gK g a = 17 ∧ vp_in i (gN g a) ∧ gR g a i.toNatClampNeg ≠ 0) ∧ WP m_X6_pushSpare Q 38 ls (.ref (gR g a i.toNatClampNeg) :: st) g) := E_aald lo_X6_pushSpare rfl
theorem e_X6_pushSpare_38 {Q : mQ} {ls st : List Value} {g : mG} {a v : Nat} {i : Int32} : WP m_X6_pushSpare Q 38 ls (.ref v :: .int i :: .ref a :: st) g = ((gK g a = 17 ∧ vp_in i (gN g a) ∧ gK g v = 6 ∧ v ≠ 0) ∧ WP m_X6_pushSpare Q 39 ls st (pR g a i.toNatClampNeg v)) := E_aast lo_X6_pushSpare rfl
theorem e_X6_pushSpare_39 {Q : mQ} {l0 l1 : Value} {st : List Value} {g : mG} {x : Int32} : WP m_X6_pushSpare Q 39 [l0, l1, .int x] st g = (nl1 l1 ∧ WP m_X6_pushSpare Q 42 [l0, l1, .int (x + (-1))] st g) := E_inc (i := 2) (d := (-1)) lo_X6_pushSpare rfl rfl
theorem e_X6_pushSpare_42 {Q : mQ} {ls st : List Value} {g : mG} : WP m_X6_pushSpare Q 42 ls st g = WP m_X6_pushSpare Q 21 ls st g := E_goto lo_X6_pushSpare rfl
theorem e_X6_pushSpare_45 {Q : mQ} {l1 l2 : Value} {st : List Value} {g : mG} {x : Nat} : WP m_X6_pushSpare Q 45 [.ref x, l1, l2] st g = WP m_X6_pushSpare Q 46 [.ref x, l1, l2] (.ref x :: st) g := E_al (i := 0) (n := 1) lo_X6_pushSpare rfl rfl
theorem e_X6_pushSpare_46 {Q : mQ} {ls st : List Value} {g : mG} {a : Nat} : WP m_X6_pushSpare Q 46 ls (.ref a :: st) g = ((gK g a = 7 ∧ gR g a 4 ≠ 0) ∧ WP m_X6_pushSpare Q 49 ls (.ref (gR g a 4) :: st) g) := E_gR lo_X6_pushSpare rfl
theorem e_X6_pushSpare_49 {Q : mQ} {ls st : List Value} {g : mG} : WP m_X6_pushSpare Q 49 ls st g = WP m_X6_pushSpare Q 50 ls (.int (nI 0) :: st) g := E_ic (v := nI 0) (n := 1) lo_X6_pushSpare rfl
theorem e_X6_pushSpare_50 {Q : mQ} {l1 l2 : Value} {st : List Value} {g : mG} {x : Nat} : WP m_X6_pushSpare Q 50 [.ref x, l1, l2] st g = WP m_X6_pushSpare Q 51 [.ref x, l1, l2] (.ref x :: st) g := E_al (i := 0) (n := 1) lo_X6_pushSpare rfl rfl
theorem e_X6_pushSpare_51 {Q : mQ} {ls st : List Value} {g : mG} {a : Nat} : WP m_X6_pushSpare Q 51 ls (.ref a :: st) g = ((gK g a = 7 ∧ gR g a 1 ≠ 0) ∧ WP m_X6_pushSpare Q 54 ls (.ref (gR g a 1) :: st) g) := E_gR lo_X6_pushSpare rfl
theorem e_X6_pushSpare_54 {Q : mQ} {ls st : List Value} {g : mG} {a v : Nat} {i : Int32} : WP m_X6_pushSpare Q 54 ls (.ref v :: .int i :: .ref a :: st) g = ((gK g a = 17 ∧ vp_in i (gN g a) ∧ gK g v = 6 ∧ v ≠ 0) ∧ WP m_X6_pushSpare Q 55 ls st (pR g a i.toNatClampNeg v)) := E_aast lo_X6_pushSpare rfl
theorem e_X6_pushSpare_55 {Q : mQ} {l1 l2 : Value} {st : List Value} {g : mG} {x : Nat} : WP m_X6_pushSpare Q 55 [.ref x, l1, l2] st g = WP m_X6_pushSpare Q 56 [.ref x, l1, l2] (.ref x :: st) g := E_al (i := 0) (n := 1) lo_X6_pushSpare rfl rfl
theorem e_X6_pushSpare_56 {Q : mQ} {l0 l2 : Value} {st : List Value} {g : mG} {x : Nat} : WP m_X6_pushSpare Q 56 [l0, .ref x, l2] st g = WP m_X6_pushSpare Q 57 [l0, .ref x, l2] (.ref x :: st) g := E_al (i := 1) (n := 1) lo_X6_pushSpare rfl rfl
theorem e_X6_pushSpare_56n {Q : mQ} {l0 l2 : Value} {st : List Value} {g : mG} : WP m_X6_pushSpare Q 56 [l0, .null, l2] st g = WP m_X6_pushSpare Q 57 [l0, .null, l2] (.null :: st) g := E_aln (i := 1) (n := 1) lo_X6_pushSpare rfl rfl
theorem e_X6_pushSpare_57 {Q : mQ} {ls st : List Value} {g : mG} {a v : Nat} : WP m_X6_pushSpare Q 57 ls (.ref v :: .ref a :: st) g = ((gK g a = 7 ∧ ok1 g v ∧ v ≠ 0) ∧ WP m_X6_pushSpare Q 60 ls st (pR g a 1 v)) := E_pR lo_X6_pushSpare rfl
theorem e_X6_pushSpare_60 {Q : mQ} {l1 l2 : Value} {st : List Value} {g : mG} {x : Nat} : WP m_X6_pushSpare Q 60 [.ref x, l1, l2] st g = WP m_X6_pushSpare Q 61 [.ref x, l1, l2] (.ref x :: st) g := E_al (i := 0) (n := 1) lo_X6_pushSpare rfl rfl
theorem e_X6_pushSpare_61 {Q : mQ} {l1 l2 : Value} {st : List Value} {g : mG} {x : Nat} : WP m_X6_pushSpare Q 61 [.ref x, l1, l2] st g = WP m_X6_pushSpare Q 62 [.ref x, l1, l2] (.ref x :: st) g := E_al (i := 0) (n := 1) lo_X6_pushSpare rfl rfl
theorem e_X6_pushSpare_62 {Q : mQ} {ls st : List Value} {g : mG} {a : Nat} : WP m_X6_pushSpare Q 62 ls (.ref a :: st) g = (gK g a = 7 ∧ WP m_X6_pushSpare Q 65 ls (.int (gI g a 5) :: st) g) := E_gI lo_X6_pushSpare rfl
theorem e_X6_pushSpare_65 {Q : mQ} {ls st : List Value} {g : mG} : WP m_X6_pushSpare Q 65 ls st g = WP m_X6_pushSpare Q 66 ls (.int (nI 1) :: st) g := E_ic (v := nI 1) (n := 1) lo_X6_pushSpare rfl
theorem e_X6_pushSpare_66 {Q : mQ} {ls st : List Value} {g : mG} {x y : Int32} : WP m_X6_pushSpare Q 66 ls (.int y :: .int x :: st) g = WP m_X6_pushSpare Q 67 ls (.int (x + y) :: st) g := E_b2 (f := fun x y => x + y) lo_X6_pushSpare rfl
theorem e_X6_pushSpare_67 {Q : mQ} {l1 l2 : Value} {st : List Value} {g : mG} {x : Nat} : WP m_X6_pushSpare Q 67 [.ref x, l1, l2] st g = WP m_X6_pushSpare Q 68 [.ref x, l1, l2] (.ref x :: st) g := E_al (i := 0) (n := 1) lo_X6_pushSpare rfl rfl
theorem e_X6_pushSpare_68 {Q : mQ} {ls st : List Value} {g : mG} {a : Nat} : WP m_X6_pushSpare Q 68 ls (.ref a :: st) g = ((gK g a = 7 ∧ gR g a 4 ≠ 0) ∧ WP m_X6_pushSpare Q 71 ls (.ref (gR g a 4) :: st) g) := E_gR lo_X6_pushSpare rfl
theorem e_X6_pushSpare_71 {Q : mQ} {ls st : List Value} {g : mG} {a : Nat} : WP m_X6_pushSpare Q 71 ls (.ref a :: st) g = ((10 ≤ gK g a ∧ gK g a ≤ 17) ∧ WP m_X6_pushSpare Q 72 ls (.int (nI (gN g a)) :: st) g) := E_alen lo_X6_pushSpare rfl
theorem e_X6_pushSpare_72 {Q : mQ} {ls st : List Value} {g : mG} {x y : Int32} : WP m_X6_pushSpare Q 72 ls (.int y :: .int x :: st) g = (st.length ≤ 4 ∧ WP m_X6_pushSpare Q 75 ls (.int (if y < x then y else x) :: st) g) := E_min lo_X6_pushSpare rfl
theorem e_X6_pushSpare_75 {Q : mQ} {ls st : List Value} {g : mG} {a : Nat} {v : Int32} : WP m_X6_pushSpare Q 75 ls (.int v :: .ref a :: st) g = (gK g a = 7 ∧ WP m_X6_pushSpare Q 78 ls st (pI g a 5 v)) := E_pI lo_X6_pushSpare rfl
theorem e_X6_pushSpare_78 {Q : mQ} {ls : List Value} {g : mG} : WP m_X6_pushSpare Q 78 ls [] g = Q none g := E_ret lo_X6_pushSpare rfl
/-! KilnPermits.record()V -/
def m_X6_record : List (Nat × mT) := [(0, tD (f_al 0 1)),
  (1, tD (f_gR 7 1)),
  (4, tD (f_al 0 1)),
  (5, tD (f_gR 7 0)),
  (8, tC w_X5_copyFrom 6 2),
  (11, tD (f_al 0 1)),
  (12, tC w_X6_pushSpare 7 1),
  (15, tR f_ret)]
abbrev w_X6_record : mS := wm m_X6_record 1 0
set_option maxRecDepth 100000 in
theorem lo_X6_record : locs_ok m_X6_record := List.forall_mem_cons.mpr ⟨loc_D mo_al,
  List.forall_mem_cons.mpr ⟨loc_D mo_gR,
  List.forall_mem_cons.mpr ⟨loc_D mo_al,
  List.forall_mem_cons.mpr ⟨loc_D mo_gR,
  List.forall_mem_cons.mpr ⟨loc_C sm_X5_copyFrom.1,
  List.forall_mem_cons.mpr ⟨loc_D mo_al,
  List.forall_mem_cons.mpr ⟨loc_C sm_X6_pushSpare.1,
  List.forall_mem_cons.mpr ⟨loc_R,
  fun _ h => absurd h List.not_mem_nil⟩⟩⟩⟩⟩⟩⟩⟩
set_option maxRecDepth 100000 in
theorem sm_X6_record : SM yX6_record cX6_record 1 none 4 w_X6_record := SM_of' RX6 "record" rfl rfl (by decide) (by decide) (by decide) lo_X6_record (List.forall_mem_cons.mpr ⟨STP.r mo_al (q_aload_n dX6_record_0 rfl),
  List.forall_mem_cons.mpr ⟨STP.r mo_gR (q_gR ⟨by decide, by decide⟩ (by decide) rfl (by decide) kf_X6_16 dX6_record_1),
  List.forall_mem_cons.mpr ⟨STP.r mo_al (q_aload_n dX6_record_4 rfl),
  List.forall_mem_cons.mpr ⟨STP.r mo_gR (q_gR ⟨by decide, by decide⟩ (by decide) rfl (by decide) kf_X6_12 dX6_record_5),
  List.forall_mem_cons.mpr ⟨(snd_CV sm_X5_copyFrom ⟨by decide, by decide⟩ rfl km_X6_72 kt_X5_copyFrom kv_X5_copyFrom rfl ki_X5 kx_X5_copyFrom ⟨by decide, by decide, by decide +kernel⟩ (by decide) (by decide) dX6_record_8).r,
  List.forall_mem_cons.mpr ⟨STP.r mo_al (q_aload_n dX6_record_11 rfl),
  List.forall_mem_cons.mpr ⟨(snd_CV sm_X6_pushSpare ⟨by decide, by decide⟩ rfl km_X6_107 kt_X6_pushSpare kv_X6_pushSpare rfl ki_X6 kx_X6_pushSpare ⟨by decide, by decide, by decide +kernel⟩ (by decide) (by decide) dX6_record_12).r,
  List.forall_mem_cons.mpr ⟨r_ret dX6_record_15,
  fun _ h => absurd h List.not_mem_nil⟩⟩⟩⟩⟩⟩⟩⟩)
theorem e_X6_record_0 {Q : mQ} {st : List Value} {g : mG} {x : Nat} : WP m_X6_record Q 0 [.ref x] st g = WP m_X6_record Q 1 [.ref x] (.ref x :: st) g := E_al (i := 0) (n := 1) lo_X6_record rfl rfl
theorem e_X6_record_1 {Q : mQ} {ls st : List Value} {g : mG} {a : Nat} : WP m_X6_record Q 1 ls (.ref a :: st) g = ((gK g a = 7 ∧ gR g a 1 ≠ 0) ∧ WP m_X6_record Q 4 ls (.ref (gR g a 1) :: st) g) := E_gR lo_X6_record rfl
theorem e_X6_record_4 {Q : mQ} {st : List Value} {g : mG} {x : Nat} : WP m_X6_record Q 4 [.ref x] st g = WP m_X6_record Q 5 [.ref x] (.ref x :: st) g := E_al (i := 0) (n := 1) lo_X6_record rfl rfl
theorem e_X6_record_5 {Q : mQ} {ls st : List Value} {g : mG} {a : Nat} : WP m_X6_record Q 5 ls (.ref a :: st) g = ((gK g a = 7 ∧ gR g a 0 ≠ 0) ∧ WP m_X6_record Q 8 ls (.ref (gR g a 0) :: st) g) := E_gR lo_X6_record rfl
theorem e_X6_record_8 {Q : mQ} {ls st : List Value} {g : mG} {b : Nat} {a0 : Value} : WP m_X6_record Q 8 ls (a0 :: .ref b :: st) g = (st.length ≤ 4 ∧ gK g b = 6 ∧ stbs g ls ∧ stbs g st ∧ w_X5_copyFrom [.ref b, a0] g (fun v g' => WP m_X6_record Q 11 ls (v.toList ++ st) g')) := E_CV (ar := [a0, .ref b]) lo_X6_record rfl rfl rfl (by decide)
theorem e_X6_record_11 {Q : mQ} {st : List Value} {g : mG} {x : Nat} : WP m_X6_record Q 11 [.ref x] st g = WP m_X6_record Q 12 [.ref x] (.ref x :: st) g := E_al (i := 0) (n := 1) lo_X6_record rfl rfl
theorem e_X6_record_12 {Q : mQ} {ls st : List Value} {g : mG} {b : Nat} : WP m_X6_record Q 12 ls (.ref b :: st) g = (st.length ≤ 4 ∧ gK g b = 7 ∧ stbs g ls ∧ stbs g st ∧ w_X6_pushSpare [.ref b] g (fun v g' => WP m_X6_record Q 15 ls (v.toList ++ st) g')) := E_CV (ar := [.ref b]) lo_X6_record rfl rfl rfl (by decide)
theorem e_X6_record_15 {Q : mQ} {ls : List Value} {g : mG} : WP m_X6_record Q 15 ls [] g = Q none g := E_ret lo_X6_record rfl
/-! KilnPermits.endYear()I -/
def m_X6_endYear : List (Nat × mT) := [(0, tD (f_al 0 1)),
  (1, tD (f_gR 7 0)),
  (4, tD (f_gI 6 0)),
  (7, tD (f_ic (nI 999) 3)),
  (10, tI2 (fun x y => x < y) 16),
  (13, tD (f_ic ((-3)) 2)),
  (15, tR f_iret),
  (16, tD (f_al 0 1)),
  (17, tC w_X6_record 7 1),
  (20, tD (f_al 0 1)),
  (21, tD (f_gR 7 0)),
  (24, tC w_X5_closeYear 6 1),
  (27, tR f_iret)]
abbrev w_X6_endYear : mS := wm m_X6_endYear 1 0
set_option maxRecDepth 100000 in
theorem lo_X6_endYear : locs_ok m_X6_endYear := List.forall_mem_cons.mpr ⟨loc_D mo_al,
  List.forall_mem_cons.mpr ⟨loc_D mo_gR,
  List.forall_mem_cons.mpr ⟨loc_D mo_gI,
  List.forall_mem_cons.mpr ⟨loc_D mo_ic,
  List.forall_mem_cons.mpr ⟨loc_I2,
  List.forall_mem_cons.mpr ⟨loc_D mo_ic,
  List.forall_mem_cons.mpr ⟨loc_R,
  List.forall_mem_cons.mpr ⟨loc_D mo_al,
  List.forall_mem_cons.mpr ⟨loc_C sm_X6_record.1,
  List.forall_mem_cons.mpr ⟨loc_D mo_al,
  List.forall_mem_cons.mpr ⟨loc_D mo_gR,
  List.forall_mem_cons.mpr ⟨loc_C sm_X5_closeYear.1,
  List.forall_mem_cons.mpr ⟨loc_R,
  fun _ h => absurd h List.not_mem_nil⟩⟩⟩⟩⟩⟩⟩⟩⟩⟩⟩⟩⟩
set_option maxRecDepth 100000 in
theorem sm_X6_endYear : SM yX6_endYear cX6_endYear 1 (some .int) 5 w_X6_endYear := SM_of' RX6 "endYear" rfl rfl (by decide) (by decide) (by decide) lo_X6_endYear (List.forall_mem_cons.mpr ⟨STP.r mo_al (q_aload_n dX6_endYear_0 rfl),
  List.forall_mem_cons.mpr ⟨STP.r mo_gR (q_gR ⟨by decide, by decide⟩ (by decide) rfl (by decide) kf_X6_12 dX6_endYear_1),
  List.forall_mem_cons.mpr ⟨STP.r mo_gI (q_gI ⟨by decide, by decide⟩ (by decide) rfl kf_X6_140 dX6_endYear_4),
  List.forall_mem_cons.mpr ⟨STP.r mo_ic (q_sipush dX6_endYear_7 (by decide)),
  List.forall_mem_cons.mpr ⟨(q_ic_lt dX6_endYear_10 (by decide)).r,
  List.forall_mem_cons.mpr ⟨STP.r mo_ic (q_bipush dX6_endYear_13 (by decide)),
  List.forall_mem_cons.mpr ⟨r_iret dX6_endYear_15,
  List.forall_mem_cons.mpr ⟨STP.r mo_al (q_aload_n dX6_endYear_16 rfl),
  List.forall_mem_cons.mpr ⟨(snd_CV sm_X6_record ⟨by decide, by decide⟩ rfl km_X6_41 kt_X6_record kv_X6_record rfl ki_X6 kx_X6_record ⟨by decide, by decide, by decide +kernel⟩ (by decide) (by decide) dX6_endYear_17).r,
  List.forall_mem_cons.mpr ⟨STP.r mo_al (q_aload_n dX6_endYear_20 rfl),
  List.forall_mem_cons.mpr ⟨STP.r mo_gR (q_gR ⟨by decide, by decide⟩ (by decide) rfl (by decide) kf_X6_12 dX6_endYear_21),
  List.forall_mem_cons.mpr ⟨(snd_CV sm_X5_closeYear ⟨by decide, by decide⟩ rfl km_X6_143 kt_X5_closeYear kv_X5_closeYear rfl ki_X5 kx_X5_closeYear ⟨by decide, by decide, by decide +kernel⟩ (by decide) (by decide) dX6_endYear_24).r,
  List.forall_mem_cons.mpr ⟨r_iret dX6_endYear_27,
  fun _ h => absurd h List.not_mem_nil⟩⟩⟩⟩⟩⟩⟩⟩⟩⟩⟩⟩⟩)
theorem e_X6_endYear_0 {Q : mQ} {st : List Value} {g : mG} {x : Nat} : WP m_X6_endYear Q 0 [.ref x] st g = WP m_X6_endYear Q 1 [.ref x] (.ref x :: st) g := E_al (i := 0) (n := 1) lo_X6_endYear rfl rfl
theorem e_X6_endYear_1 {Q : mQ} {ls st : List Value} {g : mG} {a : Nat} : WP m_X6_endYear Q 1 ls (.ref a :: st) g = ((gK g a = 7 ∧ gR g a 0 ≠ 0) ∧ WP m_X6_endYear Q 4 ls (.ref (gR g a 0) :: st) g) := E_gR lo_X6_endYear rfl
theorem e_X6_endYear_4 {Q : mQ} {ls st : List Value} {g : mG} {a : Nat} : WP m_X6_endYear Q 4 ls (.ref a :: st) g = (gK g a = 6 ∧ WP m_X6_endYear Q 7 ls (.int (gI g a 0) :: st) g) := E_gI lo_X6_endYear rfl
theorem e_X6_endYear_7 {Q : mQ} {ls st : List Value} {g : mG} : WP m_X6_endYear Q 7 ls st g = WP m_X6_endYear Q 10 ls (.int (nI 999) :: st) g := E_ic (v := nI 999) (n := 3) lo_X6_endYear rfl
theorem e_X6_endYear_10 {Q : mQ} {ls st : List Value} {g : mG} {x y : Int32} : WP m_X6_endYear Q 10 ls (.int y :: .int x :: st) g = ((x < y → WP m_X6_endYear Q 16 ls st g) ∧ (¬ (x < y) → WP m_X6_endYear Q 13 ls st g)) := E_I2 (c := fun x y => x < y) (t := 16) lo_X6_endYear rfl
theorem e_X6_endYear_13 {Q : mQ} {ls st : List Value} {g : mG} : WP m_X6_endYear Q 13 ls st g = WP m_X6_endYear Q 15 ls (.int ((-3)) :: st) g := E_ic (v := (-3)) (n := 2) lo_X6_endYear rfl
theorem e_X6_endYear_15 {Q : mQ} {ls : List Value} {g : mG} {v : Int32} : WP m_X6_endYear Q 15 ls [.int v] g = Q (some (.int v)) g := E_iret lo_X6_endYear rfl
theorem e_X6_endYear_16 {Q : mQ} {st : List Value} {g : mG} {x : Nat} : WP m_X6_endYear Q 16 [.ref x] st g = WP m_X6_endYear Q 17 [.ref x] (.ref x :: st) g := E_al (i := 0) (n := 1) lo_X6_endYear rfl rfl
theorem e_X6_endYear_17 {Q : mQ} {ls st : List Value} {g : mG} {b : Nat} : WP m_X6_endYear Q 17 ls (.ref b :: st) g = (st.length ≤ 4 ∧ gK g b = 7 ∧ stbs g ls ∧ stbs g st ∧ w_X6_record [.ref b] g (fun v g' => WP m_X6_endYear Q 20 ls (v.toList ++ st) g')) := E_CV (ar := [.ref b]) lo_X6_endYear rfl rfl rfl (by decide)
theorem e_X6_endYear_20 {Q : mQ} {st : List Value} {g : mG} {x : Nat} : WP m_X6_endYear Q 20 [.ref x] st g = WP m_X6_endYear Q 21 [.ref x] (.ref x :: st) g := E_al (i := 0) (n := 1) lo_X6_endYear rfl rfl
theorem e_X6_endYear_21 {Q : mQ} {ls st : List Value} {g : mG} {a : Nat} : WP m_X6_endYear Q 21 ls (.ref a :: st) g = ((gK g a = 7 ∧ gR g a 0 ≠ 0) ∧ WP m_X6_endYear Q 24 ls (.ref (gR g a 0) :: st) g) := E_gR lo_X6_endYear rfl
theorem e_X6_endYear_24 {Q : mQ} {ls st : List Value} {g : mG} {b : Nat} : WP m_X6_endYear Q 24 ls (.ref b :: st) g = (st.length ≤ 4 ∧ gK g b = 6 ∧ stbs g ls ∧ stbs g st ∧ w_X5_closeYear [.ref b] g (fun v g' => WP m_X6_endYear Q 27 ls (v.toList ++ st) g')) := E_CV (ar := [.ref b]) lo_X6_endYear rfl rfl rfl (by decide)
theorem e_X6_endYear_27 {Q : mQ} {ls : List Value} {g : mG} {v : Int32} : WP m_X6_endYear Q 27 ls [.int v] g = Q (some (.int v)) g := E_iret lo_X6_endYear rfl
/-! KilnPermits.isSetting(II)Z -/
def m_X6_isSetting : List (Nat × mT) := [(0, tD (f_il 0 1)),
  (1, tD (f_ic (nI 0) 1)),
  (2, tD (f_gs 5)),
  (5, tD (f_alen)),
  (6, tD (f_ic (nI 1) 1)),
  (7, tD (f_b2 fun x y => x - y)),
  (8, tC w_X6_isWithin 0 3),
  (11, tI1 (fun x => x = 0) 35),
  (14, tD (f_il 1 1)),
  (15, tD (f_gs 3)),
  (18, tD (f_il 0 1)),
  (19, tD (f_iald)),
  (20, tD (f_gs 4)),
  (23, tD (f_il 0 1)),
  (24, tD (f_iald)),
  (25, tC w_X6_isWithin 0 3),
  (28, tI1 (fun x => x = 0) 35),
  (31, tD (f_ic (nI 1) 1)),
  (32, tD (f_goto 36)),
  (35, tD (f_ic (nI 0) 1)),
  (36, tR f_zret)]
abbrev w_X6_isSetting : mS := wm m_X6_isSetting 2 0
set_option maxRecDepth 100000 in
theorem lo_X6_isSetting : locs_ok m_X6_isSetting := List.forall_mem_cons.mpr ⟨loc_D mo_il,
  List.forall_mem_cons.mpr ⟨loc_D mo_ic,
  List.forall_mem_cons.mpr ⟨loc_D mo_gs,
  List.forall_mem_cons.mpr ⟨loc_D mo_alen,
  List.forall_mem_cons.mpr ⟨loc_D mo_ic,
  List.forall_mem_cons.mpr ⟨loc_D mo_b2,
  List.forall_mem_cons.mpr ⟨loc_C sm_X6_isWithin.1,
  List.forall_mem_cons.mpr ⟨loc_I1,
  List.forall_mem_cons.mpr ⟨loc_D mo_il,
  List.forall_mem_cons.mpr ⟨loc_D mo_gs,
  List.forall_mem_cons.mpr ⟨loc_D mo_il,
  List.forall_mem_cons.mpr ⟨loc_D mo_iald,
  List.forall_mem_cons.mpr ⟨loc_D mo_gs,
  List.forall_mem_cons.mpr ⟨loc_D mo_il,
  List.forall_mem_cons.mpr ⟨loc_D mo_iald,
  List.forall_mem_cons.mpr ⟨loc_C sm_X6_isWithin.1,
  List.forall_mem_cons.mpr ⟨loc_I1,
  List.forall_mem_cons.mpr ⟨loc_D mo_ic,
  List.forall_mem_cons.mpr ⟨loc_D mo_goto,
  List.forall_mem_cons.mpr ⟨loc_D mo_ic,
  List.forall_mem_cons.mpr ⟨loc_R,
  fun _ h => absurd h List.not_mem_nil⟩⟩⟩⟩⟩⟩⟩⟩⟩⟩⟩⟩⟩⟩⟩⟩⟩⟩⟩⟩⟩
set_option maxRecDepth 100000 in
theorem sm_X6_isSetting : SM yX6_isSetting cX6_isSetting 2 (some .boolean) 2 w_X6_isSetting := SM_of' RX6 "isSetting" rfl rfl (by decide) (by decide) (by decide) lo_X6_isSetting (List.forall_mem_cons.mpr ⟨STP.r mo_il (q_iload_n dX6_isSetting_0 rfl),
  List.forall_mem_cons.mpr ⟨STP.r mo_ic (q_iconst dX6_isSetting_1 (by decide)),
  List.forall_mem_cons.mpr ⟨STP.r mo_gs (q_gs (Or.inr (Or.inr ⟨rfl, rfl⟩)) kf_X6_243 dX6_isSetting_2),
  List.forall_mem_cons.mpr ⟨STP.r mo_alen (q_alen dX6_isSetting_5),
  List.forall_mem_cons.mpr ⟨STP.r mo_ic (q_iconst dX6_isSetting_6 (by decide)),
  List.forall_mem_cons.mpr ⟨STP.r mo_b2 (q_isub dX6_isSetting_7),
  List.forall_mem_cons.mpr ⟨(snd_CS sm_X6_isWithin km_X6_37 ks_X6_isWithin ki_X6 kx_X6_isWithin ⟨by decide, by decide, by decide +kernel⟩ (by decide) (by decide) dX6_isSetting_8).r,
  List.forall_mem_cons.mpr ⟨(q_if_eq dX6_isSetting_11 (by decide)).r,
  List.forall_mem_cons.mpr ⟨STP.r mo_il (q_iload_n dX6_isSetting_14 rfl),
  List.forall_mem_cons.mpr ⟨STP.r mo_gs (q_gs (Or.inl ⟨rfl, rfl⟩) kf_X6_246 dX6_isSetting_15),
  List.forall_mem_cons.mpr ⟨STP.r mo_il (q_iload_n dX6_isSetting_18 rfl),
  List.forall_mem_cons.mpr ⟨STP.r mo_iald (q_iald dX6_isSetting_19),
  List.forall_mem_cons.mpr ⟨STP.r mo_gs (q_gs (Or.inr (Or.inl ⟨rfl, rfl⟩)) kf_X6_249 dX6_isSetting_20),
  List.forall_mem_cons.mpr ⟨STP.r mo_il (q_iload_n dX6_isSetting_23 rfl),
  List.forall_mem_cons.mpr ⟨STP.r mo_iald (q_iald dX6_isSetting_24),
  List.forall_mem_cons.mpr ⟨(snd_CS sm_X6_isWithin km_X6_37 ks_X6_isWithin ki_X6 kx_X6_isWithin ⟨by decide, by decide, by decide +kernel⟩ (by decide) (by decide) dX6_isSetting_25).r,
  List.forall_mem_cons.mpr ⟨(q_if_eq dX6_isSetting_28 (by decide)).r,
  List.forall_mem_cons.mpr ⟨STP.r mo_ic (q_iconst dX6_isSetting_31 (by decide)),
  List.forall_mem_cons.mpr ⟨STP.r mo_goto (q_goto dX6_isSetting_32 (by decide)),
  List.forall_mem_cons.mpr ⟨STP.r mo_ic (q_iconst dX6_isSetting_35 (by decide)),
  List.forall_mem_cons.mpr ⟨r_zret dX6_isSetting_36,
  fun _ h => absurd h List.not_mem_nil⟩⟩⟩⟩⟩⟩⟩⟩⟩⟩⟩⟩⟩⟩⟩⟩⟩⟩⟩⟩⟩)
theorem e_X6_isSetting_0 {Q : mQ} {l1 : Value} {st : List Value} {g : mG} {x : Int32} : WP m_X6_isSetting Q 0 [.int x, l1] st g = WP m_X6_isSetting Q 1 [.int x, l1] (.int x :: st) g := E_il (i := 0) (n := 1) lo_X6_isSetting rfl rfl
theorem e_X6_isSetting_1 {Q : mQ} {ls st : List Value} {g : mG} : WP m_X6_isSetting Q 1 ls st g = WP m_X6_isSetting Q 2 ls (.int (nI 0) :: st) g := E_ic (v := nI 0) (n := 1) lo_X6_isSetting rfl
theorem e_X6_isSetting_2 {Q : mQ} {ls st : List Value} {g : mG} : WP m_X6_isSetting Q 2 ls st g = (gK g 5 = 10 ∧ WP m_X6_isSetting Q 5 ls (.ref 5 :: st) g) := E_gs lo_X6_isSetting rfl
theorem e_X6_isSetting_5 {Q : mQ} {ls st : List Value} {g : mG} {a : Nat} : WP m_X6_isSetting Q 5 ls (.ref a :: st) g = ((10 ≤ gK g a ∧ gK g a ≤ 17) ∧ WP m_X6_isSetting Q 6 ls (.int (nI (gN g a)) :: st) g) := E_alen lo_X6_isSetting rfl
theorem e_X6_isSetting_6 {Q : mQ} {ls st : List Value} {g : mG} : WP m_X6_isSetting Q 6 ls st g = WP m_X6_isSetting Q 7 ls (.int (nI 1) :: st) g := E_ic (v := nI 1) (n := 1) lo_X6_isSetting rfl
theorem e_X6_isSetting_7 {Q : mQ} {ls st : List Value} {g : mG} {x y : Int32} : WP m_X6_isSetting Q 7 ls (.int y :: .int x :: st) g = WP m_X6_isSetting Q 8 ls (.int (x - y) :: st) g := E_b2 (f := fun x y => x - y) lo_X6_isSetting rfl
theorem e_X6_isSetting_8 {Q : mQ} {ls st : List Value} {g : mG} {a0 a1 a2 : Value} : WP m_X6_isSetting Q 8 ls (a2 :: a1 :: a0 :: st) g = (st.length ≤ 4 ∧ stbs g ls ∧ stbs g st ∧ w_X6_isWithin [a0, a1, a2] g (fun v g' => WP m_X6_isSetting Q 11 ls (v.toList ++ st) g')) := E_CS (ar := [a2, a1, a0]) lo_X6_isSetting rfl rfl rfl
theorem e_X6_isSetting_11 {Q : mQ} {ls st : List Value} {g : mG} {x : Int32} : WP m_X6_isSetting Q 11 ls (.int x :: st) g = ((x = 0 → WP m_X6_isSetting Q 35 ls st g) ∧ (¬ (x = 0) → WP m_X6_isSetting Q 14 ls st g)) := E_I1 (c := fun x => x = 0) (t := 35) lo_X6_isSetting rfl
theorem e_X6_isSetting_14 {Q : mQ} {l0 : Value} {st : List Value} {g : mG} {x : Int32} : WP m_X6_isSetting Q 14 [l0, .int x] st g = WP m_X6_isSetting Q 15 [l0, .int x] (.int x :: st) g := E_il (i := 1) (n := 1) lo_X6_isSetting rfl rfl
theorem e_X6_isSetting_15 {Q : mQ} {ls st : List Value} {g : mG} : WP m_X6_isSetting Q 15 ls st g = (gK g 3 = 10 ∧ WP m_X6_isSetting Q 18 ls (.ref 3 :: st) g) := E_gs lo_X6_isSetting rfl
theorem e_X6_isSetting_18 {Q : mQ} {l1 : Value} {st : List Value} {g : mG} {x : Int32} : WP m_X6_isSetting Q 18 [.int x, l1] st g = WP m_X6_isSetting Q 19 [.int x, l1] (.int x :: st) g := E_il (i := 0) (n := 1) lo_X6_isSetting rfl rfl
theorem e_X6_isSetting_19 {Q : mQ} {ls st : List Value} {g : mG} {a : Nat} {i : Int32} : WP m_X6_isSetting Q 19 ls (.int i :: .ref a :: st) g = ((isIA g a ∧ vp_in i (gN g a)) ∧ WP m_X6_isSetting Q 20 ls (.int (gI g a i.toNatClampNeg) :: st) g) := E_iald lo_X6_isSetting rfl
theorem e_X6_isSetting_20 {Q : mQ} {ls st : List Value} {g : mG} : WP m_X6_isSetting Q 20 ls st g = (gK g 4 = 10 ∧ WP m_X6_isSetting Q 23 ls (.ref 4 :: st) g) := E_gs lo_X6_isSetting rfl
theorem e_X6_isSetting_23 {Q : mQ} {l1 : Value} {st : List Value} {g : mG} {x : Int32} : WP m_X6_isSetting Q 23 [.int x, l1] st g = WP m_X6_isSetting Q 24 [.int x, l1] (.int x :: st) g := E_il (i := 0) (n := 1) lo_X6_isSetting rfl rfl
theorem e_X6_isSetting_24 {Q : mQ} {ls st : List Value} {g : mG} {a : Nat} {i : Int32} : WP m_X6_isSetting Q 24 ls (.int i :: .ref a :: st) g = ((isIA g a ∧ vp_in i (gN g a)) ∧ WP m_X6_isSetting Q 25 ls (.int (gI g a i.toNatClampNeg) :: st) g) := E_iald lo_X6_isSetting rfl
theorem e_X6_isSetting_25 {Q : mQ} {ls st : List Value} {g : mG} {a0 a1 a2 : Value} : WP m_X6_isSetting Q 25 ls (a2 :: a1 :: a0 :: st) g = (st.length ≤ 4 ∧ stbs g ls ∧ stbs g st ∧ w_X6_isWithin [a0, a1, a2] g (fun v g' => WP m_X6_isSetting Q 28 ls (v.toList ++ st) g')) := E_CS (ar := [a2, a1, a0]) lo_X6_isSetting rfl rfl rfl
theorem e_X6_isSetting_28 {Q : mQ} {ls st : List Value} {g : mG} {x : Int32} : WP m_X6_isSetting Q 28 ls (.int x :: st) g = ((x = 0 → WP m_X6_isSetting Q 35 ls st g) ∧ (¬ (x = 0) → WP m_X6_isSetting Q 31 ls st g)) := E_I1 (c := fun x => x = 0) (t := 35) lo_X6_isSetting rfl
theorem e_X6_isSetting_31 {Q : mQ} {ls st : List Value} {g : mG} : WP m_X6_isSetting Q 31 ls st g = WP m_X6_isSetting Q 32 ls (.int (nI 1) :: st) g := E_ic (v := nI 1) (n := 1) lo_X6_isSetting rfl
theorem e_X6_isSetting_32 {Q : mQ} {ls st : List Value} {g : mG} : WP m_X6_isSetting Q 32 ls st g = WP m_X6_isSetting Q 36 ls st g := E_goto lo_X6_isSetting rfl
theorem e_X6_isSetting_35 {Q : mQ} {ls st : List Value} {g : mG} : WP m_X6_isSetting Q 35 ls st g = WP m_X6_isSetting Q 36 ls (.int (nI 0) :: st) g := E_ic (v := nI 0) (n := 1) lo_X6_isSetting rfl
theorem e_X6_isSetting_36 {Q : mQ} {ls : List Value} {g : mG} {v : Int32} : WP m_X6_isSetting Q 36 ls [.int v] g = ((v = 0 ∨ v = 1) ∧ Q (some (.int v)) g) := E_zret lo_X6_isSetting rfl
/-! KilnPermits.set(II)I -/
def m_X6_set : List (Nat × mT) := [(0, tD (f_il 1 1)),
  (1, tD (f_il 2 1)),
  (2, tC w_X6_isSetting 0 2),
  (5, tI1 (fun x => ¬ x = 0) 11),
  (8, tD (f_ic ((-2)) 2)),
  (10, tR f_iret),
  (11, tD (f_al 0 1)),
  (12, tD (f_gR 7 0)),
  (15, tD (f_gR 6 11)),
  (18, tD (f_il 1 1)),
  (19, tD (f_iald)),
  (20, tD (f_is 3 1)),
  (21, tD (f_il 3 1)),
  (22, tD (f_il 2 1)),
  (23, tI2 (fun x y => ¬ x = y) 29),
  (26, tD (f_ic ((-5)) 2)),
  (28, tR f_iret),
  (29, tD (f_al 0 1)),
  (30, tC w_X6_record 7 1),
  (33, tD (f_al 0 1)),
  (34, tD (f_gR 7 0)),
  (37, tD (f_gR 6 11)),
  (40, tD (f_il 1 1)),
  (41, tD (f_il 2 1)),
  (42, tD (f_iast)),
  (43, tD (f_il 3 1)),
  (44, tR f_iret)]
abbrev w_X6_set : mS := wm m_X6_set 3 1
set_option maxRecDepth 100000 in
theorem lo_X6_set : locs_ok m_X6_set := List.forall_mem_cons.mpr ⟨loc_D mo_il,
  List.forall_mem_cons.mpr ⟨loc_D mo_il,
  List.forall_mem_cons.mpr ⟨loc_C sm_X6_isSetting.1,
  List.forall_mem_cons.mpr ⟨loc_I1,
  List.forall_mem_cons.mpr ⟨loc_D mo_ic,
  List.forall_mem_cons.mpr ⟨loc_R,
  List.forall_mem_cons.mpr ⟨loc_D mo_al,
  List.forall_mem_cons.mpr ⟨loc_D mo_gR,
  List.forall_mem_cons.mpr ⟨loc_D mo_gR,
  List.forall_mem_cons.mpr ⟨loc_D mo_il,
  List.forall_mem_cons.mpr ⟨loc_D mo_iald,
  List.forall_mem_cons.mpr ⟨loc_D mo_is,
  List.forall_mem_cons.mpr ⟨loc_D mo_il,
  List.forall_mem_cons.mpr ⟨loc_D mo_il,
  List.forall_mem_cons.mpr ⟨loc_I2,
  List.forall_mem_cons.mpr ⟨loc_D mo_ic,
  List.forall_mem_cons.mpr ⟨loc_R,
  List.forall_mem_cons.mpr ⟨loc_D mo_al,
  List.forall_mem_cons.mpr ⟨loc_C sm_X6_record.1,
  List.forall_mem_cons.mpr ⟨loc_D mo_al,
  List.forall_mem_cons.mpr ⟨loc_D mo_gR,
  List.forall_mem_cons.mpr ⟨loc_D mo_gR,
  List.forall_mem_cons.mpr ⟨loc_D mo_il,
  List.forall_mem_cons.mpr ⟨loc_D mo_il,
  List.forall_mem_cons.mpr ⟨loc_D mo_iast,
  List.forall_mem_cons.mpr ⟨loc_D mo_il,
  List.forall_mem_cons.mpr ⟨loc_R,
  fun _ h => absurd h List.not_mem_nil⟩⟩⟩⟩⟩⟩⟩⟩⟩⟩⟩⟩⟩⟩⟩⟩⟩⟩⟩⟩⟩⟩⟩⟩⟩⟩⟩
set_option maxRecDepth 100000 in
theorem sm_X6_set : SM yX6_set cX6_set 4 (some .int) 5 w_X6_set := SM_of' RX6 "set" rfl rfl (by decide) (by decide) (by decide) lo_X6_set (List.forall_mem_cons.mpr ⟨STP.r mo_il (q_iload_n dX6_set_0 rfl),
  List.forall_mem_cons.mpr ⟨STP.r mo_il (q_iload_n dX6_set_1 rfl),
  List.forall_mem_cons.mpr ⟨(snd_CS sm_X6_isSetting km_X6_136 ks_X6_isSetting ki_X6 kx_X6_isSetting ⟨by decide, by decide, by decide +kernel⟩ (by decide) (by decide) dX6_set_2).r,
  List.forall_mem_cons.mpr ⟨(q_if_ne dX6_set_5 (by decide)).r,
  List.forall_mem_cons.mpr ⟨STP.r mo_ic (q_bipush dX6_set_8 (by decide)),
  List.forall_mem_cons.mpr ⟨r_iret dX6_set_10,
  List.forall_mem_cons.mpr ⟨STP.r mo_al (q_aload_n dX6_set_11 rfl),
  List.forall_mem_cons.mpr ⟨STP.r mo_gR (q_gR ⟨by decide, by decide⟩ (by decide) rfl (by decide) kf_X6_12 dX6_set_12),
  List.forall_mem_cons.mpr ⟨STP.r mo_gR (q_gR ⟨by decide, by decide⟩ (by decide) rfl (by decide) kf_X6_60 dX6_set_15),
  List.forall_mem_cons.mpr ⟨STP.r mo_il (q_iload_n dX6_set_18 rfl),
  List.forall_mem_cons.mpr ⟨STP.r mo_iald (q_iald dX6_set_19),
  List.forall_mem_cons.mpr ⟨STP.r mo_is (q_istore_n dX6_set_20 rfl),
  List.forall_mem_cons.mpr ⟨STP.r mo_il (q_iload_n dX6_set_21 rfl),
  List.forall_mem_cons.mpr ⟨STP.r mo_il (q_iload_n dX6_set_22 rfl),
  List.forall_mem_cons.mpr ⟨(q_ic_ne dX6_set_23 (by decide)).r,
  List.forall_mem_cons.mpr ⟨STP.r mo_ic (q_bipush dX6_set_26 (by decide)),
  List.forall_mem_cons.mpr ⟨r_iret dX6_set_28,
  List.forall_mem_cons.mpr ⟨STP.r mo_al (q_aload_n dX6_set_29 rfl),
  List.forall_mem_cons.mpr ⟨(snd_CV sm_X6_record ⟨by decide, by decide⟩ rfl km_X6_41 kt_X6_record kv_X6_record rfl ki_X6 kx_X6_record ⟨by decide, by decide, by decide +kernel⟩ (by decide) (by decide) dX6_set_30).r,
  List.forall_mem_cons.mpr ⟨STP.r mo_al (q_aload_n dX6_set_33 rfl),
  List.forall_mem_cons.mpr ⟨STP.r mo_gR (q_gR ⟨by decide, by decide⟩ (by decide) rfl (by decide) kf_X6_12 dX6_set_34),
  List.forall_mem_cons.mpr ⟨STP.r mo_gR (q_gR ⟨by decide, by decide⟩ (by decide) rfl (by decide) kf_X6_60 dX6_set_37),
  List.forall_mem_cons.mpr ⟨STP.r mo_il (q_iload_n dX6_set_40 rfl),
  List.forall_mem_cons.mpr ⟨STP.r mo_il (q_iload_n dX6_set_41 rfl),
  List.forall_mem_cons.mpr ⟨STP.r mo_iast (q_iast dX6_set_42),
  List.forall_mem_cons.mpr ⟨STP.r mo_il (q_iload_n dX6_set_43 rfl),
  List.forall_mem_cons.mpr ⟨r_iret dX6_set_44,
  fun _ h => absurd h List.not_mem_nil⟩⟩⟩⟩⟩⟩⟩⟩⟩⟩⟩⟩⟩⟩⟩⟩⟩⟩⟩⟩⟩⟩⟩⟩⟩⟩⟩)
theorem e_X6_set_0 {Q : mQ} {l0 l2 l3 : Value} {st : List Value} {g : mG} {x : Int32} : WP m_X6_set Q 0 [l0, .int x, l2, l3] st g = WP m_X6_set Q 1 [l0, .int x, l2, l3] (.int x :: st) g := E_il (i := 1) (n := 1) lo_X6_set rfl rfl
theorem e_X6_set_1 {Q : mQ} {l0 l1 l3 : Value} {st : List Value} {g : mG} {x : Int32} : WP m_X6_set Q 1 [l0, l1, .int x, l3] st g = WP m_X6_set Q 2 [l0, l1, .int x, l3] (.int x :: st) g := E_il (i := 2) (n := 1) lo_X6_set rfl rfl
theorem e_X6_set_2 {Q : mQ} {ls st : List Value} {g : mG} {a0 a1 : Value} : WP m_X6_set Q 2 ls (a1 :: a0 :: st) g = (st.length ≤ 4 ∧ stbs g ls ∧ stbs g st ∧ w_X6_isSetting [a0, a1] g (fun v g' => WP m_X6_set Q 5 ls (v.toList ++ st) g')) := E_CS (ar := [a1, a0]) lo_X6_set rfl rfl rfl
theorem e_X6_set_5 {Q : mQ} {ls st : List Value} {g : mG} {x : Int32} : WP m_X6_set Q 5 ls (.int x :: st) g = ((¬ x = 0 → WP m_X6_set Q 11 ls st g) ∧ (¬ (¬ x = 0) → WP m_X6_set Q 8 ls st g)) := E_I1 (c := fun x => ¬ x = 0) (t := 11) lo_X6_set rfl
theorem e_X6_set_8 {Q : mQ} {ls st : List Value} {g : mG} : WP m_X6_set Q 8 ls st g = WP m_X6_set Q 10 ls (.int ((-2)) :: st) g := E_ic (v := (-2)) (n := 2) lo_X6_set rfl
theorem e_X6_set_10 {Q : mQ} {ls : List Value} {g : mG} {v : Int32} : WP m_X6_set Q 10 ls [.int v] g = Q (some (.int v)) g := E_iret lo_X6_set rfl
theorem e_X6_set_11 {Q : mQ} {l1 l2 l3 : Value} {st : List Value} {g : mG} {x : Nat} : WP m_X6_set Q 11 [.ref x, l1, l2, l3] st g = WP m_X6_set Q 12 [.ref x, l1, l2, l3] (.ref x :: st) g := E_al (i := 0) (n := 1) lo_X6_set rfl rfl
theorem e_X6_set_12 {Q : mQ} {ls st : List Value} {g : mG} {a : Nat} : WP m_X6_set Q 12 ls (.ref a :: st) g = ((gK g a = 7 ∧ gR g a 0 ≠ 0) ∧ WP m_X6_set Q 15 ls (.ref (gR g a 0) :: st) g) := E_gR lo_X6_set rfl
theorem e_X6_set_15 {Q : mQ} {ls st : List Value} {g : mG} {a : Nat} : WP m_X6_set Q 15 ls (.ref a :: st) g = ((gK g a = 6 ∧ gR g a 11 ≠ 0) ∧ WP m_X6_set Q 18 ls (.ref (gR g a 11) :: st) g) := E_gR lo_X6_set rfl
theorem e_X6_set_18 {Q : mQ} {l0 l2 l3 : Value} {st : List Value} {g : mG} {x : Int32} : WP m_X6_set Q 18 [l0, .int x, l2, l3] st g = WP m_X6_set Q 19 [l0, .int x, l2, l3] (.int x :: st) g := E_il (i := 1) (n := 1) lo_X6_set rfl rfl
theorem e_X6_set_19 {Q : mQ} {ls st : List Value} {g : mG} {a : Nat} {i : Int32} : WP m_X6_set Q 19 ls (.int i :: .ref a :: st) g = ((isIA g a ∧ vp_in i (gN g a)) ∧ WP m_X6_set Q 20 ls (.int (gI g a i.toNatClampNeg) :: st) g) := E_iald lo_X6_set rfl
theorem e_X6_set_20 {Q : mQ} {l0 l1 l2 l3 : Value} {st : List Value} {g : mG} {x : Int32} : WP m_X6_set Q 20 [l0, l1, l2, l3] (.int x :: st) g = (nl1 l2 ∧ WP m_X6_set Q 21 [l0, l1, l2, .int x] st g) := E_is (i := 3) (n := 1) lo_X6_set rfl (Nat.le_of_ble_eq_true rfl)
theorem e_X6_set_21 {Q : mQ} {l0 l1 l2 : Value} {st : List Value} {g : mG} {x : Int32} : WP m_X6_set Q 21 [l0, l1, l2, .int x] st g = WP m_X6_set Q 22 [l0, l1, l2, .int x] (.int x :: st) g := E_il (i := 3) (n := 1) lo_X6_set rfl rfl
theorem e_X6_set_22 {Q : mQ} {l0 l1 l3 : Value} {st : List Value} {g : mG} {x : Int32} : WP m_X6_set Q 22 [l0, l1, .int x, l3] st g = WP m_X6_set Q 23 [l0, l1, .int x, l3] (.int x :: st) g := E_il (i := 2) (n := 1) lo_X6_set rfl rfl
theorem e_X6_set_23 {Q : mQ} {ls st : List Value} {g : mG} {x y : Int32} : WP m_X6_set Q 23 ls (.int y :: .int x :: st) g = ((¬ x = y → WP m_X6_set Q 29 ls st g) ∧ (¬ (¬ x = y) → WP m_X6_set Q 26 ls st g)) := E_I2 (c := fun x y => ¬ x = y) (t := 29) lo_X6_set rfl
theorem e_X6_set_26 {Q : mQ} {ls st : List Value} {g : mG} : WP m_X6_set Q 26 ls st g = WP m_X6_set Q 28 ls (.int ((-5)) :: st) g := E_ic (v := (-5)) (n := 2) lo_X6_set rfl
theorem e_X6_set_28 {Q : mQ} {ls : List Value} {g : mG} {v : Int32} : WP m_X6_set Q 28 ls [.int v] g = Q (some (.int v)) g := E_iret lo_X6_set rfl
theorem e_X6_set_29 {Q : mQ} {l1 l2 l3 : Value} {st : List Value} {g : mG} {x : Nat} : WP m_X6_set Q 29 [.ref x, l1, l2, l3] st g = WP m_X6_set Q 30 [.ref x, l1, l2, l3] (.ref x :: st) g := E_al (i := 0) (n := 1) lo_X6_set rfl rfl
theorem e_X6_set_30 {Q : mQ} {ls st : List Value} {g : mG} {b : Nat} : WP m_X6_set Q 30 ls (.ref b :: st) g = (st.length ≤ 4 ∧ gK g b = 7 ∧ stbs g ls ∧ stbs g st ∧ w_X6_record [.ref b] g (fun v g' => WP m_X6_set Q 33 ls (v.toList ++ st) g')) := E_CV (ar := [.ref b]) lo_X6_set rfl rfl rfl (by decide)
theorem e_X6_set_33 {Q : mQ} {l1 l2 l3 : Value} {st : List Value} {g : mG} {x : Nat} : WP m_X6_set Q 33 [.ref x, l1, l2, l3] st g = WP m_X6_set Q 34 [.ref x, l1, l2, l3] (.ref x :: st) g := E_al (i := 0) (n := 1) lo_X6_set rfl rfl
theorem e_X6_set_34 {Q : mQ} {ls st : List Value} {g : mG} {a : Nat} : WP m_X6_set Q 34 ls (.ref a :: st) g = ((gK g a = 7 ∧ gR g a 0 ≠ 0) ∧ WP m_X6_set Q 37 ls (.ref (gR g a 0) :: st) g) := E_gR lo_X6_set rfl
theorem e_X6_set_37 {Q : mQ} {ls st : List Value} {g : mG} {a : Nat} : WP m_X6_set Q 37 ls (.ref a :: st) g = ((gK g a = 6 ∧ gR g a 11 ≠ 0) ∧ WP m_X6_set Q 40 ls (.ref (gR g a 11) :: st) g) := E_gR lo_X6_set rfl
theorem e_X6_set_40 {Q : mQ} {l0 l2 l3 : Value} {st : List Value} {g : mG} {x : Int32} : WP m_X6_set Q 40 [l0, .int x, l2, l3] st g = WP m_X6_set Q 41 [l0, .int x, l2, l3] (.int x :: st) g := E_il (i := 1) (n := 1) lo_X6_set rfl rfl
theorem e_X6_set_41 {Q : mQ} {l0 l1 l3 : Value} {st : List Value} {g : mG} {x : Int32} : WP m_X6_set Q 41 [l0, l1, .int x, l3] st g = WP m_X6_set Q 42 [l0, l1, .int x, l3] (.int x :: st) g := E_il (i := 2) (n := 1) lo_X6_set rfl rfl
theorem e_X6_set_42 {Q : mQ} {ls st : List Value} {g : mG} {a : Nat} {i v : Int32} : WP m_X6_set Q 42 ls (.int v :: .int i :: .ref a :: st) g = (((gK g a = 11 ∨ gK g a = 12) ∧ vp_in i (gN g a)) ∧ WP m_X6_set Q 43 ls st (pI g a i.toNatClampNeg v)) := E_iast lo_X6_set rfl
theorem e_X6_set_43 {Q : mQ} {l0 l1 l2 : Value} {st : List Value} {g : mG} {x : Int32} : WP m_X6_set Q 43 [l0, l1, l2, .int x] st g = WP m_X6_set Q 44 [l0, l1, l2, .int x] (.int x :: st) g := E_il (i := 3) (n := 1) lo_X6_set rfl rfl
theorem e_X6_set_44 {Q : mQ} {ls : List Value} {g : mG} {v : Int32} : WP m_X6_set Q 44 ls [.int v] g = Q (some (.int v)) g := E_iret lo_X6_set rfl
/-! KilnPermits.borrow(II)I -/
def m_X6_borrow : List (Nat × mT) := [(0, tD (f_al 0 1)),
  (1, tD (f_gR 7 0)),
  (4, tD (f_il 1 1)),
  (5, tC w_X5_kilnAt 6 2),
  (8, tD (f_as 3 1)),
  (9, tD (f_al 3 1)),
  (10, tD (f_ifn 15 false)),
  (13, tD (f_ic ((-1)) 1)),
  (14, tR f_iret),
  (15, tD (f_il 2 1)),
  (16, tD (f_ic (nI 1) 1)),
  (17, tD (f_ic (nI 999) 3)),
  (20, tC w_X6_isWithin 0 3),
  (23, tI1 (fun x => ¬ x = 0) 29),
  (26, tD (f_ic ((-2)) 2)),
  (28, tR f_iret),
  (29, tD (f_al 3 1)),
  (30, tD (f_gI 1 3)),
  (33, tD (f_il 2 1)),
  (34, tD (f_b2 fun x y => x + y)),
  (35, tD (f_al 3 1)),
  (36, tD (f_gI 1 2)),
  (39, tD (f_al 0 1)),
  (40, tD (f_gR 7 0)),
  (43, tD (f_gR 6 11)),
  (46, tD (f_ic (nI 2) 1)),
  (47, tD (f_iald)),
  (48, tD (f_b2 fun x y => x * y)),
  (49, tD (f_ic (nI 100) 2)),
  (51, tD (f_div)),
  (52, tI2 (fun x y => x ≤ y) 58),
  (55, tD (f_ic ((-3)) 2)),
  (57, tR f_iret),
  (58, tD (f_al 0 1)),
  (59, tC w_X6_record 7 1),
  (62, tD (f_al 3 1)),
  (63, tD (f_dup)),
  (64, tD (f_gI 1 3)),
  (67, tD (f_il 2 1)),
  (68, tD (f_b2 fun x y => x + y)),
  (69, tD (f_pI 1 3)),
  (72, tD (f_al 3 1)),
  (73, tD (f_gI 1 3)),
  (76, tR f_iret)]
abbrev w_X6_borrow : mS := wm m_X6_borrow 3 1
set_option maxRecDepth 100000 in
theorem lo_X6_borrow : locs_ok m_X6_borrow := List.forall_mem_cons.mpr ⟨loc_D mo_al,
  List.forall_mem_cons.mpr ⟨loc_D mo_gR,
  List.forall_mem_cons.mpr ⟨loc_D mo_il,
  List.forall_mem_cons.mpr ⟨loc_C sm_X5_kilnAt.1,
  List.forall_mem_cons.mpr ⟨loc_D mo_as,
  List.forall_mem_cons.mpr ⟨loc_D mo_al,
  List.forall_mem_cons.mpr ⟨loc_D mo_ifn,
  List.forall_mem_cons.mpr ⟨loc_D mo_ic,
  List.forall_mem_cons.mpr ⟨loc_R,
  List.forall_mem_cons.mpr ⟨loc_D mo_il,
  List.forall_mem_cons.mpr ⟨loc_D mo_ic,
  List.forall_mem_cons.mpr ⟨loc_D mo_ic,
  List.forall_mem_cons.mpr ⟨loc_C sm_X6_isWithin.1,
  List.forall_mem_cons.mpr ⟨loc_I1,
  List.forall_mem_cons.mpr ⟨loc_D mo_ic,
  List.forall_mem_cons.mpr ⟨loc_R,
  List.forall_mem_cons.mpr ⟨loc_D mo_al,
  List.forall_mem_cons.mpr ⟨loc_D mo_gI,
  List.forall_mem_cons.mpr ⟨loc_D mo_il,
  List.forall_mem_cons.mpr ⟨loc_D mo_b2,
  List.forall_mem_cons.mpr ⟨loc_D mo_al,
  List.forall_mem_cons.mpr ⟨loc_D mo_gI,
  List.forall_mem_cons.mpr ⟨loc_D mo_al,
  List.forall_mem_cons.mpr ⟨loc_D mo_gR,
  List.forall_mem_cons.mpr ⟨loc_D mo_gR,
  List.forall_mem_cons.mpr ⟨loc_D mo_ic,
  List.forall_mem_cons.mpr ⟨loc_D mo_iald,
  List.forall_mem_cons.mpr ⟨loc_D mo_b2,
  List.forall_mem_cons.mpr ⟨loc_D mo_ic,
  List.forall_mem_cons.mpr ⟨loc_D mo_div,
  List.forall_mem_cons.mpr ⟨loc_I2,
  List.forall_mem_cons.mpr ⟨loc_D mo_ic,
  List.forall_mem_cons.mpr ⟨loc_R,
  List.forall_mem_cons.mpr ⟨loc_D mo_al,
  List.forall_mem_cons.mpr ⟨loc_C sm_X6_record.1,
  List.forall_mem_cons.mpr ⟨loc_D mo_al,
  List.forall_mem_cons.mpr ⟨loc_D mo_dup,
  List.forall_mem_cons.mpr ⟨loc_D mo_gI,
  List.forall_mem_cons.mpr ⟨loc_D mo_il,
  List.forall_mem_cons.mpr ⟨loc_D mo_b2,
  List.forall_mem_cons.mpr ⟨loc_D mo_pI,
  List.forall_mem_cons.mpr ⟨loc_D mo_al,
  List.forall_mem_cons.mpr ⟨loc_D mo_gI,
  List.forall_mem_cons.mpr ⟨loc_R,
  fun _ h => absurd h List.not_mem_nil⟩⟩⟩⟩⟩⟩⟩⟩⟩⟩⟩⟩⟩⟩⟩⟩⟩⟩⟩⟩⟩⟩⟩⟩⟩⟩⟩⟩⟩⟩⟩⟩⟩⟩⟩⟩⟩⟩⟩⟩⟩⟩⟩⟩
set_option maxRecDepth 100000 in
theorem sm_X6_borrow : SM yX6_borrow cX6_borrow 4 (some .int) 5 w_X6_borrow := SM_of' RX6 "borrow" rfl rfl (by decide) (by decide) (by decide) lo_X6_borrow (List.forall_mem_cons.mpr ⟨STP.r mo_al (q_aload_n dX6_borrow_0 rfl),
  List.forall_mem_cons.mpr ⟨STP.r mo_gR (q_gR ⟨by decide, by decide⟩ (by decide) rfl (by decide) kf_X6_12 dX6_borrow_1),
  List.forall_mem_cons.mpr ⟨STP.r mo_il (q_iload_n dX6_borrow_4 rfl),
  List.forall_mem_cons.mpr ⟨(snd_CV sm_X5_kilnAt ⟨by decide, by decide⟩ rfl km_X6_33 kt_X5_kilnAt kv_X5_kilnAt rfl ki_X5 kx_X5_kilnAt ⟨by decide, by decide, by decide +kernel⟩ (by decide) (by decide) dX6_borrow_5).r,
  List.forall_mem_cons.mpr ⟨STP.r mo_as (q_astore_n dX6_borrow_8 rfl),
  List.forall_mem_cons.mpr ⟨STP.r mo_al (q_aload_n dX6_borrow_9 rfl),
  List.forall_mem_cons.mpr ⟨STP.r mo_ifn (q_ifnonnull dX6_borrow_10 (by decide)),
  List.forall_mem_cons.mpr ⟨STP.r mo_ic (q_iconst dX6_borrow_13 (by decide)),
  List.forall_mem_cons.mpr ⟨r_iret dX6_borrow_14,
  List.forall_mem_cons.mpr ⟨STP.r mo_il (q_iload_n dX6_borrow_15 rfl),
  List.forall_mem_cons.mpr ⟨STP.r mo_ic (q_iconst dX6_borrow_16 (by decide)),
  List.forall_mem_cons.mpr ⟨STP.r mo_ic (q_sipush dX6_borrow_17 (by decide)),
  List.forall_mem_cons.mpr ⟨(snd_CS sm_X6_isWithin km_X6_37 ks_X6_isWithin ki_X6 kx_X6_isWithin ⟨by decide, by decide, by decide +kernel⟩ (by decide) (by decide) dX6_borrow_20).r,
  List.forall_mem_cons.mpr ⟨(q_if_ne dX6_borrow_23 (by decide)).r,
  List.forall_mem_cons.mpr ⟨STP.r mo_ic (q_bipush dX6_borrow_26 (by decide)),
  List.forall_mem_cons.mpr ⟨r_iret dX6_borrow_28,
  List.forall_mem_cons.mpr ⟨STP.r mo_al (q_aload_n dX6_borrow_29 rfl),
  List.forall_mem_cons.mpr ⟨STP.r mo_gI (q_gI ⟨by decide, by decide⟩ (by decide) rfl kf_X6_133 dX6_borrow_30),
  List.forall_mem_cons.mpr ⟨STP.r mo_il (q_iload_n dX6_borrow_33 rfl),
  List.forall_mem_cons.mpr ⟨STP.r mo_b2 (q_iadd dX6_borrow_34),
  List.forall_mem_cons.mpr ⟨STP.r mo_al (q_aload_n dX6_borrow_35 rfl),
  List.forall_mem_cons.mpr ⟨STP.r mo_gI (q_gI ⟨by decide, by decide⟩ (by decide) rfl kf_X6_54 dX6_borrow_36),
  List.forall_mem_cons.mpr ⟨STP.r mo_al (q_aload_n dX6_borrow_39 rfl),
  List.forall_mem_cons.mpr ⟨STP.r mo_gR (q_gR ⟨by decide, by decide⟩ (by decide) rfl (by decide) kf_X6_12 dX6_borrow_40),
  List.forall_mem_cons.mpr ⟨STP.r mo_gR (q_gR ⟨by decide, by decide⟩ (by decide) rfl (by decide) kf_X6_60 dX6_borrow_43),
  List.forall_mem_cons.mpr ⟨STP.r mo_ic (q_iconst dX6_borrow_46 (by decide)),
  List.forall_mem_cons.mpr ⟨STP.r mo_iald (q_iald dX6_borrow_47),
  List.forall_mem_cons.mpr ⟨STP.r mo_b2 (q_imul dX6_borrow_48),
  List.forall_mem_cons.mpr ⟨STP.r mo_ic (q_bipush dX6_borrow_49 (by decide)),
  List.forall_mem_cons.mpr ⟨STP.r mo_div (q_idiv dX6_borrow_51),
  List.forall_mem_cons.mpr ⟨(q_ic_le dX6_borrow_52 (by decide)).r,
  List.forall_mem_cons.mpr ⟨STP.r mo_ic (q_bipush dX6_borrow_55 (by decide)),
  List.forall_mem_cons.mpr ⟨r_iret dX6_borrow_57,
  List.forall_mem_cons.mpr ⟨STP.r mo_al (q_aload_n dX6_borrow_58 rfl),
  List.forall_mem_cons.mpr ⟨(snd_CV sm_X6_record ⟨by decide, by decide⟩ rfl km_X6_41 kt_X6_record kv_X6_record rfl ki_X6 kx_X6_record ⟨by decide, by decide, by decide +kernel⟩ (by decide) (by decide) dX6_borrow_59).r,
  List.forall_mem_cons.mpr ⟨STP.r mo_al (q_aload_n dX6_borrow_62 rfl),
  List.forall_mem_cons.mpr ⟨STP.r mo_dup (q_dup dX6_borrow_63),
  List.forall_mem_cons.mpr ⟨STP.r mo_gI (q_gI ⟨by decide, by decide⟩ (by decide) rfl kf_X6_133 dX6_borrow_64),
  List.forall_mem_cons.mpr ⟨STP.r mo_il (q_iload_n dX6_borrow_67 rfl),
  List.forall_mem_cons.mpr ⟨STP.r mo_b2 (q_iadd dX6_borrow_68),
  List.forall_mem_cons.mpr ⟨STP.r mo_pI (q_pI ⟨by decide, by decide⟩ (by decide) rfl rfl kf_X6_133 dX6_borrow_69),
  List.forall_mem_cons.mpr ⟨STP.r mo_al (q_aload_n dX6_borrow_72 rfl),
  List.forall_mem_cons.mpr ⟨STP.r mo_gI (q_gI ⟨by decide, by decide⟩ (by decide) rfl kf_X6_133 dX6_borrow_73),
  List.forall_mem_cons.mpr ⟨r_iret dX6_borrow_76,
  fun _ h => absurd h List.not_mem_nil⟩⟩⟩⟩⟩⟩⟩⟩⟩⟩⟩⟩⟩⟩⟩⟩⟩⟩⟩⟩⟩⟩⟩⟩⟩⟩⟩⟩⟩⟩⟩⟩⟩⟩⟩⟩⟩⟩⟩⟩⟩⟩⟩⟩)
theorem e_X6_borrow_0 {Q : mQ} {l1 l2 l3 : Value} {st : List Value} {g : mG} {x : Nat} : WP m_X6_borrow Q 0 [.ref x, l1, l2, l3] st g = WP m_X6_borrow Q 1 [.ref x, l1, l2, l3] (.ref x :: st) g := E_al (i := 0) (n := 1) lo_X6_borrow rfl rfl
theorem e_X6_borrow_1 {Q : mQ} {ls st : List Value} {g : mG} {a : Nat} : WP m_X6_borrow Q 1 ls (.ref a :: st) g = ((gK g a = 7 ∧ gR g a 0 ≠ 0) ∧ WP m_X6_borrow Q 4 ls (.ref (gR g a 0) :: st) g) := E_gR lo_X6_borrow rfl
theorem e_X6_borrow_4 {Q : mQ} {l0 l2 l3 : Value} {st : List Value} {g : mG} {x : Int32} : WP m_X6_borrow Q 4 [l0, .int x, l2, l3] st g = WP m_X6_borrow Q 5 [l0, .int x, l2, l3] (.int x :: st) g := E_il (i := 1) (n := 1) lo_X6_borrow rfl rfl
theorem e_X6_borrow_5 {Q : mQ} {ls st : List Value} {g : mG} {b : Nat} {a0 : Value} : WP m_X6_borrow Q 5 ls (a0 :: .ref b :: st) g = (st.length ≤ 4 ∧ gK g b = 6 ∧ stbs g ls ∧ stbs g st ∧ w_X5_kilnAt [.ref b, a0] g (fun v g' => WP m_X6_borrow Q 8 ls (v.toList ++ st) g')) := E_CV (ar := [a0, .ref b]) lo_X6_borrow rfl rfl rfl (by decide)
theorem e_X6_borrow_8 {Q : mQ} {l0 l1 l2 l3 : Value} {st : List Value} {g : mG} {x : Nat} : WP m_X6_borrow Q 8 [l0, l1, l2, l3] (.ref x :: st) g = (nl1 l2 ∧ WP m_X6_borrow Q 9 [l0, l1, l2, .ref x] st g) := E_as (i := 3) (n := 1) lo_X6_borrow rfl (Nat.le_of_ble_eq_true rfl)
theorem e_X6_borrow_8n {Q : mQ} {l0 l1 l2 l3 : Value} {st : List Value} {g : mG} : WP m_X6_borrow Q 8 [l0, l1, l2, l3] (.null :: st) g = (nl1 l2 ∧ WP m_X6_borrow Q 9 [l0, l1, l2, .null] st g) := E_asn (i := 3) (n := 1) lo_X6_borrow rfl (Nat.le_of_ble_eq_true rfl)
theorem e_X6_borrow_9 {Q : mQ} {l0 l1 l2 : Value} {st : List Value} {g : mG} {x : Nat} : WP m_X6_borrow Q 9 [l0, l1, l2, .ref x] st g = WP m_X6_borrow Q 10 [l0, l1, l2, .ref x] (.ref x :: st) g := E_al (i := 3) (n := 1) lo_X6_borrow rfl rfl
theorem e_X6_borrow_9n {Q : mQ} {l0 l1 l2 : Value} {st : List Value} {g : mG} : WP m_X6_borrow Q 9 [l0, l1, l2, .null] st g = WP m_X6_borrow Q 10 [l0, l1, l2, .null] (.null :: st) g := E_aln (i := 3) (n := 1) lo_X6_borrow rfl rfl
theorem e_X6_borrow_10 {Q : mQ} {ls st : List Value} {g : mG} {x : Nat} : WP m_X6_borrow Q 10 ls (.ref x :: st) g = WP m_X6_borrow Q 15 ls st g := E_nnr lo_X6_borrow rfl
theorem e_X6_borrow_10n {Q : mQ} {ls st : List Value} {g : mG} : WP m_X6_borrow Q 10 ls (.null :: st) g = WP m_X6_borrow Q 13 ls st g := E_nnn lo_X6_borrow rfl
theorem e_X6_borrow_13 {Q : mQ} {ls st : List Value} {g : mG} : WP m_X6_borrow Q 13 ls st g = WP m_X6_borrow Q 14 ls (.int ((-1)) :: st) g := E_ic (v := (-1)) (n := 1) lo_X6_borrow rfl
theorem e_X6_borrow_14 {Q : mQ} {ls : List Value} {g : mG} {v : Int32} : WP m_X6_borrow Q 14 ls [.int v] g = Q (some (.int v)) g := E_iret lo_X6_borrow rfl
theorem e_X6_borrow_15 {Q : mQ} {l0 l1 l3 : Value} {st : List Value} {g : mG} {x : Int32} : WP m_X6_borrow Q 15 [l0, l1, .int x, l3] st g = WP m_X6_borrow Q 16 [l0, l1, .int x, l3] (.int x :: st) g := E_il (i := 2) (n := 1) lo_X6_borrow rfl rfl
theorem e_X6_borrow_16 {Q : mQ} {ls st : List Value} {g : mG} : WP m_X6_borrow Q 16 ls st g = WP m_X6_borrow Q 17 ls (.int (nI 1) :: st) g := E_ic (v := nI 1) (n := 1) lo_X6_borrow rfl
theorem e_X6_borrow_17 {Q : mQ} {ls st : List Value} {g : mG} : WP m_X6_borrow Q 17 ls st g = WP m_X6_borrow Q 20 ls (.int (nI 999) :: st) g := E_ic (v := nI 999) (n := 3) lo_X6_borrow rfl
theorem e_X6_borrow_20 {Q : mQ} {ls st : List Value} {g : mG} {a0 a1 a2 : Value} : WP m_X6_borrow Q 20 ls (a2 :: a1 :: a0 :: st) g = (st.length ≤ 4 ∧ stbs g ls ∧ stbs g st ∧ w_X6_isWithin [a0, a1, a2] g (fun v g' => WP m_X6_borrow Q 23 ls (v.toList ++ st) g')) := E_CS (ar := [a2, a1, a0]) lo_X6_borrow rfl rfl rfl
theorem e_X6_borrow_23 {Q : mQ} {ls st : List Value} {g : mG} {x : Int32} : WP m_X6_borrow Q 23 ls (.int x :: st) g = ((¬ x = 0 → WP m_X6_borrow Q 29 ls st g) ∧ (¬ (¬ x = 0) → WP m_X6_borrow Q 26 ls st g)) := E_I1 (c := fun x => ¬ x = 0) (t := 29) lo_X6_borrow rfl
theorem e_X6_borrow_26 {Q : mQ} {ls st : List Value} {g : mG} : WP m_X6_borrow Q 26 ls st g = WP m_X6_borrow Q 28 ls (.int ((-2)) :: st) g := E_ic (v := (-2)) (n := 2) lo_X6_borrow rfl
theorem e_X6_borrow_28 {Q : mQ} {ls : List Value} {g : mG} {v : Int32} : WP m_X6_borrow Q 28 ls [.int v] g = Q (some (.int v)) g := E_iret lo_X6_borrow rfl
theorem e_X6_borrow_29 {Q : mQ} {l0 l1 l2 : Value} {st : List Value} {g : mG} {x : Nat} : WP m_X6_borrow Q 29 [l0, l1, l2, .ref x] st g = WP m_X6_borrow Q 30 [l0, l1, l2, .ref x] (.ref x :: st) g := E_al (i := 3) (n := 1) lo_X6_borrow rfl rfl
theorem e_X6_borrow_29n {Q : mQ} {l0 l1 l2 : Value} {st : List Value} {g : mG} : WP m_X6_borrow Q 29 [l0, l1, l2, .null] st g = WP m_X6_borrow Q 30 [l0, l1, l2, .null] (.null :: st) g := E_aln (i := 3) (n := 1) lo_X6_borrow rfl rfl
theorem e_X6_borrow_30 {Q : mQ} {ls st : List Value} {g : mG} {a : Nat} : WP m_X6_borrow Q 30 ls (.ref a :: st) g = (gK g a = 1 ∧ WP m_X6_borrow Q 33 ls (.int (gI g a 3) :: st) g) := E_gI lo_X6_borrow rfl
theorem e_X6_borrow_33 {Q : mQ} {l0 l1 l3 : Value} {st : List Value} {g : mG} {x : Int32} : WP m_X6_borrow Q 33 [l0, l1, .int x, l3] st g = WP m_X6_borrow Q 34 [l0, l1, .int x, l3] (.int x :: st) g := E_il (i := 2) (n := 1) lo_X6_borrow rfl rfl
theorem e_X6_borrow_34 {Q : mQ} {ls st : List Value} {g : mG} {x y : Int32} : WP m_X6_borrow Q 34 ls (.int y :: .int x :: st) g = WP m_X6_borrow Q 35 ls (.int (x + y) :: st) g := E_b2 (f := fun x y => x + y) lo_X6_borrow rfl
theorem e_X6_borrow_35 {Q : mQ} {l0 l1 l2 : Value} {st : List Value} {g : mG} {x : Nat} : WP m_X6_borrow Q 35 [l0, l1, l2, .ref x] st g = WP m_X6_borrow Q 36 [l0, l1, l2, .ref x] (.ref x :: st) g := E_al (i := 3) (n := 1) lo_X6_borrow rfl rfl
theorem e_X6_borrow_35n {Q : mQ} {l0 l1 l2 : Value} {st : List Value} {g : mG} : WP m_X6_borrow Q 35 [l0, l1, l2, .null] st g = WP m_X6_borrow Q 36 [l0, l1, l2, .null] (.null :: st) g := E_aln (i := 3) (n := 1) lo_X6_borrow rfl rfl
theorem e_X6_borrow_36 {Q : mQ} {ls st : List Value} {g : mG} {a : Nat} : WP m_X6_borrow Q 36 ls (.ref a :: st) g = (gK g a = 1 ∧ WP m_X6_borrow Q 39 ls (.int (gI g a 2) :: st) g) := E_gI lo_X6_borrow rfl
theorem e_X6_borrow_39 {Q : mQ} {l1 l2 l3 : Value} {st : List Value} {g : mG} {x : Nat} : WP m_X6_borrow Q 39 [.ref x, l1, l2, l3] st g = WP m_X6_borrow Q 40 [.ref x, l1, l2, l3] (.ref x :: st) g := E_al (i := 0) (n := 1) lo_X6_borrow rfl rfl
theorem e_X6_borrow_40 {Q : mQ} {ls st : List Value} {g : mG} {a : Nat} : WP m_X6_borrow Q 40 ls (.ref a :: st) g = ((gK g a = 7 ∧ gR g a 0 ≠ 0) ∧ WP m_X6_borrow Q 43 ls (.ref (gR g a 0) :: st) g) := E_gR lo_X6_borrow rfl
theorem e_X6_borrow_43 {Q : mQ} {ls st : List Value} {g : mG} {a : Nat} : WP m_X6_borrow Q 43 ls (.ref a :: st) g = ((gK g a = 6 ∧ gR g a 11 ≠ 0) ∧ WP m_X6_borrow Q 46 ls (.ref (gR g a 11) :: st) g) := E_gR lo_X6_borrow rfl
theorem e_X6_borrow_46 {Q : mQ} {ls st : List Value} {g : mG} : WP m_X6_borrow Q 46 ls st g = WP m_X6_borrow Q 47 ls (.int (nI 2) :: st) g := E_ic (v := nI 2) (n := 1) lo_X6_borrow rfl
theorem e_X6_borrow_47 {Q : mQ} {ls st : List Value} {g : mG} {a : Nat} {i : Int32} : WP m_X6_borrow Q 47 ls (.int i :: .ref a :: st) g = ((isIA g a ∧ vp_in i (gN g a)) ∧ WP m_X6_borrow Q 48 ls (.int (gI g a i.toNatClampNeg) :: st) g) := E_iald lo_X6_borrow rfl
theorem e_X6_borrow_48 {Q : mQ} {ls st : List Value} {g : mG} {x y : Int32} : WP m_X6_borrow Q 48 ls (.int y :: .int x :: st) g = WP m_X6_borrow Q 49 ls (.int (x * y) :: st) g := E_b2 (f := fun x y => x * y) lo_X6_borrow rfl
theorem e_X6_borrow_49 {Q : mQ} {ls st : List Value} {g : mG} : WP m_X6_borrow Q 49 ls st g = WP m_X6_borrow Q 51 ls (.int (nI 100) :: st) g := E_ic (v := nI 100) (n := 2) lo_X6_borrow rfl
theorem e_X6_borrow_51 {Q : mQ} {ls st : List Value} {g : mG} {x y : Int32} : WP m_X6_borrow Q 51 ls (.int y :: .int x :: st) g = (¬ y = 0 ∧ WP m_X6_borrow Q 52 ls (.int (x / y) :: st) g) := E_div lo_X6_borrow rfl
theorem e_X6_borrow_52 {Q : mQ} {ls st : List Value} {g : mG} {x y : Int32} : WP m_X6_borrow Q 52 ls (.int y :: .int x :: st) g = ((x ≤ y → WP m_X6_borrow Q 58 ls st g) ∧ (¬ (x ≤ y) → WP m_X6_borrow Q 55 ls st g)) := E_I2 (c := fun x y => x ≤ y) (t := 58) lo_X6_borrow rfl
theorem e_X6_borrow_55 {Q : mQ} {ls st : List Value} {g : mG} : WP m_X6_borrow Q 55 ls st g = WP m_X6_borrow Q 57 ls (.int ((-3)) :: st) g := E_ic (v := (-3)) (n := 2) lo_X6_borrow rfl
theorem e_X6_borrow_57 {Q : mQ} {ls : List Value} {g : mG} {v : Int32} : WP m_X6_borrow Q 57 ls [.int v] g = Q (some (.int v)) g := E_iret lo_X6_borrow rfl
theorem e_X6_borrow_58 {Q : mQ} {l1 l2 l3 : Value} {st : List Value} {g : mG} {x : Nat} : WP m_X6_borrow Q 58 [.ref x, l1, l2, l3] st g = WP m_X6_borrow Q 59 [.ref x, l1, l2, l3] (.ref x :: st) g := E_al (i := 0) (n := 1) lo_X6_borrow rfl rfl
theorem e_X6_borrow_59 {Q : mQ} {ls st : List Value} {g : mG} {b : Nat} : WP m_X6_borrow Q 59 ls (.ref b :: st) g = (st.length ≤ 4 ∧ gK g b = 7 ∧ stbs g ls ∧ stbs g st ∧ w_X6_record [.ref b] g (fun v g' => WP m_X6_borrow Q 62 ls (v.toList ++ st) g')) := E_CV (ar := [.ref b]) lo_X6_borrow rfl rfl rfl (by decide)
theorem e_X6_borrow_62 {Q : mQ} {l0 l1 l2 : Value} {st : List Value} {g : mG} {x : Nat} : WP m_X6_borrow Q 62 [l0, l1, l2, .ref x] st g = WP m_X6_borrow Q 63 [l0, l1, l2, .ref x] (.ref x :: st) g := E_al (i := 3) (n := 1) lo_X6_borrow rfl rfl
theorem e_X6_borrow_62n {Q : mQ} {l0 l1 l2 : Value} {st : List Value} {g : mG} : WP m_X6_borrow Q 62 [l0, l1, l2, .null] st g = WP m_X6_borrow Q 63 [l0, l1, l2, .null] (.null :: st) g := E_aln (i := 3) (n := 1) lo_X6_borrow rfl rfl
theorem e_X6_borrow_63 {Q : mQ} {ls st : List Value} {g : mG} {x : Value} : WP m_X6_borrow Q 63 ls (x :: st) g = (cat1 x ∧ WP m_X6_borrow Q 64 ls (x :: x :: st) g) := E_dup lo_X6_borrow rfl
theorem e_X6_borrow_64 {Q : mQ} {ls st : List Value} {g : mG} {a : Nat} : WP m_X6_borrow Q 64 ls (.ref a :: st) g = (gK g a = 1 ∧ WP m_X6_borrow Q 67 ls (.int (gI g a 3) :: st) g) := E_gI lo_X6_borrow rfl
theorem e_X6_borrow_67 {Q : mQ} {l0 l1 l3 : Value} {st : List Value} {g : mG} {x : Int32} : WP m_X6_borrow Q 67 [l0, l1, .int x, l3] st g = WP m_X6_borrow Q 68 [l0, l1, .int x, l3] (.int x :: st) g := E_il (i := 2) (n := 1) lo_X6_borrow rfl rfl
theorem e_X6_borrow_68 {Q : mQ} {ls st : List Value} {g : mG} {x y : Int32} : WP m_X6_borrow Q 68 ls (.int y :: .int x :: st) g = WP m_X6_borrow Q 69 ls (.int (x + y) :: st) g := E_b2 (f := fun x y => x + y) lo_X6_borrow rfl
theorem e_X6_borrow_69 {Q : mQ} {ls st : List Value} {g : mG} {a : Nat} {v : Int32} : WP m_X6_borrow Q 69 ls (.int v :: .ref a :: st) g = (gK g a = 1 ∧ WP m_X6_borrow Q 72 ls st (pI g a 3 v)) := E_pI lo_X6_borrow rfl
theorem e_X6_borrow_72 {Q : mQ} {l0 l1 l2 : Value} {st : List Value} {g : mG} {x : Nat} : WP m_X6_borrow Q 72 [l0, l1, l2, .ref x] st g = WP m_X6_borrow Q 73 [l0, l1, l2, .ref x] (.ref x :: st) g := E_al (i := 3) (n := 1) lo_X6_borrow rfl rfl
theorem e_X6_borrow_72n {Q : mQ} {l0 l1 l2 : Value} {st : List Value} {g : mG} : WP m_X6_borrow Q 72 [l0, l1, l2, .null] st g = WP m_X6_borrow Q 73 [l0, l1, l2, .null] (.null :: st) g := E_aln (i := 3) (n := 1) lo_X6_borrow rfl rfl
theorem e_X6_borrow_73 {Q : mQ} {ls st : List Value} {g : mG} {a : Nat} : WP m_X6_borrow Q 73 ls (.ref a :: st) g = (gK g a = 1 ∧ WP m_X6_borrow Q 76 ls (.int (gI g a 3) :: st) g) := E_gI lo_X6_borrow rfl
theorem e_X6_borrow_76 {Q : mQ} {ls : List Value} {g : mG} {v : Int32} : WP m_X6_borrow Q 76 ls [.int v] g = Q (some (.int v)) g := E_iret lo_X6_borrow rfl
/-! KilnPermits.buyReserve(II)I -/
def m_X6_buyReserve : List (Nat × mT) := [(0, tD (f_al 0 1)),
  (1, tD (f_gR 7 0)),
  (4, tD (f_il 1 1)),
  (5, tC w_X5_kilnAt 6 2),
  (8, tD (f_as 3 1)),
  (9, tD (f_al 3 1)),
  (10, tD (f_ifn 15 false)),
  (13, tD (f_ic ((-1)) 1)),
  (14, tR f_iret),
  (15, tD (f_il 2 1)),
  (16, tD (f_ic (nI 1) 1)),
  (17, tD (f_ic (nI 999) 3)),
  (20, tC w_X6_isWithin 0 3),
  (23, tI1 (fun x => ¬ x = 0) 29),
  (26, tD (f_ic ((-2)) 2)),
  (28, tR f_iret),
  (29, tD (f_al 0 1)),
  (30, tD (f_gR 7 0)),
  (33, tD (f_gI 6 4)),
  (36, tD (f_il 2 1)),
  (37, tI2 (fun x y => x < y) 58),
  (40, tD (f_al 3 1)),
  (41, tD (f_gI 1 0)),
  (44, tD (f_il 2 1)),
  (45, tD (f_al 0 1)),
  (46, tD (f_gR 7 0)),
  (49, tD (f_gR 6 11)),
  (52, tD (f_ic (nI 1) 1)),
  (53, tD (f_iald)),
  (54, tD (f_b2 fun x y => x * y)),
  (55, tI2 (fun x y => y ≤ x) 61),
  (58, tD (f_ic ((-3)) 2)),
  (60, tR f_iret),
  (61, tD (f_al 0 1)),
  (62, tC w_X6_record 7 1),
  (65, tD (f_al 0 1)),
  (66, tD (f_gR 7 0)),
  (69, tD (f_al 3 1)),
  (70, tD (f_il 2 1)),
  (71, tC w_X5_sellReserve 6 3),
  (74, tD (f_al 0 1)),
  (75, tD (f_gR 7 0)),
  (78, tD (f_gI 6 4)),
  (81, tR f_iret)]
abbrev w_X6_buyReserve : mS := wm m_X6_buyReserve 3 1
set_option maxRecDepth 100000 in
theorem lo_X6_buyReserve : locs_ok m_X6_buyReserve := List.forall_mem_cons.mpr ⟨loc_D mo_al,
  List.forall_mem_cons.mpr ⟨loc_D mo_gR,
  List.forall_mem_cons.mpr ⟨loc_D mo_il,
  List.forall_mem_cons.mpr ⟨loc_C sm_X5_kilnAt.1,
  List.forall_mem_cons.mpr ⟨loc_D mo_as,
  List.forall_mem_cons.mpr ⟨loc_D mo_al,
  List.forall_mem_cons.mpr ⟨loc_D mo_ifn,
  List.forall_mem_cons.mpr ⟨loc_D mo_ic,
  List.forall_mem_cons.mpr ⟨loc_R,
  List.forall_mem_cons.mpr ⟨loc_D mo_il,
  List.forall_mem_cons.mpr ⟨loc_D mo_ic,
  List.forall_mem_cons.mpr ⟨loc_D mo_ic,
  List.forall_mem_cons.mpr ⟨loc_C sm_X6_isWithin.1,
  List.forall_mem_cons.mpr ⟨loc_I1,
  List.forall_mem_cons.mpr ⟨loc_D mo_ic,
  List.forall_mem_cons.mpr ⟨loc_R,
  List.forall_mem_cons.mpr ⟨loc_D mo_al,
  List.forall_mem_cons.mpr ⟨loc_D mo_gR,
  List.forall_mem_cons.mpr ⟨loc_D mo_gI,
  List.forall_mem_cons.mpr ⟨loc_D mo_il,
  List.forall_mem_cons.mpr ⟨loc_I2,
  List.forall_mem_cons.mpr ⟨loc_D mo_al,
  List.forall_mem_cons.mpr ⟨loc_D mo_gI,
  List.forall_mem_cons.mpr ⟨loc_D mo_il,
  List.forall_mem_cons.mpr ⟨loc_D mo_al,
  List.forall_mem_cons.mpr ⟨loc_D mo_gR,
  List.forall_mem_cons.mpr ⟨loc_D mo_gR,
  List.forall_mem_cons.mpr ⟨loc_D mo_ic,
  List.forall_mem_cons.mpr ⟨loc_D mo_iald,
  List.forall_mem_cons.mpr ⟨loc_D mo_b2,
  List.forall_mem_cons.mpr ⟨loc_I2,
  List.forall_mem_cons.mpr ⟨loc_D mo_ic,
  List.forall_mem_cons.mpr ⟨loc_R,
  List.forall_mem_cons.mpr ⟨loc_D mo_al,
  List.forall_mem_cons.mpr ⟨loc_C sm_X6_record.1,
  List.forall_mem_cons.mpr ⟨loc_D mo_al,
  List.forall_mem_cons.mpr ⟨loc_D mo_gR,
  List.forall_mem_cons.mpr ⟨loc_D mo_al,
  List.forall_mem_cons.mpr ⟨loc_D mo_il,
  List.forall_mem_cons.mpr ⟨loc_C sm_X5_sellReserve.1,
  List.forall_mem_cons.mpr ⟨loc_D mo_al,
  List.forall_mem_cons.mpr ⟨loc_D mo_gR,
  List.forall_mem_cons.mpr ⟨loc_D mo_gI,
  List.forall_mem_cons.mpr ⟨loc_R,
  fun _ h => absurd h List.not_mem_nil⟩⟩⟩⟩⟩⟩⟩⟩⟩⟩⟩⟩⟩⟩⟩⟩⟩⟩⟩⟩⟩⟩⟩⟩⟩⟩⟩⟩⟩⟩⟩⟩⟩⟩⟩⟩⟩⟩⟩⟩⟩⟩⟩⟩
set_option maxRecDepth 100000 in
theorem sm_X6_buyReserve : SM yX6_buyReserve cX6_buyReserve 4 (some .int) 5 w_X6_buyReserve := SM_of' RX6 "buyReserve" rfl rfl (by decide) (by decide) (by decide) lo_X6_buyReserve (List.forall_mem_cons.mpr ⟨STP.r mo_al (q_aload_n dX6_buyReserve_0 rfl),
  List.forall_mem_cons.mpr ⟨STP.r mo_gR (q_gR ⟨by decide, by decide⟩ (by decide) rfl (by decide) kf_X6_12 dX6_buyReserve_1),
  List.forall_mem_cons.mpr ⟨STP.r mo_il (q_iload_n dX6_buyReserve_4 rfl),
  List.forall_mem_cons.mpr ⟨(snd_CV sm_X5_kilnAt ⟨by decide, by decide⟩ rfl km_X6_33 kt_X5_kilnAt kv_X5_kilnAt rfl ki_X5 kx_X5_kilnAt ⟨by decide, by decide, by decide +kernel⟩ (by decide) (by decide) dX6_buyReserve_5).r,
  List.forall_mem_cons.mpr ⟨STP.r mo_as (q_astore_n dX6_buyReserve_8 rfl),
  List.forall_mem_cons.mpr ⟨STP.r mo_al (q_aload_n dX6_buyReserve_9 rfl),
  List.forall_mem_cons.mpr ⟨STP.r mo_ifn (q_ifnonnull dX6_buyReserve_10 (by decide)),
  List.forall_mem_cons.mpr ⟨STP.r mo_ic (q_iconst dX6_buyReserve_13 (by decide)),
  List.forall_mem_cons.mpr ⟨r_iret dX6_buyReserve_14,
  List.forall_mem_cons.mpr ⟨STP.r mo_il (q_iload_n dX6_buyReserve_15 rfl),
  List.forall_mem_cons.mpr ⟨STP.r mo_ic (q_iconst dX6_buyReserve_16 (by decide)),
  List.forall_mem_cons.mpr ⟨STP.r mo_ic (q_sipush dX6_buyReserve_17 (by decide)),
  List.forall_mem_cons.mpr ⟨(snd_CS sm_X6_isWithin km_X6_37 ks_X6_isWithin ki_X6 kx_X6_isWithin ⟨by decide, by decide, by decide +kernel⟩ (by decide) (by decide) dX6_buyReserve_20).r,
  List.forall_mem_cons.mpr ⟨(q_if_ne dX6_buyReserve_23 (by decide)).r,
  List.forall_mem_cons.mpr ⟨STP.r mo_ic (q_bipush dX6_buyReserve_26 (by decide)),
  List.forall_mem_cons.mpr ⟨r_iret dX6_buyReserve_28,
  List.forall_mem_cons.mpr ⟨STP.r mo_al (q_aload_n dX6_buyReserve_29 rfl),
  List.forall_mem_cons.mpr ⟨STP.r mo_gR (q_gR ⟨by decide, by decide⟩ (by decide) rfl (by decide) kf_X6_12 dX6_buyReserve_30),
  List.forall_mem_cons.mpr ⟨STP.r mo_gI (q_gI ⟨by decide, by decide⟩ (by decide) rfl kf_X6_123 dX6_buyReserve_33),
  List.forall_mem_cons.mpr ⟨STP.r mo_il (q_iload_n dX6_buyReserve_36 rfl),
  List.forall_mem_cons.mpr ⟨(q_ic_lt dX6_buyReserve_37 (by decide)).r,
  List.forall_mem_cons.mpr ⟨STP.r mo_al (q_aload_n dX6_buyReserve_40 rfl),
  List.forall_mem_cons.mpr ⟨STP.r mo_gI (q_gI ⟨by decide, by decide⟩ (by decide) rfl kf_X6_126 dX6_buyReserve_41),
  List.forall_mem_cons.mpr ⟨STP.r mo_il (q_iload_n dX6_buyReserve_44 rfl),
  List.forall_mem_cons.mpr ⟨STP.r mo_al (q_aload_n dX6_buyReserve_45 rfl),
  List.forall_mem_cons.mpr ⟨STP.r mo_gR (q_gR ⟨by decide, by decide⟩ (by decide) rfl (by decide) kf_X6_12 dX6_buyReserve_46),
  List.forall_mem_cons.mpr ⟨STP.r mo_gR (q_gR ⟨by decide, by decide⟩ (by decide) rfl (by decide) kf_X6_60 dX6_buyReserve_49),
  List.forall_mem_cons.mpr ⟨STP.r mo_ic (q_iconst dX6_buyReserve_52 (by decide)),
  List.forall_mem_cons.mpr ⟨STP.r mo_iald (q_iald dX6_buyReserve_53),
  List.forall_mem_cons.mpr ⟨STP.r mo_b2 (q_imul dX6_buyReserve_54),
  List.forall_mem_cons.mpr ⟨(q_ic_ge dX6_buyReserve_55 (by decide)).r,
  List.forall_mem_cons.mpr ⟨STP.r mo_ic (q_bipush dX6_buyReserve_58 (by decide)),
  List.forall_mem_cons.mpr ⟨r_iret dX6_buyReserve_60,
  List.forall_mem_cons.mpr ⟨STP.r mo_al (q_aload_n dX6_buyReserve_61 rfl),
  List.forall_mem_cons.mpr ⟨(snd_CV sm_X6_record ⟨by decide, by decide⟩ rfl km_X6_41 kt_X6_record kv_X6_record rfl ki_X6 kx_X6_record ⟨by decide, by decide, by decide +kernel⟩ (by decide) (by decide) dX6_buyReserve_62).r,
  List.forall_mem_cons.mpr ⟨STP.r mo_al (q_aload_n dX6_buyReserve_65 rfl),
  List.forall_mem_cons.mpr ⟨STP.r mo_gR (q_gR ⟨by decide, by decide⟩ (by decide) rfl (by decide) kf_X6_12 dX6_buyReserve_66),
  List.forall_mem_cons.mpr ⟨STP.r mo_al (q_aload_n dX6_buyReserve_69 rfl),
  List.forall_mem_cons.mpr ⟨STP.r mo_il (q_iload_n dX6_buyReserve_70 rfl),
  List.forall_mem_cons.mpr ⟨(snd_CV sm_X5_sellReserve ⟨by decide, by decide⟩ rfl km_X6_129 kt_X5_sellReserve kv_X5_sellReserve rfl ki_X5 kx_X5_sellReserve ⟨by decide, by decide, by decide +kernel⟩ (by decide) (by decide) dX6_buyReserve_71).r,
  List.forall_mem_cons.mpr ⟨STP.r mo_al (q_aload_n dX6_buyReserve_74 rfl),
  List.forall_mem_cons.mpr ⟨STP.r mo_gR (q_gR ⟨by decide, by decide⟩ (by decide) rfl (by decide) kf_X6_12 dX6_buyReserve_75),
  List.forall_mem_cons.mpr ⟨STP.r mo_gI (q_gI ⟨by decide, by decide⟩ (by decide) rfl kf_X6_123 dX6_buyReserve_78),
  List.forall_mem_cons.mpr ⟨r_iret dX6_buyReserve_81,
  fun _ h => absurd h List.not_mem_nil⟩⟩⟩⟩⟩⟩⟩⟩⟩⟩⟩⟩⟩⟩⟩⟩⟩⟩⟩⟩⟩⟩⟩⟩⟩⟩⟩⟩⟩⟩⟩⟩⟩⟩⟩⟩⟩⟩⟩⟩⟩⟩⟩⟩)
theorem e_X6_buyReserve_0 {Q : mQ} {l1 l2 l3 : Value} {st : List Value} {g : mG} {x : Nat} : WP m_X6_buyReserve Q 0 [.ref x, l1, l2, l3] st g = WP m_X6_buyReserve Q 1 [.ref x, l1, l2, l3] (.ref x :: st) g := E_al (i := 0) (n := 1) lo_X6_buyReserve rfl rfl
theorem e_X6_buyReserve_1 {Q : mQ} {ls st : List Value} {g : mG} {a : Nat} : WP m_X6_buyReserve Q 1 ls (.ref a :: st) g = ((gK g a = 7 ∧ gR g a 0 ≠ 0) ∧ WP m_X6_buyReserve Q 4 ls (.ref (gR g a 0) :: st) g) := E_gR lo_X6_buyReserve rfl
theorem e_X6_buyReserve_4 {Q : mQ} {l0 l2 l3 : Value} {st : List Value} {g : mG} {x : Int32} : WP m_X6_buyReserve Q 4 [l0, .int x, l2, l3] st g = WP m_X6_buyReserve Q 5 [l0, .int x, l2, l3] (.int x :: st) g := E_il (i := 1) (n := 1) lo_X6_buyReserve rfl rfl
theorem e_X6_buyReserve_5 {Q : mQ} {ls st : List Value} {g : mG} {b : Nat} {a0 : Value} : WP m_X6_buyReserve Q 5 ls (a0 :: .ref b :: st) g = (st.length ≤ 4 ∧ gK g b = 6 ∧ stbs g ls ∧ stbs g st ∧ w_X5_kilnAt [.ref b, a0] g (fun v g' => WP m_X6_buyReserve Q 8 ls (v.toList ++ st) g')) := E_CV (ar := [a0, .ref b]) lo_X6_buyReserve rfl rfl rfl (by decide)
theorem e_X6_buyReserve_8 {Q : mQ} {l0 l1 l2 l3 : Value} {st : List Value} {g : mG} {x : Nat} : WP m_X6_buyReserve Q 8 [l0, l1, l2, l3] (.ref x :: st) g = (nl1 l2 ∧ WP m_X6_buyReserve Q 9 [l0, l1, l2, .ref x] st g) := E_as (i := 3) (n := 1) lo_X6_buyReserve rfl (Nat.le_of_ble_eq_true rfl)
theorem e_X6_buyReserve_8n {Q : mQ} {l0 l1 l2 l3 : Value} {st : List Value} {g : mG} : WP m_X6_buyReserve Q 8 [l0, l1, l2, l3] (.null :: st) g = (nl1 l2 ∧ WP m_X6_buyReserve Q 9 [l0, l1, l2, .null] st g) := E_asn (i := 3) (n := 1) lo_X6_buyReserve rfl (Nat.le_of_ble_eq_true rfl)
theorem e_X6_buyReserve_9 {Q : mQ} {l0 l1 l2 : Value} {st : List Value} {g : mG} {x : Nat} : WP m_X6_buyReserve Q 9 [l0, l1, l2, .ref x] st g = WP m_X6_buyReserve Q 10 [l0, l1, l2, .ref x] (.ref x :: st) g := E_al (i := 3) (n := 1) lo_X6_buyReserve rfl rfl
theorem e_X6_buyReserve_9n {Q : mQ} {l0 l1 l2 : Value} {st : List Value} {g : mG} : WP m_X6_buyReserve Q 9 [l0, l1, l2, .null] st g = WP m_X6_buyReserve Q 10 [l0, l1, l2, .null] (.null :: st) g := E_aln (i := 3) (n := 1) lo_X6_buyReserve rfl rfl
theorem e_X6_buyReserve_10 {Q : mQ} {ls st : List Value} {g : mG} {x : Nat} : WP m_X6_buyReserve Q 10 ls (.ref x :: st) g = WP m_X6_buyReserve Q 15 ls st g := E_nnr lo_X6_buyReserve rfl
theorem e_X6_buyReserve_10n {Q : mQ} {ls st : List Value} {g : mG} : WP m_X6_buyReserve Q 10 ls (.null :: st) g = WP m_X6_buyReserve Q 13 ls st g := E_nnn lo_X6_buyReserve rfl
theorem e_X6_buyReserve_13 {Q : mQ} {ls st : List Value} {g : mG} : WP m_X6_buyReserve Q 13 ls st g = WP m_X6_buyReserve Q 14 ls (.int ((-1)) :: st) g := E_ic (v := (-1)) (n := 1) lo_X6_buyReserve rfl
theorem e_X6_buyReserve_14 {Q : mQ} {ls : List Value} {g : mG} {v : Int32} : WP m_X6_buyReserve Q 14 ls [.int v] g = Q (some (.int v)) g := E_iret lo_X6_buyReserve rfl
theorem e_X6_buyReserve_15 {Q : mQ} {l0 l1 l3 : Value} {st : List Value} {g : mG} {x : Int32} : WP m_X6_buyReserve Q 15 [l0, l1, .int x, l3] st g = WP m_X6_buyReserve Q 16 [l0, l1, .int x, l3] (.int x :: st) g := E_il (i := 2) (n := 1) lo_X6_buyReserve rfl rfl
theorem e_X6_buyReserve_16 {Q : mQ} {ls st : List Value} {g : mG} : WP m_X6_buyReserve Q 16 ls st g = WP m_X6_buyReserve Q 17 ls (.int (nI 1) :: st) g := E_ic (v := nI 1) (n := 1) lo_X6_buyReserve rfl
theorem e_X6_buyReserve_17 {Q : mQ} {ls st : List Value} {g : mG} : WP m_X6_buyReserve Q 17 ls st g = WP m_X6_buyReserve Q 20 ls (.int (nI 999) :: st) g := E_ic (v := nI 999) (n := 3) lo_X6_buyReserve rfl
theorem e_X6_buyReserve_20 {Q : mQ} {ls st : List Value} {g : mG} {a0 a1 a2 : Value} : WP m_X6_buyReserve Q 20 ls (a2 :: a1 :: a0 :: st) g = (st.length ≤ 4 ∧ stbs g ls ∧ stbs g st ∧ w_X6_isWithin [a0, a1, a2] g (fun v g' => WP m_X6_buyReserve Q 23 ls (v.toList ++ st) g')) := E_CS (ar := [a2, a1, a0]) lo_X6_buyReserve rfl rfl rfl
theorem e_X6_buyReserve_23 {Q : mQ} {ls st : List Value} {g : mG} {x : Int32} : WP m_X6_buyReserve Q 23 ls (.int x :: st) g = ((¬ x = 0 → WP m_X6_buyReserve Q 29 ls st g) ∧ (¬ (¬ x = 0) → WP m_X6_buyReserve Q 26 ls st g)) := E_I1 (c := fun x => ¬ x = 0) (t := 29) lo_X6_buyReserve rfl
theorem e_X6_buyReserve_26 {Q : mQ} {ls st : List Value} {g : mG} : WP m_X6_buyReserve Q 26 ls st g = WP m_X6_buyReserve Q 28 ls (.int ((-2)) :: st) g := E_ic (v := (-2)) (n := 2) lo_X6_buyReserve rfl
theorem e_X6_buyReserve_28 {Q : mQ} {ls : List Value} {g : mG} {v : Int32} : WP m_X6_buyReserve Q 28 ls [.int v] g = Q (some (.int v)) g := E_iret lo_X6_buyReserve rfl
theorem e_X6_buyReserve_29 {Q : mQ} {l1 l2 l3 : Value} {st : List Value} {g : mG} {x : Nat} : WP m_X6_buyReserve Q 29 [.ref x, l1, l2, l3] st g = WP m_X6_buyReserve Q 30 [.ref x, l1, l2, l3] (.ref x :: st) g := E_al (i := 0) (n := 1) lo_X6_buyReserve rfl rfl
theorem e_X6_buyReserve_30 {Q : mQ} {ls st : List Value} {g : mG} {a : Nat} : WP m_X6_buyReserve Q 30 ls (.ref a :: st) g = ((gK g a = 7 ∧ gR g a 0 ≠ 0) ∧ WP m_X6_buyReserve Q 33 ls (.ref (gR g a 0) :: st) g) := E_gR lo_X6_buyReserve rfl
theorem e_X6_buyReserve_33 {Q : mQ} {ls st : List Value} {g : mG} {a : Nat} : WP m_X6_buyReserve Q 33 ls (.ref a :: st) g = (gK g a = 6 ∧ WP m_X6_buyReserve Q 36 ls (.int (gI g a 4) :: st) g) := E_gI lo_X6_buyReserve rfl
theorem e_X6_buyReserve_36 {Q : mQ} {l0 l1 l3 : Value} {st : List Value} {g : mG} {x : Int32} : WP m_X6_buyReserve Q 36 [l0, l1, .int x, l3] st g = WP m_X6_buyReserve Q 37 [l0, l1, .int x, l3] (.int x :: st) g := E_il (i := 2) (n := 1) lo_X6_buyReserve rfl rfl
theorem e_X6_buyReserve_37 {Q : mQ} {ls st : List Value} {g : mG} {x y : Int32} : WP m_X6_buyReserve Q 37 ls (.int y :: .int x :: st) g = ((x < y → WP m_X6_buyReserve Q 58 ls st g) ∧ (¬ (x < y) → WP m_X6_buyReserve Q 40 ls st g)) := E_I2 (c := fun x y => x < y) (t := 58) lo_X6_buyReserve rfl
theorem e_X6_buyReserve_40 {Q : mQ} {l0 l1 l2 : Value} {st : List Value} {g : mG} {x : Nat} : WP m_X6_buyReserve Q 40 [l0, l1, l2, .ref x] st g = WP m_X6_buyReserve Q 41 [l0, l1, l2, .ref x] (.ref x :: st) g := E_al (i := 3) (n := 1) lo_X6_buyReserve rfl rfl
theorem e_X6_buyReserve_40n {Q : mQ} {l0 l1 l2 : Value} {st : List Value} {g : mG} : WP m_X6_buyReserve Q 40 [l0, l1, l2, .null] st g = WP m_X6_buyReserve Q 41 [l0, l1, l2, .null] (.null :: st) g := E_aln (i := 3) (n := 1) lo_X6_buyReserve rfl rfl
theorem e_X6_buyReserve_41 {Q : mQ} {ls st : List Value} {g : mG} {a : Nat} : WP m_X6_buyReserve Q 41 ls (.ref a :: st) g = (gK g a = 1 ∧ WP m_X6_buyReserve Q 44 ls (.int (gI g a 0) :: st) g) := E_gI lo_X6_buyReserve rfl
theorem e_X6_buyReserve_44 {Q : mQ} {l0 l1 l3 : Value} {st : List Value} {g : mG} {x : Int32} : WP m_X6_buyReserve Q 44 [l0, l1, .int x, l3] st g = WP m_X6_buyReserve Q 45 [l0, l1, .int x, l3] (.int x :: st) g := E_il (i := 2) (n := 1) lo_X6_buyReserve rfl rfl
theorem e_X6_buyReserve_45 {Q : mQ} {l1 l2 l3 : Value} {st : List Value} {g : mG} {x : Nat} : WP m_X6_buyReserve Q 45 [.ref x, l1, l2, l3] st g = WP m_X6_buyReserve Q 46 [.ref x, l1, l2, l3] (.ref x :: st) g := E_al (i := 0) (n := 1) lo_X6_buyReserve rfl rfl
theorem e_X6_buyReserve_46 {Q : mQ} {ls st : List Value} {g : mG} {a : Nat} : WP m_X6_buyReserve Q 46 ls (.ref a :: st) g = ((gK g a = 7 ∧ gR g a 0 ≠ 0) ∧ WP m_X6_buyReserve Q 49 ls (.ref (gR g a 0) :: st) g) := E_gR lo_X6_buyReserve rfl
theorem e_X6_buyReserve_49 {Q : mQ} {ls st : List Value} {g : mG} {a : Nat} : WP m_X6_buyReserve Q 49 ls (.ref a :: st) g = ((gK g a = 6 ∧ gR g a 11 ≠ 0) ∧ WP m_X6_buyReserve Q 52 ls (.ref (gR g a 11) :: st) g) := E_gR lo_X6_buyReserve rfl
theorem e_X6_buyReserve_52 {Q : mQ} {ls st : List Value} {g : mG} : WP m_X6_buyReserve Q 52 ls st g = WP m_X6_buyReserve Q 53 ls (.int (nI 1) :: st) g := E_ic (v := nI 1) (n := 1) lo_X6_buyReserve rfl
theorem e_X6_buyReserve_53 {Q : mQ} {ls st : List Value} {g : mG} {a : Nat} {i : Int32} : WP m_X6_buyReserve Q 53 ls (.int i :: .ref a :: st) g = ((isIA g a ∧ vp_in i (gN g a)) ∧ WP m_X6_buyReserve Q 54 ls (.int (gI g a i.toNatClampNeg) :: st) g) := E_iald lo_X6_buyReserve rfl
theorem e_X6_buyReserve_54 {Q : mQ} {ls st : List Value} {g : mG} {x y : Int32} : WP m_X6_buyReserve Q 54 ls (.int y :: .int x :: st) g = WP m_X6_buyReserve Q 55 ls (.int (x * y) :: st) g := E_b2 (f := fun x y => x * y) lo_X6_buyReserve rfl
theorem e_X6_buyReserve_55 {Q : mQ} {ls st : List Value} {g : mG} {x y : Int32} : WP m_X6_buyReserve Q 55 ls (.int y :: .int x :: st) g = ((y ≤ x → WP m_X6_buyReserve Q 61 ls st g) ∧ (¬ (y ≤ x) → WP m_X6_buyReserve Q 58 ls st g)) := E_I2 (c := fun x y => y ≤ x) (t := 61) lo_X6_buyReserve rfl
theorem e_X6_buyReserve_58 {Q : mQ} {ls st : List Value} {g : mG} : WP m_X6_buyReserve Q 58 ls st g = WP m_X6_buyReserve Q 60 ls (.int ((-3)) :: st) g := E_ic (v := (-3)) (n := 2) lo_X6_buyReserve rfl
theorem e_X6_buyReserve_60 {Q : mQ} {ls : List Value} {g : mG} {v : Int32} : WP m_X6_buyReserve Q 60 ls [.int v] g = Q (some (.int v)) g := E_iret lo_X6_buyReserve rfl
theorem e_X6_buyReserve_61 {Q : mQ} {l1 l2 l3 : Value} {st : List Value} {g : mG} {x : Nat} : WP m_X6_buyReserve Q 61 [.ref x, l1, l2, l3] st g = WP m_X6_buyReserve Q 62 [.ref x, l1, l2, l3] (.ref x :: st) g := E_al (i := 0) (n := 1) lo_X6_buyReserve rfl rfl
theorem e_X6_buyReserve_62 {Q : mQ} {ls st : List Value} {g : mG} {b : Nat} : WP m_X6_buyReserve Q 62 ls (.ref b :: st) g = (st.length ≤ 4 ∧ gK g b = 7 ∧ stbs g ls ∧ stbs g st ∧ w_X6_record [.ref b] g (fun v g' => WP m_X6_buyReserve Q 65 ls (v.toList ++ st) g')) := E_CV (ar := [.ref b]) lo_X6_buyReserve rfl rfl rfl (by decide)
theorem e_X6_buyReserve_65 {Q : mQ} {l1 l2 l3 : Value} {st : List Value} {g : mG} {x : Nat} : WP m_X6_buyReserve Q 65 [.ref x, l1, l2, l3] st g = WP m_X6_buyReserve Q 66 [.ref x, l1, l2, l3] (.ref x :: st) g := E_al (i := 0) (n := 1) lo_X6_buyReserve rfl rfl
theorem e_X6_buyReserve_66 {Q : mQ} {ls st : List Value} {g : mG} {a : Nat} : WP m_X6_buyReserve Q 66 ls (.ref a :: st) g = ((gK g a = 7 ∧ gR g a 0 ≠ 0) ∧ WP m_X6_buyReserve Q 69 ls (.ref (gR g a 0) :: st) g) := E_gR lo_X6_buyReserve rfl
theorem e_X6_buyReserve_69 {Q : mQ} {l0 l1 l2 : Value} {st : List Value} {g : mG} {x : Nat} : WP m_X6_buyReserve Q 69 [l0, l1, l2, .ref x] st g = WP m_X6_buyReserve Q 70 [l0, l1, l2, .ref x] (.ref x :: st) g := E_al (i := 3) (n := 1) lo_X6_buyReserve rfl rfl
theorem e_X6_buyReserve_69n {Q : mQ} {l0 l1 l2 : Value} {st : List Value} {g : mG} : WP m_X6_buyReserve Q 69 [l0, l1, l2, .null] st g = WP m_X6_buyReserve Q 70 [l0, l1, l2, .null] (.null :: st) g := E_aln (i := 3) (n := 1) lo_X6_buyReserve rfl rfl
theorem e_X6_buyReserve_70 {Q : mQ} {l0 l1 l3 : Value} {st : List Value} {g : mG} {x : Int32} : WP m_X6_buyReserve Q 70 [l0, l1, .int x, l3] st g = WP m_X6_buyReserve Q 71 [l0, l1, .int x, l3] (.int x :: st) g := E_il (i := 2) (n := 1) lo_X6_buyReserve rfl rfl
theorem e_X6_buyReserve_71 {Q : mQ} {ls st : List Value} {g : mG} {b : Nat} {a0 a1 : Value} : WP m_X6_buyReserve Q 71 ls (a1 :: a0 :: .ref b :: st) g = (st.length ≤ 4 ∧ gK g b = 6 ∧ stbs g ls ∧ stbs g st ∧ w_X5_sellReserve [.ref b, a0, a1] g (fun v g' => WP m_X6_buyReserve Q 74 ls (v.toList ++ st) g')) := E_CV (ar := [a1, a0, .ref b]) lo_X6_buyReserve rfl rfl rfl (by decide)
theorem e_X6_buyReserve_74 {Q : mQ} {l1 l2 l3 : Value} {st : List Value} {g : mG} {x : Nat} : WP m_X6_buyReserve Q 74 [.ref x, l1, l2, l3] st g = WP m_X6_buyReserve Q 75 [.ref x, l1, l2, l3] (.ref x :: st) g := E_al (i := 0) (n := 1) lo_X6_buyReserve rfl rfl
theorem e_X6_buyReserve_75 {Q : mQ} {ls st : List Value} {g : mG} {a : Nat} : WP m_X6_buyReserve Q 75 ls (.ref a :: st) g = ((gK g a = 7 ∧ gR g a 0 ≠ 0) ∧ WP m_X6_buyReserve Q 78 ls (.ref (gR g a 0) :: st) g) := E_gR lo_X6_buyReserve rfl
theorem e_X6_buyReserve_78 {Q : mQ} {ls st : List Value} {g : mG} {a : Nat} : WP m_X6_buyReserve Q 78 ls (.ref a :: st) g = (gK g a = 6 ∧ WP m_X6_buyReserve Q 81 ls (.int (gI g a 4) :: st) g) := E_gI lo_X6_buyReserve rfl
theorem e_X6_buyReserve_81 {Q : mQ} {ls : List Value} {g : mG} {v : Int32} : WP m_X6_buyReserve Q 81 ls [.int v] g = Q (some (.int v)) g := E_iret lo_X6_buyReserve rfl
/-! KilnPermits.takeBack(I)I -/
def m_X6_takeBack : List (Nat × mT) := [(0, tD (f_al 0 1)),
  (1, tD (f_gR 7 0)),
  (4, tD (f_il 1 1)),
  (5, tC w_X5_standingWith 6 2),
  (8, tD (f_as 2 1)),
  (9, tD (f_al 2 1)),
  (10, tD (f_ifn 15 false)),
  (13, tD (f_ic ((-1)) 1)),
  (14, tR f_iret),
  (15, tD (f_al 0 1)),
  (16, tC w_X6_record 7 1),
  (19, tD (f_al 2 1)),
  (20, tD (f_gI 3 3)),
  (23, tD (f_is 3 1)),
  (24, tD (f_al 0 1)),
  (25, tD (f_gR 7 0)),
  (28, tD (f_al 2 1)),
  (29, tC w_X5_giveBack 6 2),
  (32, tD (f_il 3 1)),
  (33, tR f_iret)]
abbrev w_X6_takeBack : mS := wm m_X6_takeBack 2 2
set_option maxRecDepth 100000 in
theorem lo_X6_takeBack : locs_ok m_X6_takeBack := List.forall_mem_cons.mpr ⟨loc_D mo_al,
  List.forall_mem_cons.mpr ⟨loc_D mo_gR,
  List.forall_mem_cons.mpr ⟨loc_D mo_il,
  List.forall_mem_cons.mpr ⟨loc_C sm_X5_standingWith.1,
  List.forall_mem_cons.mpr ⟨loc_D mo_as,
  List.forall_mem_cons.mpr ⟨loc_D mo_al,
  List.forall_mem_cons.mpr ⟨loc_D mo_ifn,
  List.forall_mem_cons.mpr ⟨loc_D mo_ic,
  List.forall_mem_cons.mpr ⟨loc_R,
  List.forall_mem_cons.mpr ⟨loc_D mo_al,
  List.forall_mem_cons.mpr ⟨loc_C sm_X6_record.1,
  List.forall_mem_cons.mpr ⟨loc_D mo_al,
  List.forall_mem_cons.mpr ⟨loc_D mo_gI,
  List.forall_mem_cons.mpr ⟨loc_D mo_is,
  List.forall_mem_cons.mpr ⟨loc_D mo_al,
  List.forall_mem_cons.mpr ⟨loc_D mo_gR,
  List.forall_mem_cons.mpr ⟨loc_D mo_al,
  List.forall_mem_cons.mpr ⟨loc_C sm_X5_giveBack.1,
  List.forall_mem_cons.mpr ⟨loc_D mo_il,
  List.forall_mem_cons.mpr ⟨loc_R,
  fun _ h => absurd h List.not_mem_nil⟩⟩⟩⟩⟩⟩⟩⟩⟩⟩⟩⟩⟩⟩⟩⟩⟩⟩⟩⟩
set_option maxRecDepth 100000 in
theorem sm_X6_takeBack : SM yX6_takeBack cX6_takeBack 4 (some .int) 5 w_X6_takeBack := SM_of' RX6 "takeBack" rfl rfl (by decide) (by decide) (by decide) lo_X6_takeBack (List.forall_mem_cons.mpr ⟨STP.r mo_al (q_aload_n dX6_takeBack_0 rfl),
  List.forall_mem_cons.mpr ⟨STP.r mo_gR (q_gR ⟨by decide, by decide⟩ (by decide) rfl (by decide) kf_X6_12 dX6_takeBack_1),
  List.forall_mem_cons.mpr ⟨STP.r mo_il (q_iload_n dX6_takeBack_4 rfl),
  List.forall_mem_cons.mpr ⟨(snd_CV sm_X5_standingWith ⟨by decide, by decide⟩ rfl km_X6_110 kt_X5_standingWith kv_X5_standingWith rfl ki_X5 kx_X5_standingWith ⟨by decide, by decide, by decide +kernel⟩ (by decide) (by decide) dX6_takeBack_5).r,
  List.forall_mem_cons.mpr ⟨STP.r mo_as (q_astore_n dX6_takeBack_8 rfl),
  List.forall_mem_cons.mpr ⟨STP.r mo_al (q_aload_n dX6_takeBack_9 rfl),
  List.forall_mem_cons.mpr ⟨STP.r mo_ifn (q_ifnonnull dX6_takeBack_10 (by decide)),
  List.forall_mem_cons.mpr ⟨STP.r mo_ic (q_iconst dX6_takeBack_13 (by decide)),
  List.forall_mem_cons.mpr ⟨r_iret dX6_takeBack_14,
  List.forall_mem_cons.mpr ⟨STP.r mo_al (q_aload_n dX6_takeBack_15 rfl),
  List.forall_mem_cons.mpr ⟨(snd_CV sm_X6_record ⟨by decide, by decide⟩ rfl km_X6_41 kt_X6_record kv_X6_record rfl ki_X6 kx_X6_record ⟨by decide, by decide, by decide +kernel⟩ (by decide) (by decide) dX6_takeBack_16).r,
  List.forall_mem_cons.mpr ⟨STP.r mo_al (q_aload_n dX6_takeBack_19 rfl),
  List.forall_mem_cons.mpr ⟨STP.r mo_gI (q_gI ⟨by decide, by decide⟩ (by decide) rfl kf_X6_114 dX6_takeBack_20),
  List.forall_mem_cons.mpr ⟨STP.r mo_is (q_istore_n dX6_takeBack_23 rfl),
  List.forall_mem_cons.mpr ⟨STP.r mo_al (q_aload_n dX6_takeBack_24 rfl),
  List.forall_mem_cons.mpr ⟨STP.r mo_gR (q_gR ⟨by decide, by decide⟩ (by decide) rfl (by decide) kf_X6_12 dX6_takeBack_25),
  List.forall_mem_cons.mpr ⟨STP.r mo_al (q_aload_n dX6_takeBack_28 rfl),
  List.forall_mem_cons.mpr ⟨(snd_CV sm_X5_giveBack ⟨by decide, by decide⟩ rfl km_X6_119 kt_X5_giveBack kv_X5_giveBack rfl ki_X5 kx_X5_giveBack ⟨by decide, by decide, by decide +kernel⟩ (by decide) (by decide) dX6_takeBack_29).r,
  List.forall_mem_cons.mpr ⟨STP.r mo_il (q_iload_n dX6_takeBack_32 rfl),
  List.forall_mem_cons.mpr ⟨r_iret dX6_takeBack_33,
  fun _ h => absurd h List.not_mem_nil⟩⟩⟩⟩⟩⟩⟩⟩⟩⟩⟩⟩⟩⟩⟩⟩⟩⟩⟩⟩)
theorem e_X6_takeBack_0 {Q : mQ} {l1 l2 l3 : Value} {st : List Value} {g : mG} {x : Nat} : WP m_X6_takeBack Q 0 [.ref x, l1, l2, l3] st g = WP m_X6_takeBack Q 1 [.ref x, l1, l2, l3] (.ref x :: st) g := E_al (i := 0) (n := 1) lo_X6_takeBack rfl rfl
theorem e_X6_takeBack_1 {Q : mQ} {ls st : List Value} {g : mG} {a : Nat} : WP m_X6_takeBack Q 1 ls (.ref a :: st) g = ((gK g a = 7 ∧ gR g a 0 ≠ 0) ∧ WP m_X6_takeBack Q 4 ls (.ref (gR g a 0) :: st) g) := E_gR lo_X6_takeBack rfl
theorem e_X6_takeBack_4 {Q : mQ} {l0 l2 l3 : Value} {st : List Value} {g : mG} {x : Int32} : WP m_X6_takeBack Q 4 [l0, .int x, l2, l3] st g = WP m_X6_takeBack Q 5 [l0, .int x, l2, l3] (.int x :: st) g := E_il (i := 1) (n := 1) lo_X6_takeBack rfl rfl
theorem e_X6_takeBack_5 {Q : mQ} {ls st : List Value} {g : mG} {b : Nat} {a0 : Value} : WP m_X6_takeBack Q 5 ls (a0 :: .ref b :: st) g = (st.length ≤ 4 ∧ gK g b = 6 ∧ stbs g ls ∧ stbs g st ∧ w_X5_standingWith [.ref b, a0] g (fun v g' => WP m_X6_takeBack Q 8 ls (v.toList ++ st) g')) := E_CV (ar := [a0, .ref b]) lo_X6_takeBack rfl rfl rfl (by decide)
theorem e_X6_takeBack_8 {Q : mQ} {l0 l1 l2 l3 : Value} {st : List Value} {g : mG} {x : Nat} : WP m_X6_takeBack Q 8 [l0, l1, l2, l3] (.ref x :: st) g = (nl1 l1 ∧ WP m_X6_takeBack Q 9 [l0, l1, .ref x, l3] st g) := E_as (i := 2) (n := 1) lo_X6_takeBack rfl (Nat.le_of_ble_eq_true rfl)
theorem e_X6_takeBack_8n {Q : mQ} {l0 l1 l2 l3 : Value} {st : List Value} {g : mG} : WP m_X6_takeBack Q 8 [l0, l1, l2, l3] (.null :: st) g = (nl1 l1 ∧ WP m_X6_takeBack Q 9 [l0, l1, .null, l3] st g) := E_asn (i := 2) (n := 1) lo_X6_takeBack rfl (Nat.le_of_ble_eq_true rfl)
theorem e_X6_takeBack_9 {Q : mQ} {l0 l1 l3 : Value} {st : List Value} {g : mG} {x : Nat} : WP m_X6_takeBack Q 9 [l0, l1, .ref x, l3] st g = WP m_X6_takeBack Q 10 [l0, l1, .ref x, l3] (.ref x :: st) g := E_al (i := 2) (n := 1) lo_X6_takeBack rfl rfl
theorem e_X6_takeBack_9n {Q : mQ} {l0 l1 l3 : Value} {st : List Value} {g : mG} : WP m_X6_takeBack Q 9 [l0, l1, .null, l3] st g = WP m_X6_takeBack Q 10 [l0, l1, .null, l3] (.null :: st) g := E_aln (i := 2) (n := 1) lo_X6_takeBack rfl rfl
theorem e_X6_takeBack_10 {Q : mQ} {ls st : List Value} {g : mG} {x : Nat} : WP m_X6_takeBack Q 10 ls (.ref x :: st) g = WP m_X6_takeBack Q 15 ls st g := E_nnr lo_X6_takeBack rfl
theorem e_X6_takeBack_10n {Q : mQ} {ls st : List Value} {g : mG} : WP m_X6_takeBack Q 10 ls (.null :: st) g = WP m_X6_takeBack Q 13 ls st g := E_nnn lo_X6_takeBack rfl
theorem e_X6_takeBack_13 {Q : mQ} {ls st : List Value} {g : mG} : WP m_X6_takeBack Q 13 ls st g = WP m_X6_takeBack Q 14 ls (.int ((-1)) :: st) g := E_ic (v := (-1)) (n := 1) lo_X6_takeBack rfl
theorem e_X6_takeBack_14 {Q : mQ} {ls : List Value} {g : mG} {v : Int32} : WP m_X6_takeBack Q 14 ls [.int v] g = Q (some (.int v)) g := E_iret lo_X6_takeBack rfl
theorem e_X6_takeBack_15 {Q : mQ} {l1 l2 l3 : Value} {st : List Value} {g : mG} {x : Nat} : WP m_X6_takeBack Q 15 [.ref x, l1, l2, l3] st g = WP m_X6_takeBack Q 16 [.ref x, l1, l2, l3] (.ref x :: st) g := E_al (i := 0) (n := 1) lo_X6_takeBack rfl rfl
theorem e_X6_takeBack_16 {Q : mQ} {ls st : List Value} {g : mG} {b : Nat} : WP m_X6_takeBack Q 16 ls (.ref b :: st) g = (st.length ≤ 4 ∧ gK g b = 7 ∧ stbs g ls ∧ stbs g st ∧ w_X6_record [.ref b] g (fun v g' => WP m_X6_takeBack Q 19 ls (v.toList ++ st) g')) := E_CV (ar := [.ref b]) lo_X6_takeBack rfl rfl rfl (by decide)
theorem e_X6_takeBack_19 {Q : mQ} {l0 l1 l3 : Value} {st : List Value} {g : mG} {x : Nat} : WP m_X6_takeBack Q 19 [l0, l1, .ref x, l3] st g = WP m_X6_takeBack Q 20 [l0, l1, .ref x, l3] (.ref x :: st) g := E_al (i := 2) (n := 1) lo_X6_takeBack rfl rfl
theorem e_X6_takeBack_19n {Q : mQ} {l0 l1 l3 : Value} {st : List Value} {g : mG} : WP m_X6_takeBack Q 19 [l0, l1, .null, l3] st g = WP m_X6_takeBack Q 20 [l0, l1, .null, l3] (.null :: st) g := E_aln (i := 2) (n := 1) lo_X6_takeBack rfl rfl
theorem e_X6_takeBack_20 {Q : mQ} {ls st : List Value} {g : mG} {a : Nat} : WP m_X6_takeBack Q 20 ls (.ref a :: st) g = (gK g a = 3 ∧ WP m_X6_takeBack Q 23 ls (.int (gI g a 3) :: st) g) := E_gI lo_X6_takeBack rfl
theorem e_X6_takeBack_23 {Q : mQ} {l0 l1 l2 l3 : Value} {st : List Value} {g : mG} {x : Int32} : WP m_X6_takeBack Q 23 [l0, l1, l2, l3] (.int x :: st) g = (nl1 l2 ∧ WP m_X6_takeBack Q 24 [l0, l1, l2, .int x] st g) := E_is (i := 3) (n := 1) lo_X6_takeBack rfl (Nat.le_of_ble_eq_true rfl)
theorem e_X6_takeBack_24 {Q : mQ} {l1 l2 l3 : Value} {st : List Value} {g : mG} {x : Nat} : WP m_X6_takeBack Q 24 [.ref x, l1, l2, l3] st g = WP m_X6_takeBack Q 25 [.ref x, l1, l2, l3] (.ref x :: st) g := E_al (i := 0) (n := 1) lo_X6_takeBack rfl rfl
theorem e_X6_takeBack_25 {Q : mQ} {ls st : List Value} {g : mG} {a : Nat} : WP m_X6_takeBack Q 25 ls (.ref a :: st) g = ((gK g a = 7 ∧ gR g a 0 ≠ 0) ∧ WP m_X6_takeBack Q 28 ls (.ref (gR g a 0) :: st) g) := E_gR lo_X6_takeBack rfl
theorem e_X6_takeBack_28 {Q : mQ} {l0 l1 l3 : Value} {st : List Value} {g : mG} {x : Nat} : WP m_X6_takeBack Q 28 [l0, l1, .ref x, l3] st g = WP m_X6_takeBack Q 29 [l0, l1, .ref x, l3] (.ref x :: st) g := E_al (i := 2) (n := 1) lo_X6_takeBack rfl rfl
theorem e_X6_takeBack_28n {Q : mQ} {l0 l1 l3 : Value} {st : List Value} {g : mG} : WP m_X6_takeBack Q 28 [l0, l1, .null, l3] st g = WP m_X6_takeBack Q 29 [l0, l1, .null, l3] (.null :: st) g := E_aln (i := 2) (n := 1) lo_X6_takeBack rfl rfl
theorem e_X6_takeBack_29 {Q : mQ} {ls st : List Value} {g : mG} {b : Nat} {a0 : Value} : WP m_X6_takeBack Q 29 ls (a0 :: .ref b :: st) g = (st.length ≤ 4 ∧ gK g b = 6 ∧ stbs g ls ∧ stbs g st ∧ w_X5_giveBack [.ref b, a0] g (fun v g' => WP m_X6_takeBack Q 32 ls (v.toList ++ st) g')) := E_CV (ar := [a0, .ref b]) lo_X6_takeBack rfl rfl rfl (by decide)
theorem e_X6_takeBack_32 {Q : mQ} {l0 l1 l2 : Value} {st : List Value} {g : mG} {x : Int32} : WP m_X6_takeBack Q 32 [l0, l1, l2, .int x] st g = WP m_X6_takeBack Q 33 [l0, l1, l2, .int x] (.int x :: st) g := E_il (i := 3) (n := 1) lo_X6_takeBack rfl rfl
theorem e_X6_takeBack_33 {Q : mQ} {ls : List Value} {g : mG} {v : Int32} : WP m_X6_takeBack Q 33 ls [.int v] g = Q (some (.int v)) g := E_iret lo_X6_takeBack rfl
/-! KilnPermits.count(I)I -/
def m_X6_count : List (Nat × mT) := [(0, tD (f_il 1 1)),
  (1, tD (f_sw (0) (20) 290 [100, 108, 116, 124, 132, 140, 148, 156, 164, 172, 180, 203, 211, 219, 227, 237, 247, 257, 267, 277, 282])),
  (100, tD (f_al 0 1)),
  (101, tD (f_gR 7 0)),
  (104, tD (f_gI 6 0)),
  (107, tR f_iret),
  (108, tD (f_al 0 1)),
  (109, tD (f_gR 7 0)),
  (112, tC w_X5_allPermits 6 1),
  (115, tR f_iret),
  (116, tD (f_al 0 1)),
  (117, tD (f_gR 7 0)),
  (120, tD (f_gI 6 1)),
  (123, tR f_iret),
  (124, tD (f_al 0 1)),
  (125, tD (f_gR 7 0)),
  (128, tD (f_gI 6 2)),
  (131, tR f_iret),
  (132, tD (f_al 0 1)),
  (133, tD (f_gR 7 0)),
  (136, tD (f_gI 6 3)),
  (139, tR f_iret),
  (140, tD (f_al 0 1)),
  (141, tD (f_gR 7 0)),
  (144, tD (f_gI 6 4)),
  (147, tR f_iret),
  (148, tD (f_al 0 1)),
  (149, tD (f_gR 7 0)),
  (152, tD (f_gI 6 5)),
  (155, tR f_iret),
  (156, tD (f_al 0 1)),
  (157, tD (f_gR 7 0)),
  (160, tC w_X5_standingCount 6 1),
  (163, tR f_iret),
  (164, tD (f_al 0 1)),
  (165, tD (f_gR 7 0)),
  (168, tD (f_gI 6 6)),
  (171, tR f_iret),
  (172, tD (f_al 0 1)),
  (173, tD (f_gR 7 0)),
  (176, tD (f_gI 6 7)),
  (179, tR f_iret),
  (180, tD (f_al 0 1)),
  (181, tD (f_gR 7 0)),
  (184, tD (f_gI 6 7)),
  (187, tI1 (fun x => ¬ x = 0) 195),
  (190, tD (f_ic ((-5)) 2)),
  (192, tD (f_goto 202)),
  (195, tD (f_al 0 1)),
  (196, tD (f_gR 7 0)),
  (199, tD (f_gI 6 8)),
  (202, tR f_iret),
  (203, tD (f_al 0 1)),
  (204, tD (f_gR 7 0)),
  (207, tC w_X5_allCoins 6 1),
  (210, tR f_iret),
  (211, tD (f_al 0 1)),
  (212, tD (f_gR 7 0)),
  (215, tD (f_gI 6 9)),
  (218, tR f_iret),
  (219, tD (f_al 0 1)),
  (220, tD (f_gR 7 0)),
  (223, tD (f_gI 6 10)),
  (226, tR f_iret),
  (227, tD (f_al 0 1)),
  (228, tD (f_gR 7 0)),
  (231, tD (f_gR 6 11)),
  (234, tD (f_ic (nI 0) 1)),
  (235, tD (f_iald)),
  (236, tR f_iret),
  (237, tD (f_al 0 1)),
  (238, tD (f_gR 7 0)),
  (241, tD (f_gR 6 11)),
  (244, tD (f_ic (nI 1) 1)),
  (245, tD (f_iald)),
  (246, tR f_iret),
  (247, tD (f_al 0 1)),
  (248, tD (f_gR 7 0)),
  (251, tD (f_gR 6 11)),
  (254, tD (f_ic (nI 2) 1)),
  (255, tD (f_iald)),
  (256, tR f_iret),
  (257, tD (f_al 0 1)),
  (258, tD (f_gR 7 0)),
  (261, tD (f_gR 6 11)),
  (264, tD (f_ic (nI 3) 1)),
  (265, tD (f_iald)),
  (266, tR f_iret),
  (267, tD (f_al 0 1)),
  (268, tD (f_gR 7 0)),
  (271, tD (f_gR 6 11)),
  (274, tD (f_ic (nI 4) 1)),
  (275, tD (f_iald)),
  (276, tR f_iret),
  (277, tD (f_al 0 1)),
  (278, tD (f_gI 7 5)),
  (281, tR f_iret),
  (282, tD (f_al 0 1)),
  (283, tD (f_gR 7 6)),
  (286, tD (f_gI 4 1)),
  (289, tR f_iret),
  (290, tD (f_ic ((-2)) 2)),
  (292, tR f_iret)]
abbrev w_X6_count : mS := wm m_X6_count 2 0
set_option maxRecDepth 100000 in
theorem lo_X6_count : locs_ok m_X6_count := List.forall_mem_cons.mpr ⟨loc_D mo_il,
  List.forall_mem_cons.mpr ⟨loc_D mo_sw,
  List.forall_mem_cons.mpr ⟨loc_D mo_al,
  List.forall_mem_cons.mpr ⟨loc_D mo_gR,
  List.forall_mem_cons.mpr ⟨loc_D mo_gI,
  List.forall_mem_cons.mpr ⟨loc_R,
  List.forall_mem_cons.mpr ⟨loc_D mo_al,
  List.forall_mem_cons.mpr ⟨loc_D mo_gR,
  List.forall_mem_cons.mpr ⟨loc_C sm_X5_allPermits.1,
  List.forall_mem_cons.mpr ⟨loc_R,
  List.forall_mem_cons.mpr ⟨loc_D mo_al,
  List.forall_mem_cons.mpr ⟨loc_D mo_gR,
  List.forall_mem_cons.mpr ⟨loc_D mo_gI,
  List.forall_mem_cons.mpr ⟨loc_R,
  List.forall_mem_cons.mpr ⟨loc_D mo_al,
  List.forall_mem_cons.mpr ⟨loc_D mo_gR,
  List.forall_mem_cons.mpr ⟨loc_D mo_gI,
  List.forall_mem_cons.mpr ⟨loc_R,
  List.forall_mem_cons.mpr ⟨loc_D mo_al,
  List.forall_mem_cons.mpr ⟨loc_D mo_gR,
  List.forall_mem_cons.mpr ⟨loc_D mo_gI,
  List.forall_mem_cons.mpr ⟨loc_R,
  List.forall_mem_cons.mpr ⟨loc_D mo_al,
  List.forall_mem_cons.mpr ⟨loc_D mo_gR,
  List.forall_mem_cons.mpr ⟨loc_D mo_gI,
  List.forall_mem_cons.mpr ⟨loc_R,
  List.forall_mem_cons.mpr ⟨loc_D mo_al,
  List.forall_mem_cons.mpr ⟨loc_D mo_gR,
  List.forall_mem_cons.mpr ⟨loc_D mo_gI,
  List.forall_mem_cons.mpr ⟨loc_R,
  List.forall_mem_cons.mpr ⟨loc_D mo_al,
  List.forall_mem_cons.mpr ⟨loc_D mo_gR,
  List.forall_mem_cons.mpr ⟨loc_C sm_X5_standingCount.1,
  List.forall_mem_cons.mpr ⟨loc_R,
  List.forall_mem_cons.mpr ⟨loc_D mo_al,
  List.forall_mem_cons.mpr ⟨loc_D mo_gR,
  List.forall_mem_cons.mpr ⟨loc_D mo_gI,
  List.forall_mem_cons.mpr ⟨loc_R,
  List.forall_mem_cons.mpr ⟨loc_D mo_al,
  List.forall_mem_cons.mpr ⟨loc_D mo_gR,
  List.forall_mem_cons.mpr ⟨loc_D mo_gI,
  List.forall_mem_cons.mpr ⟨loc_R,
  List.forall_mem_cons.mpr ⟨loc_D mo_al,
  List.forall_mem_cons.mpr ⟨loc_D mo_gR,
  List.forall_mem_cons.mpr ⟨loc_D mo_gI,
  List.forall_mem_cons.mpr ⟨loc_I1,
  List.forall_mem_cons.mpr ⟨loc_D mo_ic,
  List.forall_mem_cons.mpr ⟨loc_D mo_goto,
  List.forall_mem_cons.mpr ⟨loc_D mo_al,
  List.forall_mem_cons.mpr ⟨loc_D mo_gR,
  List.forall_mem_cons.mpr ⟨loc_D mo_gI,
  List.forall_mem_cons.mpr ⟨loc_R,
  List.forall_mem_cons.mpr ⟨loc_D mo_al,
  List.forall_mem_cons.mpr ⟨loc_D mo_gR,
  List.forall_mem_cons.mpr ⟨loc_C sm_X5_allCoins.1,
  List.forall_mem_cons.mpr ⟨loc_R,
  List.forall_mem_cons.mpr ⟨loc_D mo_al,
  List.forall_mem_cons.mpr ⟨loc_D mo_gR,
  List.forall_mem_cons.mpr ⟨loc_D mo_gI,
  List.forall_mem_cons.mpr ⟨loc_R,
  List.forall_mem_cons.mpr ⟨loc_D mo_al,
  List.forall_mem_cons.mpr ⟨loc_D mo_gR,
  List.forall_mem_cons.mpr ⟨loc_D mo_gI,
  List.forall_mem_cons.mpr ⟨loc_R,
  List.forall_mem_cons.mpr ⟨loc_D mo_al,
  List.forall_mem_cons.mpr ⟨loc_D mo_gR,
  List.forall_mem_cons.mpr ⟨loc_D mo_gR,
  List.forall_mem_cons.mpr ⟨loc_D mo_ic,
  List.forall_mem_cons.mpr ⟨loc_D mo_iald,
  List.forall_mem_cons.mpr ⟨loc_R,
  List.forall_mem_cons.mpr ⟨loc_D mo_al,
  List.forall_mem_cons.mpr ⟨loc_D mo_gR,
  List.forall_mem_cons.mpr ⟨loc_D mo_gR,
  List.forall_mem_cons.mpr ⟨loc_D mo_ic,
  List.forall_mem_cons.mpr ⟨loc_D mo_iald,
  List.forall_mem_cons.mpr ⟨loc_R,
  List.forall_mem_cons.mpr ⟨loc_D mo_al,
  List.forall_mem_cons.mpr ⟨loc_D mo_gR,
  List.forall_mem_cons.mpr ⟨loc_D mo_gR,
  List.forall_mem_cons.mpr ⟨loc_D mo_ic,
  List.forall_mem_cons.mpr ⟨loc_D mo_iald,
  List.forall_mem_cons.mpr ⟨loc_R,
  List.forall_mem_cons.mpr ⟨loc_D mo_al,
  List.forall_mem_cons.mpr ⟨loc_D mo_gR,
  List.forall_mem_cons.mpr ⟨loc_D mo_gR,
  List.forall_mem_cons.mpr ⟨loc_D mo_ic,
  List.forall_mem_cons.mpr ⟨loc_D mo_iald,
  List.forall_mem_cons.mpr ⟨loc_R,
  List.forall_mem_cons.mpr ⟨loc_D mo_al,
  List.forall_mem_cons.mpr ⟨loc_D mo_gR,
  List.forall_mem_cons.mpr ⟨loc_D mo_gR,
  List.forall_mem_cons.mpr ⟨loc_D mo_ic,
  List.forall_mem_cons.mpr ⟨loc_D mo_iald,
  List.forall_mem_cons.mpr ⟨loc_R,
  List.forall_mem_cons.mpr ⟨loc_D mo_al,
  List.forall_mem_cons.mpr ⟨loc_D mo_gI,
  List.forall_mem_cons.mpr ⟨loc_R,
  List.forall_mem_cons.mpr ⟨loc_D mo_al,
  List.forall_mem_cons.mpr ⟨loc_D mo_gR,
  List.forall_mem_cons.mpr ⟨loc_D mo_gI,
  List.forall_mem_cons.mpr ⟨loc_R,
  List.forall_mem_cons.mpr ⟨loc_D mo_ic,
  List.forall_mem_cons.mpr ⟨loc_R,
  fun _ h => absurd h List.not_mem_nil⟩⟩⟩⟩⟩⟩⟩⟩⟩⟩⟩⟩⟩⟩⟩⟩⟩⟩⟩⟩⟩⟩⟩⟩⟩⟩⟩⟩⟩⟩⟩⟩⟩⟩⟩⟩⟩⟩⟩⟩⟩⟩⟩⟩⟩⟩⟩⟩⟩⟩⟩⟩⟩⟩⟩⟩⟩⟩⟩⟩⟩⟩⟩⟩⟩⟩⟩⟩⟩⟩⟩⟩⟩⟩⟩⟩⟩⟩⟩⟩⟩⟩⟩⟩⟩⟩⟩⟩⟩⟩⟩⟩⟩⟩⟩⟩⟩⟩⟩⟩⟩⟩⟩
set_option maxRecDepth 100000 in
theorem sm_X6_count : SM yX6_count cX6_count 2 (some .int) 4 w_X6_count := SM_of' RX6 "count" rfl rfl (by decide) (by decide) (by decide) lo_X6_count (List.forall_mem_cons.mpr ⟨STP.r mo_il (q_iload_n dX6_count_0 rfl),
  List.forall_mem_cons.mpr ⟨STP.r mo_sw (q_sw dX6_count_1 (by decide) (by decide) (by decide)),
  List.forall_mem_cons.mpr ⟨STP.r mo_al (q_aload_n dX6_count_100 rfl),
  List.forall_mem_cons.mpr ⟨STP.r mo_gR (q_gR ⟨by decide, by decide⟩ (by decide) rfl (by decide) kf_X6_12 dX6_count_101),
  List.forall_mem_cons.mpr ⟨STP.r mo_gI (q_gI ⟨by decide, by decide⟩ (by decide) rfl kf_X6_140 dX6_count_104),
  List.forall_mem_cons.mpr ⟨r_iret dX6_count_107,
  List.forall_mem_cons.mpr ⟨STP.r mo_al (q_aload_n dX6_count_108 rfl),
  List.forall_mem_cons.mpr ⟨STP.r mo_gR (q_gR ⟨by decide, by decide⟩ (by decide) rfl (by decide) kf_X6_12 dX6_count_109),
  List.forall_mem_cons.mpr ⟨(snd_CV sm_X5_allPermits ⟨by decide, by decide⟩ rfl km_X6_207 kt_X5_allPermits kv_X5_allPermits rfl ki_X5 kx_X5_allPermits ⟨by decide, by decide, by decide +kernel⟩ (by decide) (by decide) dX6_count_112).r,
  List.forall_mem_cons.mpr ⟨r_iret dX6_count_115,
  List.forall_mem_cons.mpr ⟨STP.r mo_al (q_aload_n dX6_count_116 rfl),
  List.forall_mem_cons.mpr ⟨STP.r mo_gR (q_gR ⟨by decide, by decide⟩ (by decide) rfl (by decide) kf_X6_12 dX6_count_117),
  List.forall_mem_cons.mpr ⟨STP.r mo_gI (q_gI ⟨by decide, by decide⟩ (by decide) rfl kf_X6_210 dX6_count_120),
  List.forall_mem_cons.mpr ⟨r_iret dX6_count_123,
  List.forall_mem_cons.mpr ⟨STP.r mo_al (q_aload_n dX6_count_124 rfl),
  List.forall_mem_cons.mpr ⟨STP.r mo_gR (q_gR ⟨by decide, by decide⟩ (by decide) rfl (by decide) kf_X6_12 dX6_count_125),
  List.forall_mem_cons.mpr ⟨STP.r mo_gI (q_gI ⟨by decide, by decide⟩ (by decide) rfl kf_X6_213 dX6_count_128),
  List.forall_mem_cons.mpr ⟨r_iret dX6_count_131,
  List.forall_mem_cons.mpr ⟨STP.r mo_al (q_aload_n dX6_count_132 rfl),
  List.forall_mem_cons.mpr ⟨STP.r mo_gR (q_gR ⟨by decide, by decide⟩ (by decide) rfl (by decide) kf_X6_12 dX6_count_133),
  List.forall_mem_cons.mpr ⟨STP.r mo_gI (q_gI ⟨by decide, by decide⟩ (by decide) rfl kf_X6_216 dX6_count_136),
  List.forall_mem_cons.mpr ⟨r_iret dX6_count_139,
  List.forall_mem_cons.mpr ⟨STP.r mo_al (q_aload_n dX6_count_140 rfl),
  List.forall_mem_cons.mpr ⟨STP.r mo_gR (q_gR ⟨by decide, by decide⟩ (by decide) rfl (by decide) kf_X6_12 dX6_count_141),
  List.forall_mem_cons.mpr ⟨STP.r mo_gI (q_gI ⟨by decide, by decide⟩ (by decide) rfl kf_X6_123 dX6_count_144),
  List.forall_mem_cons.mpr ⟨r_iret dX6_count_147,
  List.forall_mem_cons.mpr ⟨STP.r mo_al (q_aload_n dX6_count_148 rfl),
  List.forall_mem_cons.mpr ⟨STP.r mo_gR (q_gR ⟨by decide, by decide⟩ (by decide) rfl (by decide) kf_X6_12 dX6_count_149),
  List.forall_mem_cons.mpr ⟨STP.r mo_gI (q_gI ⟨by decide, by decide⟩ (by decide) rfl kf_X6_219 dX6_count_152),
  List.forall_mem_cons.mpr ⟨r_iret dX6_count_155,
  List.forall_mem_cons.mpr ⟨STP.r mo_al (q_aload_n dX6_count_156 rfl),
  List.forall_mem_cons.mpr ⟨STP.r mo_gR (q_gR ⟨by decide, by decide⟩ (by decide) rfl (by decide) kf_X6_12 dX6_count_157),
  List.forall_mem_cons.mpr ⟨(snd_CV sm_X5_standingCount ⟨by decide, by decide⟩ rfl km_X6_222 kt_X5_standingCount kv_X5_standingCount rfl ki_X5 kx_X5_standingCount ⟨by decide, by decide, by decide +kernel⟩ (by decide) (by decide) dX6_count_160).r,
  List.forall_mem_cons.mpr ⟨r_iret dX6_count_163,
  List.forall_mem_cons.mpr ⟨STP.r mo_al (q_aload_n dX6_count_164 rfl),
  List.forall_mem_cons.mpr ⟨STP.r mo_gR (q_gR ⟨by decide, by decide⟩ (by decide) rfl (by decide) kf_X6_12 dX6_count_165),
  List.forall_mem_cons.mpr ⟨STP.r mo_gI (q_gI ⟨by decide, by decide⟩ (by decide) rfl kf_X6_225 dX6_count_168),
  List.forall_mem_cons.mpr ⟨r_iret dX6_count_171,
  List.forall_mem_cons.mpr ⟨STP.r mo_al (q_aload_n dX6_count_172 rfl),
  List.forall_mem_cons.mpr ⟨STP.r mo_gR (q_gR ⟨by decide, by decide⟩ (by decide) rfl (by decide) kf_X6_12 dX6_count_173),
  List.forall_mem_cons.mpr ⟨STP.r mo_gI (q_gI ⟨by decide, by decide⟩ (by decide) rfl kf_X6_228 dX6_count_176),
  List.forall_mem_cons.mpr ⟨r_iret dX6_count_179,
  List.forall_mem_cons.mpr ⟨STP.r mo_al (q_aload_n dX6_count_180 rfl),
  List.forall_mem_cons.mpr ⟨STP.r mo_gR (q_gR ⟨by decide, by decide⟩ (by decide) rfl (by decide) kf_X6_12 dX6_count_181),
  List.forall_mem_cons.mpr ⟨STP.r mo_gI (q_gI ⟨by decide, by decide⟩ (by decide) rfl kf_X6_228 dX6_count_184),
  List.forall_mem_cons.mpr ⟨(q_if_ne dX6_count_187 (by decide)).r,
  List.forall_mem_cons.mpr ⟨STP.r mo_ic (q_bipush dX6_count_190 (by decide)),
  List.forall_mem_cons.mpr ⟨STP.r mo_goto (q_goto dX6_count_192 (by decide)),
  List.forall_mem_cons.mpr ⟨STP.r mo_al (q_aload_n dX6_count_195 rfl),
  List.forall_mem_cons.mpr ⟨STP.r mo_gR (q_gR ⟨by decide, by decide⟩ (by decide) rfl (by decide) kf_X6_12 dX6_count_196),
  List.forall_mem_cons.mpr ⟨STP.r mo_gI (q_gI ⟨by decide, by decide⟩ (by decide) rfl kf_X6_231 dX6_count_199),
  List.forall_mem_cons.mpr ⟨r_iret dX6_count_202,
  List.forall_mem_cons.mpr ⟨STP.r mo_al (q_aload_n dX6_count_203 rfl),
  List.forall_mem_cons.mpr ⟨STP.r mo_gR (q_gR ⟨by decide, by decide⟩ (by decide) rfl (by decide) kf_X6_12 dX6_count_204),
  List.forall_mem_cons.mpr ⟨(snd_CV sm_X5_allCoins ⟨by decide, by decide⟩ rfl km_X6_234 kt_X5_allCoins kv_X5_allCoins rfl ki_X5 kx_X5_allCoins ⟨by decide, by decide, by decide +kernel⟩ (by decide) (by decide) dX6_count_207).r,
  List.forall_mem_cons.mpr ⟨r_iret dX6_count_210,
  List.forall_mem_cons.mpr ⟨STP.r mo_al (q_aload_n dX6_count_211 rfl),
  List.forall_mem_cons.mpr ⟨STP.r mo_gR (q_gR ⟨by decide, by decide⟩ (by decide) rfl (by decide) kf_X6_12 dX6_count_212),
  List.forall_mem_cons.mpr ⟨STP.r mo_gI (q_gI ⟨by decide, by decide⟩ (by decide) rfl kf_X6_237 dX6_count_215),
  List.forall_mem_cons.mpr ⟨r_iret dX6_count_218,
  List.forall_mem_cons.mpr ⟨STP.r mo_al (q_aload_n dX6_count_219 rfl),
  List.forall_mem_cons.mpr ⟨STP.r mo_gR (q_gR ⟨by decide, by decide⟩ (by decide) rfl (by decide) kf_X6_12 dX6_count_220),
  List.forall_mem_cons.mpr ⟨STP.r mo_gI (q_gI ⟨by decide, by decide⟩ (by decide) rfl kf_X6_240 dX6_count_223),
  List.forall_mem_cons.mpr ⟨r_iret dX6_count_226,
  List.forall_mem_cons.mpr ⟨STP.r mo_al (q_aload_n dX6_count_227 rfl),
  List.forall_mem_cons.mpr ⟨STP.r mo_gR (q_gR ⟨by decide, by decide⟩ (by decide) rfl (by decide) kf_X6_12 dX6_count_228),
  List.forall_mem_cons.mpr ⟨STP.r mo_gR (q_gR ⟨by decide, by decide⟩ (by decide) rfl (by decide) kf_X6_60 dX6_count_231),
  List.forall_mem_cons.mpr ⟨STP.r mo_ic (q_iconst dX6_count_234 (by decide)),
  List.forall_mem_cons.mpr ⟨STP.r mo_iald (q_iald dX6_count_235),
  List.forall_mem_cons.mpr ⟨r_iret dX6_count_236,
  List.forall_mem_cons.mpr ⟨STP.r mo_al (q_aload_n dX6_count_237 rfl),
  List.forall_mem_cons.mpr ⟨STP.r mo_gR (q_gR ⟨by decide, by decide⟩ (by decide) rfl (by decide) kf_X6_12 dX6_count_238),
  List.forall_mem_cons.mpr ⟨STP.r mo_gR (q_gR ⟨by decide, by decide⟩ (by decide) rfl (by decide) kf_X6_60 dX6_count_241),
  List.forall_mem_cons.mpr ⟨STP.r mo_ic (q_iconst dX6_count_244 (by decide)),
  List.forall_mem_cons.mpr ⟨STP.r mo_iald (q_iald dX6_count_245),
  List.forall_mem_cons.mpr ⟨r_iret dX6_count_246,
  List.forall_mem_cons.mpr ⟨STP.r mo_al (q_aload_n dX6_count_247 rfl),
  List.forall_mem_cons.mpr ⟨STP.r mo_gR (q_gR ⟨by decide, by decide⟩ (by decide) rfl (by decide) kf_X6_12 dX6_count_248),
  List.forall_mem_cons.mpr ⟨STP.r mo_gR (q_gR ⟨by decide, by decide⟩ (by decide) rfl (by decide) kf_X6_60 dX6_count_251),
  List.forall_mem_cons.mpr ⟨STP.r mo_ic (q_iconst dX6_count_254 (by decide)),
  List.forall_mem_cons.mpr ⟨STP.r mo_iald (q_iald dX6_count_255),
  List.forall_mem_cons.mpr ⟨r_iret dX6_count_256,
  List.forall_mem_cons.mpr ⟨STP.r mo_al (q_aload_n dX6_count_257 rfl),
  List.forall_mem_cons.mpr ⟨STP.r mo_gR (q_gR ⟨by decide, by decide⟩ (by decide) rfl (by decide) kf_X6_12 dX6_count_258),
  List.forall_mem_cons.mpr ⟨STP.r mo_gR (q_gR ⟨by decide, by decide⟩ (by decide) rfl (by decide) kf_X6_60 dX6_count_261),
  List.forall_mem_cons.mpr ⟨STP.r mo_ic (q_iconst dX6_count_264 (by decide)),
  List.forall_mem_cons.mpr ⟨STP.r mo_iald (q_iald dX6_count_265),
  List.forall_mem_cons.mpr ⟨r_iret dX6_count_266,
  List.forall_mem_cons.mpr ⟨STP.r mo_al (q_aload_n dX6_count_267 rfl),
  List.forall_mem_cons.mpr ⟨STP.r mo_gR (q_gR ⟨by decide, by decide⟩ (by decide) rfl (by decide) kf_X6_12 dX6_count_268),
  List.forall_mem_cons.mpr ⟨STP.r mo_gR (q_gR ⟨by decide, by decide⟩ (by decide) rfl (by decide) kf_X6_60 dX6_count_271),
  List.forall_mem_cons.mpr ⟨STP.r mo_ic (q_iconst dX6_count_274 (by decide)),
  List.forall_mem_cons.mpr ⟨STP.r mo_iald (q_iald dX6_count_275),
  List.forall_mem_cons.mpr ⟨r_iret dX6_count_276,
  List.forall_mem_cons.mpr ⟨STP.r mo_al (q_aload_n dX6_count_277 rfl),
  List.forall_mem_cons.mpr ⟨STP.r mo_gI (q_gI ⟨by decide, by decide⟩ (by decide) rfl kf_X6_153 dX6_count_278),
  List.forall_mem_cons.mpr ⟨r_iret dX6_count_281,
  List.forall_mem_cons.mpr ⟨STP.r mo_al (q_aload_n dX6_count_282 rfl),
  List.forall_mem_cons.mpr ⟨STP.r mo_gR (q_gR ⟨by decide, by decide⟩ (by decide) rfl (by decide) kf_X6_29 dX6_count_283),
  List.forall_mem_cons.mpr ⟨STP.r mo_gI (q_gI ⟨by decide, by decide⟩ (by decide) rfl kf_X6_150 dX6_count_286),
  List.forall_mem_cons.mpr ⟨r_iret dX6_count_289,
  List.forall_mem_cons.mpr ⟨STP.r mo_ic (q_bipush dX6_count_290 (by decide)),
  List.forall_mem_cons.mpr ⟨r_iret dX6_count_292,
  fun _ h => absurd h List.not_mem_nil⟩⟩⟩⟩⟩⟩⟩⟩⟩⟩⟩⟩⟩⟩⟩⟩⟩⟩⟩⟩⟩⟩⟩⟩⟩⟩⟩⟩⟩⟩⟩⟩⟩⟩⟩⟩⟩⟩⟩⟩⟩⟩⟩⟩⟩⟩⟩⟩⟩⟩⟩⟩⟩⟩⟩⟩⟩⟩⟩⟩⟩⟩⟩⟩⟩⟩⟩⟩⟩⟩⟩⟩⟩⟩⟩⟩⟩⟩⟩⟩⟩⟩⟩⟩⟩⟩⟩⟩⟩⟩⟩⟩⟩⟩⟩⟩⟩⟩⟩⟩⟩⟩⟩)
set_option maxRecDepth 100000 in
theorem e_X6_count_0 {Q : mQ} {l0 : Value} {st : List Value} {g : mG} {x : Int32} : WP m_X6_count Q 0 [l0, .int x] st g = WP m_X6_count Q 1 [l0, .int x] (.int x :: st) g := E_il (i := 1) (n := 1) lo_X6_count rfl rfl
set_option maxRecDepth 100000 in
theorem e_X6_count_1 {Q : mQ} {ls st : List Value} {g : mG} {x : Int32} : WP m_X6_count Q 1 ls (.int x :: st) g = WP m_X6_count Q (if x.toInt < 0 ∨ 20 < x.toInt then 290 else [100, 108, 116, 124, 132, 140, 148, 156, 164, 172, 180, 203, 211, 219, 227, 237, 247, 257, 267, 277, 282].getD (x.toInt - 0).toNat 290) ls st g := E_sw lo_X6_count rfl
set_option maxRecDepth 100000 in
theorem e_X6_count_100 {Q : mQ} {l1 : Value} {st : List Value} {g : mG} {x : Nat} : WP m_X6_count Q 100 [.ref x, l1] st g = WP m_X6_count Q 101 [.ref x, l1] (.ref x :: st) g := E_al (i := 0) (n := 1) lo_X6_count rfl rfl
set_option maxRecDepth 100000 in
theorem e_X6_count_101 {Q : mQ} {ls st : List Value} {g : mG} {a : Nat} : WP m_X6_count Q 101 ls (.ref a :: st) g = ((gK g a = 7 ∧ gR g a 0 ≠ 0) ∧ WP m_X6_count Q 104 ls (.ref (gR g a 0) :: st) g) := E_gR lo_X6_count rfl
set_option maxRecDepth 100000 in
theorem e_X6_count_104 {Q : mQ} {ls st : List Value} {g : mG} {a : Nat} : WP m_X6_count Q 104 ls (.ref a :: st) g = (gK g a = 6 ∧ WP m_X6_count Q 107 ls (.int (gI g a 0) :: st) g) := E_gI lo_X6_count rfl
set_option maxRecDepth 100000 in
theorem e_X6_count_107 {Q : mQ} {ls : List Value} {g : mG} {v : Int32} : WP m_X6_count Q 107 ls [.int v] g = Q (some (.int v)) g := E_iret lo_X6_count rfl
set_option maxRecDepth 100000 in
theorem e_X6_count_108 {Q : mQ} {l1 : Value} {st : List Value} {g : mG} {x : Nat} : WP m_X6_count Q 108 [.ref x, l1] st g = WP m_X6_count Q 109 [.ref x, l1] (.ref x :: st) g := E_al (i := 0) (n := 1) lo_X6_count rfl rfl
set_option maxRecDepth 100000 in
theorem e_X6_count_109 {Q : mQ} {ls st : List Value} {g : mG} {a : Nat} : WP m_X6_count Q 109 ls (.ref a :: st) g = ((gK g a = 7 ∧ gR g a 0 ≠ 0) ∧ WP m_X6_count Q 112 ls (.ref (gR g a 0) :: st) g) := E_gR lo_X6_count rfl
set_option maxRecDepth 100000 in
theorem e_X6_count_112 {Q : mQ} {ls st : List Value} {g : mG} {b : Nat} : WP m_X6_count Q 112 ls (.ref b :: st) g = (st.length ≤ 4 ∧ gK g b = 6 ∧ stbs g ls ∧ stbs g st ∧ w_X5_allPermits [.ref b] g (fun v g' => WP m_X6_count Q 115 ls (v.toList ++ st) g')) := E_CV (ar := [.ref b]) lo_X6_count rfl rfl rfl (by decide)
set_option maxRecDepth 100000 in
theorem e_X6_count_115 {Q : mQ} {ls : List Value} {g : mG} {v : Int32} : WP m_X6_count Q 115 ls [.int v] g = Q (some (.int v)) g := E_iret lo_X6_count rfl
set_option maxRecDepth 100000 in
theorem e_X6_count_116 {Q : mQ} {l1 : Value} {st : List Value} {g : mG} {x : Nat} : WP m_X6_count Q 116 [.ref x, l1] st g = WP m_X6_count Q 117 [.ref x, l1] (.ref x :: st) g := E_al (i := 0) (n := 1) lo_X6_count rfl rfl
set_option maxRecDepth 100000 in
theorem e_X6_count_117 {Q : mQ} {ls st : List Value} {g : mG} {a : Nat} : WP m_X6_count Q 117 ls (.ref a :: st) g = ((gK g a = 7 ∧ gR g a 0 ≠ 0) ∧ WP m_X6_count Q 120 ls (.ref (gR g a 0) :: st) g) := E_gR lo_X6_count rfl
set_option maxRecDepth 100000 in
theorem e_X6_count_120 {Q : mQ} {ls st : List Value} {g : mG} {a : Nat} : WP m_X6_count Q 120 ls (.ref a :: st) g = (gK g a = 6 ∧ WP m_X6_count Q 123 ls (.int (gI g a 1) :: st) g) := E_gI lo_X6_count rfl
set_option maxRecDepth 100000 in
theorem e_X6_count_123 {Q : mQ} {ls : List Value} {g : mG} {v : Int32} : WP m_X6_count Q 123 ls [.int v] g = Q (some (.int v)) g := E_iret lo_X6_count rfl
set_option maxRecDepth 100000 in
theorem e_X6_count_124 {Q : mQ} {l1 : Value} {st : List Value} {g : mG} {x : Nat} : WP m_X6_count Q 124 [.ref x, l1] st g = WP m_X6_count Q 125 [.ref x, l1] (.ref x :: st) g := E_al (i := 0) (n := 1) lo_X6_count rfl rfl
set_option maxRecDepth 100000 in
theorem e_X6_count_125 {Q : mQ} {ls st : List Value} {g : mG} {a : Nat} : WP m_X6_count Q 125 ls (.ref a :: st) g = ((gK g a = 7 ∧ gR g a 0 ≠ 0) ∧ WP m_X6_count Q 128 ls (.ref (gR g a 0) :: st) g) := E_gR lo_X6_count rfl
set_option maxRecDepth 100000 in
theorem e_X6_count_128 {Q : mQ} {ls st : List Value} {g : mG} {a : Nat} : WP m_X6_count Q 128 ls (.ref a :: st) g = (gK g a = 6 ∧ WP m_X6_count Q 131 ls (.int (gI g a 2) :: st) g) := E_gI lo_X6_count rfl
set_option maxRecDepth 100000 in
theorem e_X6_count_131 {Q : mQ} {ls : List Value} {g : mG} {v : Int32} : WP m_X6_count Q 131 ls [.int v] g = Q (some (.int v)) g := E_iret lo_X6_count rfl
set_option maxRecDepth 100000 in
theorem e_X6_count_132 {Q : mQ} {l1 : Value} {st : List Value} {g : mG} {x : Nat} : WP m_X6_count Q 132 [.ref x, l1] st g = WP m_X6_count Q 133 [.ref x, l1] (.ref x :: st) g := E_al (i := 0) (n := 1) lo_X6_count rfl rfl
set_option maxRecDepth 100000 in
theorem e_X6_count_133 {Q : mQ} {ls st : List Value} {g : mG} {a : Nat} : WP m_X6_count Q 133 ls (.ref a :: st) g = ((gK g a = 7 ∧ gR g a 0 ≠ 0) ∧ WP m_X6_count Q 136 ls (.ref (gR g a 0) :: st) g) := E_gR lo_X6_count rfl
set_option maxRecDepth 100000 in
theorem e_X6_count_136 {Q : mQ} {ls st : List Value} {g : mG} {a : Nat} : WP m_X6_count Q 136 ls (.ref a :: st) g = (gK g a = 6 ∧ WP m_X6_count Q 139 ls (.int (gI g a 3) :: st) g) := E_gI lo_X6_count rfl
set_option maxRecDepth 100000 in
theorem e_X6_count_139 {Q : mQ} {ls : List Value} {g : mG} {v : Int32} : WP m_X6_count Q 139 ls [.int v] g = Q (some (.int v)) g := E_iret lo_X6_count rfl
set_option maxRecDepth 100000 in
theorem e_X6_count_140 {Q : mQ} {l1 : Value} {st : List Value} {g : mG} {x : Nat} : WP m_X6_count Q 140 [.ref x, l1] st g = WP m_X6_count Q 141 [.ref x, l1] (.ref x :: st) g := E_al (i := 0) (n := 1) lo_X6_count rfl rfl
set_option maxRecDepth 100000 in
theorem e_X6_count_141 {Q : mQ} {ls st : List Value} {g : mG} {a : Nat} : WP m_X6_count Q 141 ls (.ref a :: st) g = ((gK g a = 7 ∧ gR g a 0 ≠ 0) ∧ WP m_X6_count Q 144 ls (.ref (gR g a 0) :: st) g) := E_gR lo_X6_count rfl
set_option maxRecDepth 100000 in
theorem e_X6_count_144 {Q : mQ} {ls st : List Value} {g : mG} {a : Nat} : WP m_X6_count Q 144 ls (.ref a :: st) g = (gK g a = 6 ∧ WP m_X6_count Q 147 ls (.int (gI g a 4) :: st) g) := E_gI lo_X6_count rfl
set_option maxRecDepth 100000 in
theorem e_X6_count_147 {Q : mQ} {ls : List Value} {g : mG} {v : Int32} : WP m_X6_count Q 147 ls [.int v] g = Q (some (.int v)) g := E_iret lo_X6_count rfl
set_option maxRecDepth 100000 in
theorem e_X6_count_148 {Q : mQ} {l1 : Value} {st : List Value} {g : mG} {x : Nat} : WP m_X6_count Q 148 [.ref x, l1] st g = WP m_X6_count Q 149 [.ref x, l1] (.ref x :: st) g := E_al (i := 0) (n := 1) lo_X6_count rfl rfl
set_option maxRecDepth 100000 in
theorem e_X6_count_149 {Q : mQ} {ls st : List Value} {g : mG} {a : Nat} : WP m_X6_count Q 149 ls (.ref a :: st) g = ((gK g a = 7 ∧ gR g a 0 ≠ 0) ∧ WP m_X6_count Q 152 ls (.ref (gR g a 0) :: st) g) := E_gR lo_X6_count rfl
set_option maxRecDepth 100000 in
theorem e_X6_count_152 {Q : mQ} {ls st : List Value} {g : mG} {a : Nat} : WP m_X6_count Q 152 ls (.ref a :: st) g = (gK g a = 6 ∧ WP m_X6_count Q 155 ls (.int (gI g a 5) :: st) g) := E_gI lo_X6_count rfl
set_option maxRecDepth 100000 in
theorem e_X6_count_155 {Q : mQ} {ls : List Value} {g : mG} {v : Int32} : WP m_X6_count Q 155 ls [.int v] g = Q (some (.int v)) g := E_iret lo_X6_count rfl
set_option maxRecDepth 100000 in
theorem e_X6_count_156 {Q : mQ} {l1 : Value} {st : List Value} {g : mG} {x : Nat} : WP m_X6_count Q 156 [.ref x, l1] st g = WP m_X6_count Q 157 [.ref x, l1] (.ref x :: st) g := E_al (i := 0) (n := 1) lo_X6_count rfl rfl
set_option maxRecDepth 100000 in
theorem e_X6_count_157 {Q : mQ} {ls st : List Value} {g : mG} {a : Nat} : WP m_X6_count Q 157 ls (.ref a :: st) g = ((gK g a = 7 ∧ gR g a 0 ≠ 0) ∧ WP m_X6_count Q 160 ls (.ref (gR g a 0) :: st) g) := E_gR lo_X6_count rfl
set_option maxRecDepth 100000 in
theorem e_X6_count_160 {Q : mQ} {ls st : List Value} {g : mG} {b : Nat} : WP m_X6_count Q 160 ls (.ref b :: st) g = (st.length ≤ 4 ∧ gK g b = 6 ∧ stbs g ls ∧ stbs g st ∧ w_X5_standingCount [.ref b] g (fun v g' => WP m_X6_count Q 163 ls (v.toList ++ st) g')) := E_CV (ar := [.ref b]) lo_X6_count rfl rfl rfl (by decide)
set_option maxRecDepth 100000 in
theorem e_X6_count_163 {Q : mQ} {ls : List Value} {g : mG} {v : Int32} : WP m_X6_count Q 163 ls [.int v] g = Q (some (.int v)) g := E_iret lo_X6_count rfl
set_option maxRecDepth 100000 in
theorem e_X6_count_164 {Q : mQ} {l1 : Value} {st : List Value} {g : mG} {x : Nat} : WP m_X6_count Q 164 [.ref x, l1] st g = WP m_X6_count Q 165 [.ref x, l1] (.ref x :: st) g := E_al (i := 0) (n := 1) lo_X6_count rfl rfl
set_option maxRecDepth 100000 in
theorem e_X6_count_165 {Q : mQ} {ls st : List Value} {g : mG} {a : Nat} : WP m_X6_count Q 165 ls (.ref a :: st) g = ((gK g a = 7 ∧ gR g a 0 ≠ 0) ∧ WP m_X6_count Q 168 ls (.ref (gR g a 0) :: st) g) := E_gR lo_X6_count rfl
set_option maxRecDepth 100000 in
theorem e_X6_count_168 {Q : mQ} {ls st : List Value} {g : mG} {a : Nat} : WP m_X6_count Q 168 ls (.ref a :: st) g = (gK g a = 6 ∧ WP m_X6_count Q 171 ls (.int (gI g a 6) :: st) g) := E_gI lo_X6_count rfl
set_option maxRecDepth 100000 in
theorem e_X6_count_171 {Q : mQ} {ls : List Value} {g : mG} {v : Int32} : WP m_X6_count Q 171 ls [.int v] g = Q (some (.int v)) g := E_iret lo_X6_count rfl
set_option maxRecDepth 100000 in
theorem e_X6_count_172 {Q : mQ} {l1 : Value} {st : List Value} {g : mG} {x : Nat} : WP m_X6_count Q 172 [.ref x, l1] st g = WP m_X6_count Q 173 [.ref x, l1] (.ref x :: st) g := E_al (i := 0) (n := 1) lo_X6_count rfl rfl
set_option maxRecDepth 100000 in
theorem e_X6_count_173 {Q : mQ} {ls st : List Value} {g : mG} {a : Nat} : WP m_X6_count Q 173 ls (.ref a :: st) g = ((gK g a = 7 ∧ gR g a 0 ≠ 0) ∧ WP m_X6_count Q 176 ls (.ref (gR g a 0) :: st) g) := E_gR lo_X6_count rfl
set_option maxRecDepth 100000 in
theorem e_X6_count_176 {Q : mQ} {ls st : List Value} {g : mG} {a : Nat} : WP m_X6_count Q 176 ls (.ref a :: st) g = (gK g a = 6 ∧ WP m_X6_count Q 179 ls (.int (gI g a 7) :: st) g) := E_gI lo_X6_count rfl
set_option maxRecDepth 100000 in
theorem e_X6_count_179 {Q : mQ} {ls : List Value} {g : mG} {v : Int32} : WP m_X6_count Q 179 ls [.int v] g = Q (some (.int v)) g := E_iret lo_X6_count rfl
set_option maxRecDepth 100000 in
theorem e_X6_count_180 {Q : mQ} {l1 : Value} {st : List Value} {g : mG} {x : Nat} : WP m_X6_count Q 180 [.ref x, l1] st g = WP m_X6_count Q 181 [.ref x, l1] (.ref x :: st) g := E_al (i := 0) (n := 1) lo_X6_count rfl rfl
set_option maxRecDepth 100000 in
theorem e_X6_count_181 {Q : mQ} {ls st : List Value} {g : mG} {a : Nat} : WP m_X6_count Q 181 ls (.ref a :: st) g = ((gK g a = 7 ∧ gR g a 0 ≠ 0) ∧ WP m_X6_count Q 184 ls (.ref (gR g a 0) :: st) g) := E_gR lo_X6_count rfl
set_option maxRecDepth 100000 in
theorem e_X6_count_184 {Q : mQ} {ls st : List Value} {g : mG} {a : Nat} : WP m_X6_count Q 184 ls (.ref a :: st) g = (gK g a = 6 ∧ WP m_X6_count Q 187 ls (.int (gI g a 7) :: st) g) := E_gI lo_X6_count rfl
set_option maxRecDepth 100000 in
theorem e_X6_count_187 {Q : mQ} {ls st : List Value} {g : mG} {x : Int32} : WP m_X6_count Q 187 ls (.int x :: st) g = ((¬ x = 0 → WP m_X6_count Q 195 ls st g) ∧ (¬ (¬ x = 0) → WP m_X6_count Q 190 ls st g)) := E_I1 (c := fun x => ¬ x = 0) (t := 195) lo_X6_count rfl
set_option maxRecDepth 100000 in
theorem e_X6_count_190 {Q : mQ} {ls st : List Value} {g : mG} : WP m_X6_count Q 190 ls st g = WP m_X6_count Q 192 ls (.int ((-5)) :: st) g := E_ic (v := (-5)) (n := 2) lo_X6_count rfl
set_option maxRecDepth 100000 in
theorem e_X6_count_192 {Q : mQ} {ls st : List Value} {g : mG} : WP m_X6_count Q 192 ls st g = WP m_X6_count Q 202 ls st g := E_goto lo_X6_count rfl
set_option maxRecDepth 100000 in
theorem e_X6_count_195 {Q : mQ} {l1 : Value} {st : List Value} {g : mG} {x : Nat} : WP m_X6_count Q 195 [.ref x, l1] st g = WP m_X6_count Q 196 [.ref x, l1] (.ref x :: st) g := E_al (i := 0) (n := 1) lo_X6_count rfl rfl
set_option maxRecDepth 100000 in
theorem e_X6_count_196 {Q : mQ} {ls st : List Value} {g : mG} {a : Nat} : WP m_X6_count Q 196 ls (.ref a :: st) g = ((gK g a = 7 ∧ gR g a 0 ≠ 0) ∧ WP m_X6_count Q 199 ls (.ref (gR g a 0) :: st) g) := E_gR lo_X6_count rfl
set_option maxRecDepth 100000 in
theorem e_X6_count_199 {Q : mQ} {ls st : List Value} {g : mG} {a : Nat} : WP m_X6_count Q 199 ls (.ref a :: st) g = (gK g a = 6 ∧ WP m_X6_count Q 202 ls (.int (gI g a 8) :: st) g) := E_gI lo_X6_count rfl
set_option maxRecDepth 100000 in
theorem e_X6_count_202 {Q : mQ} {ls : List Value} {g : mG} {v : Int32} : WP m_X6_count Q 202 ls [.int v] g = Q (some (.int v)) g := E_iret lo_X6_count rfl
set_option maxRecDepth 100000 in
theorem e_X6_count_203 {Q : mQ} {l1 : Value} {st : List Value} {g : mG} {x : Nat} : WP m_X6_count Q 203 [.ref x, l1] st g = WP m_X6_count Q 204 [.ref x, l1] (.ref x :: st) g := E_al (i := 0) (n := 1) lo_X6_count rfl rfl
set_option maxRecDepth 100000 in
theorem e_X6_count_204 {Q : mQ} {ls st : List Value} {g : mG} {a : Nat} : WP m_X6_count Q 204 ls (.ref a :: st) g = ((gK g a = 7 ∧ gR g a 0 ≠ 0) ∧ WP m_X6_count Q 207 ls (.ref (gR g a 0) :: st) g) := E_gR lo_X6_count rfl
set_option maxRecDepth 100000 in
theorem e_X6_count_207 {Q : mQ} {ls st : List Value} {g : mG} {b : Nat} : WP m_X6_count Q 207 ls (.ref b :: st) g = (st.length ≤ 4 ∧ gK g b = 6 ∧ stbs g ls ∧ stbs g st ∧ w_X5_allCoins [.ref b] g (fun v g' => WP m_X6_count Q 210 ls (v.toList ++ st) g')) := E_CV (ar := [.ref b]) lo_X6_count rfl rfl rfl (by decide)
set_option maxRecDepth 100000 in
theorem e_X6_count_210 {Q : mQ} {ls : List Value} {g : mG} {v : Int32} : WP m_X6_count Q 210 ls [.int v] g = Q (some (.int v)) g := E_iret lo_X6_count rfl
set_option maxRecDepth 100000 in
theorem e_X6_count_211 {Q : mQ} {l1 : Value} {st : List Value} {g : mG} {x : Nat} : WP m_X6_count Q 211 [.ref x, l1] st g = WP m_X6_count Q 212 [.ref x, l1] (.ref x :: st) g := E_al (i := 0) (n := 1) lo_X6_count rfl rfl
set_option maxRecDepth 100000 in
theorem e_X6_count_212 {Q : mQ} {ls st : List Value} {g : mG} {a : Nat} : WP m_X6_count Q 212 ls (.ref a :: st) g = ((gK g a = 7 ∧ gR g a 0 ≠ 0) ∧ WP m_X6_count Q 215 ls (.ref (gR g a 0) :: st) g) := E_gR lo_X6_count rfl
set_option maxRecDepth 100000 in
theorem e_X6_count_215 {Q : mQ} {ls st : List Value} {g : mG} {a : Nat} : WP m_X6_count Q 215 ls (.ref a :: st) g = (gK g a = 6 ∧ WP m_X6_count Q 218 ls (.int (gI g a 9) :: st) g) := E_gI lo_X6_count rfl
set_option maxRecDepth 100000 in
theorem e_X6_count_218 {Q : mQ} {ls : List Value} {g : mG} {v : Int32} : WP m_X6_count Q 218 ls [.int v] g = Q (some (.int v)) g := E_iret lo_X6_count rfl
set_option maxRecDepth 100000 in
theorem e_X6_count_219 {Q : mQ} {l1 : Value} {st : List Value} {g : mG} {x : Nat} : WP m_X6_count Q 219 [.ref x, l1] st g = WP m_X6_count Q 220 [.ref x, l1] (.ref x :: st) g := E_al (i := 0) (n := 1) lo_X6_count rfl rfl
set_option maxRecDepth 100000 in
theorem e_X6_count_220 {Q : mQ} {ls st : List Value} {g : mG} {a : Nat} : WP m_X6_count Q 220 ls (.ref a :: st) g = ((gK g a = 7 ∧ gR g a 0 ≠ 0) ∧ WP m_X6_count Q 223 ls (.ref (gR g a 0) :: st) g) := E_gR lo_X6_count rfl
set_option maxRecDepth 100000 in
theorem e_X6_count_223 {Q : mQ} {ls st : List Value} {g : mG} {a : Nat} : WP m_X6_count Q 223 ls (.ref a :: st) g = (gK g a = 6 ∧ WP m_X6_count Q 226 ls (.int (gI g a 10) :: st) g) := E_gI lo_X6_count rfl
set_option maxRecDepth 100000 in
theorem e_X6_count_226 {Q : mQ} {ls : List Value} {g : mG} {v : Int32} : WP m_X6_count Q 226 ls [.int v] g = Q (some (.int v)) g := E_iret lo_X6_count rfl
set_option maxRecDepth 100000 in
theorem e_X6_count_227 {Q : mQ} {l1 : Value} {st : List Value} {g : mG} {x : Nat} : WP m_X6_count Q 227 [.ref x, l1] st g = WP m_X6_count Q 228 [.ref x, l1] (.ref x :: st) g := E_al (i := 0) (n := 1) lo_X6_count rfl rfl
set_option maxRecDepth 100000 in
theorem e_X6_count_228 {Q : mQ} {ls st : List Value} {g : mG} {a : Nat} : WP m_X6_count Q 228 ls (.ref a :: st) g = ((gK g a = 7 ∧ gR g a 0 ≠ 0) ∧ WP m_X6_count Q 231 ls (.ref (gR g a 0) :: st) g) := E_gR lo_X6_count rfl
set_option maxRecDepth 100000 in
theorem e_X6_count_231 {Q : mQ} {ls st : List Value} {g : mG} {a : Nat} : WP m_X6_count Q 231 ls (.ref a :: st) g = ((gK g a = 6 ∧ gR g a 11 ≠ 0) ∧ WP m_X6_count Q 234 ls (.ref (gR g a 11) :: st) g) := E_gR lo_X6_count rfl
set_option maxRecDepth 100000 in
theorem e_X6_count_234 {Q : mQ} {ls st : List Value} {g : mG} : WP m_X6_count Q 234 ls st g = WP m_X6_count Q 235 ls (.int (nI 0) :: st) g := E_ic (v := nI 0) (n := 1) lo_X6_count rfl
set_option maxRecDepth 100000 in
theorem e_X6_count_235 {Q : mQ} {ls st : List Value} {g : mG} {a : Nat} {i : Int32} : WP m_X6_count Q 235 ls (.int i :: .ref a :: st) g = ((isIA g a ∧ vp_in i (gN g a)) ∧ WP m_X6_count Q 236 ls (.int (gI g a i.toNatClampNeg) :: st) g) := E_iald lo_X6_count rfl
set_option maxRecDepth 100000 in
theorem e_X6_count_236 {Q : mQ} {ls : List Value} {g : mG} {v : Int32} : WP m_X6_count Q 236 ls [.int v] g = Q (some (.int v)) g := E_iret lo_X6_count rfl
set_option maxRecDepth 100000 in
theorem e_X6_count_237 {Q : mQ} {l1 : Value} {st : List Value} {g : mG} {x : Nat} : WP m_X6_count Q 237 [.ref x, l1] st g = WP m_X6_count Q 238 [.ref x, l1] (.ref x :: st) g := E_al (i := 0) (n := 1) lo_X6_count rfl rfl
set_option maxRecDepth 100000 in
theorem e_X6_count_238 {Q : mQ} {ls st : List Value} {g : mG} {a : Nat} : WP m_X6_count Q 238 ls (.ref a :: st) g = ((gK g a = 7 ∧ gR g a 0 ≠ 0) ∧ WP m_X6_count Q 241 ls (.ref (gR g a 0) :: st) g) := E_gR lo_X6_count rfl
set_option maxRecDepth 100000 in
theorem e_X6_count_241 {Q : mQ} {ls st : List Value} {g : mG} {a : Nat} : WP m_X6_count Q 241 ls (.ref a :: st) g = ((gK g a = 6 ∧ gR g a 11 ≠ 0) ∧ WP m_X6_count Q 244 ls (.ref (gR g a 11) :: st) g) := E_gR lo_X6_count rfl
set_option maxRecDepth 100000 in
theorem e_X6_count_244 {Q : mQ} {ls st : List Value} {g : mG} : WP m_X6_count Q 244 ls st g = WP m_X6_count Q 245 ls (.int (nI 1) :: st) g := E_ic (v := nI 1) (n := 1) lo_X6_count rfl
set_option maxRecDepth 100000 in
theorem e_X6_count_245 {Q : mQ} {ls st : List Value} {g : mG} {a : Nat} {i : Int32} : WP m_X6_count Q 245 ls (.int i :: .ref a :: st) g = ((isIA g a ∧ vp_in i (gN g a)) ∧ WP m_X6_count Q 246 ls (.int (gI g a i.toNatClampNeg) :: st) g) := E_iald lo_X6_count rfl
set_option maxRecDepth 100000 in
theorem e_X6_count_246 {Q : mQ} {ls : List Value} {g : mG} {v : Int32} : WP m_X6_count Q 246 ls [.int v] g = Q (some (.int v)) g := E_iret lo_X6_count rfl
set_option maxRecDepth 100000 in
theorem e_X6_count_247 {Q : mQ} {l1 : Value} {st : List Value} {g : mG} {x : Nat} : WP m_X6_count Q 247 [.ref x, l1] st g = WP m_X6_count Q 248 [.ref x, l1] (.ref x :: st) g := E_al (i := 0) (n := 1) lo_X6_count rfl rfl
set_option maxRecDepth 100000 in
theorem e_X6_count_248 {Q : mQ} {ls st : List Value} {g : mG} {a : Nat} : WP m_X6_count Q 248 ls (.ref a :: st) g = ((gK g a = 7 ∧ gR g a 0 ≠ 0) ∧ WP m_X6_count Q 251 ls (.ref (gR g a 0) :: st) g) := E_gR lo_X6_count rfl
set_option maxRecDepth 100000 in
theorem e_X6_count_251 {Q : mQ} {ls st : List Value} {g : mG} {a : Nat} : WP m_X6_count Q 251 ls (.ref a :: st) g = ((gK g a = 6 ∧ gR g a 11 ≠ 0) ∧ WP m_X6_count Q 254 ls (.ref (gR g a 11) :: st) g) := E_gR lo_X6_count rfl
set_option maxRecDepth 100000 in
theorem e_X6_count_254 {Q : mQ} {ls st : List Value} {g : mG} : WP m_X6_count Q 254 ls st g = WP m_X6_count Q 255 ls (.int (nI 2) :: st) g := E_ic (v := nI 2) (n := 1) lo_X6_count rfl
set_option maxRecDepth 100000 in
theorem e_X6_count_255 {Q : mQ} {ls st : List Value} {g : mG} {a : Nat} {i : Int32} : WP m_X6_count Q 255 ls (.int i :: .ref a :: st) g = ((isIA g a ∧ vp_in i (gN g a)) ∧ WP m_X6_count Q 256 ls (.int (gI g a i.toNatClampNeg) :: st) g) := E_iald lo_X6_count rfl
set_option maxRecDepth 100000 in
theorem e_X6_count_256 {Q : mQ} {ls : List Value} {g : mG} {v : Int32} : WP m_X6_count Q 256 ls [.int v] g = Q (some (.int v)) g := E_iret lo_X6_count rfl
set_option maxRecDepth 100000 in
theorem e_X6_count_257 {Q : mQ} {l1 : Value} {st : List Value} {g : mG} {x : Nat} : WP m_X6_count Q 257 [.ref x, l1] st g = WP m_X6_count Q 258 [.ref x, l1] (.ref x :: st) g := E_al (i := 0) (n := 1) lo_X6_count rfl rfl
set_option maxRecDepth 100000 in
theorem e_X6_count_258 {Q : mQ} {ls st : List Value} {g : mG} {a : Nat} : WP m_X6_count Q 258 ls (.ref a :: st) g = ((gK g a = 7 ∧ gR g a 0 ≠ 0) ∧ WP m_X6_count Q 261 ls (.ref (gR g a 0) :: st) g) := E_gR lo_X6_count rfl
set_option maxRecDepth 100000 in
theorem e_X6_count_261 {Q : mQ} {ls st : List Value} {g : mG} {a : Nat} : WP m_X6_count Q 261 ls (.ref a :: st) g = ((gK g a = 6 ∧ gR g a 11 ≠ 0) ∧ WP m_X6_count Q 264 ls (.ref (gR g a 11) :: st) g) := E_gR lo_X6_count rfl
set_option maxRecDepth 100000 in
theorem e_X6_count_264 {Q : mQ} {ls st : List Value} {g : mG} : WP m_X6_count Q 264 ls st g = WP m_X6_count Q 265 ls (.int (nI 3) :: st) g := E_ic (v := nI 3) (n := 1) lo_X6_count rfl
set_option maxRecDepth 100000 in
theorem e_X6_count_265 {Q : mQ} {ls st : List Value} {g : mG} {a : Nat} {i : Int32} : WP m_X6_count Q 265 ls (.int i :: .ref a :: st) g = ((isIA g a ∧ vp_in i (gN g a)) ∧ WP m_X6_count Q 266 ls (.int (gI g a i.toNatClampNeg) :: st) g) := E_iald lo_X6_count rfl
set_option maxRecDepth 100000 in
theorem e_X6_count_266 {Q : mQ} {ls : List Value} {g : mG} {v : Int32} : WP m_X6_count Q 266 ls [.int v] g = Q (some (.int v)) g := E_iret lo_X6_count rfl
set_option maxRecDepth 100000 in
theorem e_X6_count_267 {Q : mQ} {l1 : Value} {st : List Value} {g : mG} {x : Nat} : WP m_X6_count Q 267 [.ref x, l1] st g = WP m_X6_count Q 268 [.ref x, l1] (.ref x :: st) g := E_al (i := 0) (n := 1) lo_X6_count rfl rfl
set_option maxRecDepth 100000 in
theorem e_X6_count_268 {Q : mQ} {ls st : List Value} {g : mG} {a : Nat} : WP m_X6_count Q 268 ls (.ref a :: st) g = ((gK g a = 7 ∧ gR g a 0 ≠ 0) ∧ WP m_X6_count Q 271 ls (.ref (gR g a 0) :: st) g) := E_gR lo_X6_count rfl
set_option maxRecDepth 100000 in
theorem e_X6_count_271 {Q : mQ} {ls st : List Value} {g : mG} {a : Nat} : WP m_X6_count Q 271 ls (.ref a :: st) g = ((gK g a = 6 ∧ gR g a 11 ≠ 0) ∧ WP m_X6_count Q 274 ls (.ref (gR g a 11) :: st) g) := E_gR lo_X6_count rfl
set_option maxRecDepth 100000 in
theorem e_X6_count_274 {Q : mQ} {ls st : List Value} {g : mG} : WP m_X6_count Q 274 ls st g = WP m_X6_count Q 275 ls (.int (nI 4) :: st) g := E_ic (v := nI 4) (n := 1) lo_X6_count rfl
set_option maxRecDepth 100000 in
theorem e_X6_count_275 {Q : mQ} {ls st : List Value} {g : mG} {a : Nat} {i : Int32} : WP m_X6_count Q 275 ls (.int i :: .ref a :: st) g = ((isIA g a ∧ vp_in i (gN g a)) ∧ WP m_X6_count Q 276 ls (.int (gI g a i.toNatClampNeg) :: st) g) := E_iald lo_X6_count rfl
set_option maxRecDepth 100000 in
theorem e_X6_count_276 {Q : mQ} {ls : List Value} {g : mG} {v : Int32} : WP m_X6_count Q 276 ls [.int v] g = Q (some (.int v)) g := E_iret lo_X6_count rfl
set_option maxRecDepth 100000 in
theorem e_X6_count_277 {Q : mQ} {l1 : Value} {st : List Value} {g : mG} {x : Nat} : WP m_X6_count Q 277 [.ref x, l1] st g = WP m_X6_count Q 278 [.ref x, l1] (.ref x :: st) g := E_al (i := 0) (n := 1) lo_X6_count rfl rfl
set_option maxRecDepth 100000 in
theorem e_X6_count_278 {Q : mQ} {ls st : List Value} {g : mG} {a : Nat} : WP m_X6_count Q 278 ls (.ref a :: st) g = (gK g a = 7 ∧ WP m_X6_count Q 281 ls (.int (gI g a 5) :: st) g) := E_gI lo_X6_count rfl
set_option maxRecDepth 100000 in
theorem e_X6_count_281 {Q : mQ} {ls : List Value} {g : mG} {v : Int32} : WP m_X6_count Q 281 ls [.int v] g = Q (some (.int v)) g := E_iret lo_X6_count rfl
set_option maxRecDepth 100000 in
theorem e_X6_count_282 {Q : mQ} {l1 : Value} {st : List Value} {g : mG} {x : Nat} : WP m_X6_count Q 282 [.ref x, l1] st g = WP m_X6_count Q 283 [.ref x, l1] (.ref x :: st) g := E_al (i := 0) (n := 1) lo_X6_count rfl rfl
set_option maxRecDepth 100000 in
theorem e_X6_count_283 {Q : mQ} {ls st : List Value} {g : mG} {a : Nat} : WP m_X6_count Q 283 ls (.ref a :: st) g = ((gK g a = 7 ∧ gR g a 6 ≠ 0) ∧ WP m_X6_count Q 286 ls (.ref (gR g a 6) :: st) g) := E_gR lo_X6_count rfl
set_option maxRecDepth 100000 in
theorem e_X6_count_286 {Q : mQ} {ls st : List Value} {g : mG} {a : Nat} : WP m_X6_count Q 286 ls (.ref a :: st) g = (gK g a = 4 ∧ WP m_X6_count Q 289 ls (.int (gI g a 1) :: st) g) := E_gI lo_X6_count rfl
set_option maxRecDepth 100000 in
theorem e_X6_count_289 {Q : mQ} {ls : List Value} {g : mG} {v : Int32} : WP m_X6_count Q 289 ls [.int v] g = Q (some (.int v)) g := E_iret lo_X6_count rfl
set_option maxRecDepth 100000 in
theorem e_X6_count_290 {Q : mQ} {ls st : List Value} {g : mG} : WP m_X6_count Q 290 ls st g = WP m_X6_count Q 292 ls (.int ((-2)) :: st) g := E_ic (v := (-2)) (n := 2) lo_X6_count rfl
set_option maxRecDepth 100000 in
theorem e_X6_count_292 {Q : mQ} {ls : List Value} {g : mG} {v : Int32} : WP m_X6_count Q 292 ls [.int v] g = Q (some (.int v)) g := E_iret lo_X6_count rfl
/-! KilnPermits.oneComes(ZIII)I -/
def m_X6_oneComes : List (Nat × mT) := [(0, tD (f_al 0 1)),
  (1, tD (f_gR 7 0)),
  (4, tD (f_il 1 1)),
  (5, tD (f_il 2 1)),
  (6, tD (f_il 3 1)),
  (7, tD (f_il 4 2)),
  (9, tC w_X5_errorOf 6 5),
  (12, tD (f_is 5 2)),
  (14, tD (f_il 5 2)),
  (16, tI1 (fun x => x = 0) 22),
  (19, tD (f_il 5 2)),
  (21, tR f_iret),
  (22, tD (f_al 0 1)),
  (23, tC w_X6_record 7 1),
  (26, tD (f_al 0 1)),
  (27, tD (f_gR 7 0)),
  (30, tD (f_il 1 1)),
  (31, tD (f_il 2 1)),
  (32, tD (f_il 3 1)),
  (33, tD (f_il 4 2)),
  (35, tC w_X5_comes 6 5),
  (38, tR f_iret)]
abbrev w_X6_oneComes : mS := wm m_X6_oneComes 5 1
set_option maxRecDepth 100000 in
theorem lo_X6_oneComes : locs_ok m_X6_oneComes := List.forall_mem_cons.mpr ⟨loc_D mo_al,
  List.forall_mem_cons.mpr ⟨loc_D mo_gR,
  List.forall_mem_cons.mpr ⟨loc_D mo_il,
  List.forall_mem_cons.mpr ⟨loc_D mo_il,
  List.forall_mem_cons.mpr ⟨loc_D mo_il,
  List.forall_mem_cons.mpr ⟨loc_D mo_il,
  List.forall_mem_cons.mpr ⟨loc_C sm_X5_errorOf.1,
  List.forall_mem_cons.mpr ⟨loc_D mo_is,
  List.forall_mem_cons.mpr ⟨loc_D mo_il,
  List.forall_mem_cons.mpr ⟨loc_I1,
  List.forall_mem_cons.mpr ⟨loc_D mo_il,
  List.forall_mem_cons.mpr ⟨loc_R,
  List.forall_mem_cons.mpr ⟨loc_D mo_al,
  List.forall_mem_cons.mpr ⟨loc_C sm_X6_record.1,
  List.forall_mem_cons.mpr ⟨loc_D mo_al,
  List.forall_mem_cons.mpr ⟨loc_D mo_gR,
  List.forall_mem_cons.mpr ⟨loc_D mo_il,
  List.forall_mem_cons.mpr ⟨loc_D mo_il,
  List.forall_mem_cons.mpr ⟨loc_D mo_il,
  List.forall_mem_cons.mpr ⟨loc_D mo_il,
  List.forall_mem_cons.mpr ⟨loc_C sm_X5_comes.1,
  List.forall_mem_cons.mpr ⟨loc_R,
  fun _ h => absurd h List.not_mem_nil⟩⟩⟩⟩⟩⟩⟩⟩⟩⟩⟩⟩⟩⟩⟩⟩⟩⟩⟩⟩⟩⟩
set_option maxRecDepth 100000 in
theorem sm_X6_oneComes : SM yX6_oneComes cX6_oneComes 6 (some .int) 7 w_X6_oneComes := SM_of' RX6 "oneComes" rfl rfl (by decide) (by decide) (by decide) lo_X6_oneComes (List.forall_mem_cons.mpr ⟨STP.r mo_al (q_aload_n dX6_oneComes_0 rfl),
  List.forall_mem_cons.mpr ⟨STP.r mo_gR (q_gR ⟨by decide, by decide⟩ (by decide) rfl (by decide) kf_X6_12 dX6_oneComes_1),
  List.forall_mem_cons.mpr ⟨STP.r mo_il (q_iload_n dX6_oneComes_4 rfl),
  List.forall_mem_cons.mpr ⟨STP.r mo_il (q_iload_n dX6_oneComes_5 rfl),
  List.forall_mem_cons.mpr ⟨STP.r mo_il (q_iload_n dX6_oneComes_6 rfl),
  List.forall_mem_cons.mpr ⟨STP.r mo_il (q_iload dX6_oneComes_7),
  List.forall_mem_cons.mpr ⟨(snd_CV sm_X5_errorOf ⟨by decide, by decide⟩ rfl km_X6_98 kt_X5_errorOf kv_X5_errorOf rfl ki_X5 kx_X5_errorOf ⟨by decide, by decide, by decide +kernel⟩ (by decide) (by decide) dX6_oneComes_9).r,
  List.forall_mem_cons.mpr ⟨STP.r mo_is (q_istore dX6_oneComes_12),
  List.forall_mem_cons.mpr ⟨STP.r mo_il (q_iload dX6_oneComes_14),
  List.forall_mem_cons.mpr ⟨(q_if_eq dX6_oneComes_16 (by decide)).r,
  List.forall_mem_cons.mpr ⟨STP.r mo_il (q_iload dX6_oneComes_19),
  List.forall_mem_cons.mpr ⟨r_iret dX6_oneComes_21,
  List.forall_mem_cons.mpr ⟨STP.r mo_al (q_aload_n dX6_oneComes_22 rfl),
  List.forall_mem_cons.mpr ⟨(snd_CV sm_X6_record ⟨by decide, by decide⟩ rfl km_X6_41 kt_X6_record kv_X6_record rfl ki_X6 kx_X6_record ⟨by decide, by decide, by decide +kernel⟩ (by decide) (by decide) dX6_oneComes_23).r,
  List.forall_mem_cons.mpr ⟨STP.r mo_al (q_aload_n dX6_oneComes_26 rfl),
  List.forall_mem_cons.mpr ⟨STP.r mo_gR (q_gR ⟨by decide, by decide⟩ (by decide) rfl (by decide) kf_X6_12 dX6_oneComes_27),
  List.forall_mem_cons.mpr ⟨STP.r mo_il (q_iload_n dX6_oneComes_30 rfl),
  List.forall_mem_cons.mpr ⟨STP.r mo_il (q_iload_n dX6_oneComes_31 rfl),
  List.forall_mem_cons.mpr ⟨STP.r mo_il (q_iload_n dX6_oneComes_32 rfl),
  List.forall_mem_cons.mpr ⟨STP.r mo_il (q_iload dX6_oneComes_33),
  List.forall_mem_cons.mpr ⟨(snd_CV sm_X5_comes ⟨by decide, by decide⟩ rfl km_X6_104 kt_X5_comes kv_X5_comes rfl ki_X5 kx_X5_comes ⟨by decide, by decide, by decide +kernel⟩ (by decide) (by decide) dX6_oneComes_35).r,
  List.forall_mem_cons.mpr ⟨r_iret dX6_oneComes_38,
  fun _ h => absurd h List.not_mem_nil⟩⟩⟩⟩⟩⟩⟩⟩⟩⟩⟩⟩⟩⟩⟩⟩⟩⟩⟩⟩⟩⟩)
theorem e_X6_oneComes_0 {Q : mQ} {l1 l2 l3 l4 l5 : Value} {st : List Value} {g : mG} {x : Nat} : WP m_X6_oneComes Q 0 [.ref x, l1, l2, l3, l4, l5] st g = WP m_X6_oneComes Q 1 [.ref x, l1, l2, l3, l4, l5] (.ref x :: st) g := E_al (i := 0) (n := 1) lo_X6_oneComes rfl rfl
theorem e_X6_oneComes_1 {Q : mQ} {ls st : List Value} {g : mG} {a : Nat} : WP m_X6_oneComes Q 1 ls (.ref a :: st) g = ((gK g a = 7 ∧ gR g a 0 ≠ 0) ∧ WP m_X6_oneComes Q 4 ls (.ref (gR g a 0) :: st) g) := E_gR lo_X6_oneComes rfl
theorem e_X6_oneComes_4 {Q : mQ} {l0 l2 l3 l4 l5 : Value} {st : List Value} {g : mG} {x : Int32} : WP m_X6_oneComes Q 4 [l0, .int x, l2, l3, l4, l5] st g = WP m_X6_oneComes Q 5 [l0, .int x, l2, l3, l4, l5] (.int x :: st) g := E_il (i := 1) (n := 1) lo_X6_oneComes rfl rfl
theorem e_X6_oneComes_5 {Q : mQ} {l0 l1 l3 l4 l5 : Value} {st : List Value} {g : mG} {x : Int32} : WP m_X6_oneComes Q 5 [l0, l1, .int x, l3, l4, l5] st g = WP m_X6_oneComes Q 6 [l0, l1, .int x, l3, l4, l5] (.int x :: st) g := E_il (i := 2) (n := 1) lo_X6_oneComes rfl rfl
theorem e_X6_oneComes_6 {Q : mQ} {l0 l1 l2 l4 l5 : Value} {st : List Value} {g : mG} {x : Int32} : WP m_X6_oneComes Q 6 [l0, l1, l2, .int x, l4, l5] st g = WP m_X6_oneComes Q 7 [l0, l1, l2, .int x, l4, l5] (.int x :: st) g := E_il (i := 3) (n := 1) lo_X6_oneComes rfl rfl
theorem e_X6_oneComes_7 {Q : mQ} {l0 l1 l2 l3 l5 : Value} {st : List Value} {g : mG} {x : Int32} : WP m_X6_oneComes Q 7 [l0, l1, l2, l3, .int x, l5] st g = WP m_X6_oneComes Q 9 [l0, l1, l2, l3, .int x, l5] (.int x :: st) g := E_il (i := 4) (n := 2) lo_X6_oneComes rfl rfl
theorem e_X6_oneComes_9 {Q : mQ} {ls st : List Value} {g : mG} {b : Nat} {a0 a1 a2 a3 : Value} : WP m_X6_oneComes Q 9 ls (a3 :: a2 :: a1 :: a0 :: .ref b :: st) g = (st.length ≤ 4 ∧ gK g b = 6 ∧ stbs g ls ∧ stbs g st ∧ w_X5_errorOf [.ref b, a0, a1, a2, a3] g (fun v g' => WP m_X6_oneComes Q 12 ls (v.toList ++ st) g')) := E_CV (ar := [a3, a2, a1, a0, .ref b]) lo_X6_oneComes rfl rfl rfl (by decide)
theorem e_X6_oneComes_12 {Q : mQ} {l0 l1 l2 l3 l4 l5 : Value} {st : List Value} {g : mG} {x : Int32} : WP m_X6_oneComes Q 12 [l0, l1, l2, l3, l4, l5] (.int x :: st) g = (nl1 l4 ∧ WP m_X6_oneComes Q 14 [l0, l1, l2, l3, l4, .int x] st g) := E_is (i := 5) (n := 2) lo_X6_oneComes rfl (Nat.le_of_ble_eq_true rfl)
theorem e_X6_oneComes_14 {Q : mQ} {l0 l1 l2 l3 l4 : Value} {st : List Value} {g : mG} {x : Int32} : WP m_X6_oneComes Q 14 [l0, l1, l2, l3, l4, .int x] st g = WP m_X6_oneComes Q 16 [l0, l1, l2, l3, l4, .int x] (.int x :: st) g := E_il (i := 5) (n := 2) lo_X6_oneComes rfl rfl
theorem e_X6_oneComes_16 {Q : mQ} {ls st : List Value} {g : mG} {x : Int32} : WP m_X6_oneComes Q 16 ls (.int x :: st) g = ((x = 0 → WP m_X6_oneComes Q 22 ls st g) ∧ (¬ (x = 0) → WP m_X6_oneComes Q 19 ls st g)) := E_I1 (c := fun x => x = 0) (t := 22) lo_X6_oneComes rfl
theorem e_X6_oneComes_19 {Q : mQ} {l0 l1 l2 l3 l4 : Value} {st : List Value} {g : mG} {x : Int32} : WP m_X6_oneComes Q 19 [l0, l1, l2, l3, l4, .int x] st g = WP m_X6_oneComes Q 21 [l0, l1, l2, l3, l4, .int x] (.int x :: st) g := E_il (i := 5) (n := 2) lo_X6_oneComes rfl rfl
theorem e_X6_oneComes_21 {Q : mQ} {ls : List Value} {g : mG} {v : Int32} : WP m_X6_oneComes Q 21 ls [.int v] g = Q (some (.int v)) g := E_iret lo_X6_oneComes rfl
theorem e_X6_oneComes_22 {Q : mQ} {l1 l2 l3 l4 l5 : Value} {st : List Value} {g : mG} {x : Nat} : WP m_X6_oneComes Q 22 [.ref x, l1, l2, l3, l4, l5] st g = WP m_X6_oneComes Q 23 [.ref x, l1, l2, l3, l4, l5] (.ref x :: st) g := E_al (i := 0) (n := 1) lo_X6_oneComes rfl rfl
theorem e_X6_oneComes_23 {Q : mQ} {ls st : List Value} {g : mG} {b : Nat} : WP m_X6_oneComes Q 23 ls (.ref b :: st) g = (st.length ≤ 4 ∧ gK g b = 7 ∧ stbs g ls ∧ stbs g st ∧ w_X6_record [.ref b] g (fun v g' => WP m_X6_oneComes Q 26 ls (v.toList ++ st) g')) := E_CV (ar := [.ref b]) lo_X6_oneComes rfl rfl rfl (by decide)
theorem e_X6_oneComes_26 {Q : mQ} {l1 l2 l3 l4 l5 : Value} {st : List Value} {g : mG} {x : Nat} : WP m_X6_oneComes Q 26 [.ref x, l1, l2, l3, l4, l5] st g = WP m_X6_oneComes Q 27 [.ref x, l1, l2, l3, l4, l5] (.ref x :: st) g := E_al (i := 0) (n := 1) lo_X6_oneComes rfl rfl
theorem e_X6_oneComes_27 {Q : mQ} {ls st : List Value} {g : mG} {a : Nat} : WP m_X6_oneComes Q 27 ls (.ref a :: st) g = ((gK g a = 7 ∧ gR g a 0 ≠ 0) ∧ WP m_X6_oneComes Q 30 ls (.ref (gR g a 0) :: st) g) := E_gR lo_X6_oneComes rfl
theorem e_X6_oneComes_30 {Q : mQ} {l0 l2 l3 l4 l5 : Value} {st : List Value} {g : mG} {x : Int32} : WP m_X6_oneComes Q 30 [l0, .int x, l2, l3, l4, l5] st g = WP m_X6_oneComes Q 31 [l0, .int x, l2, l3, l4, l5] (.int x :: st) g := E_il (i := 1) (n := 1) lo_X6_oneComes rfl rfl
theorem e_X6_oneComes_31 {Q : mQ} {l0 l1 l3 l4 l5 : Value} {st : List Value} {g : mG} {x : Int32} : WP m_X6_oneComes Q 31 [l0, l1, .int x, l3, l4, l5] st g = WP m_X6_oneComes Q 32 [l0, l1, .int x, l3, l4, l5] (.int x :: st) g := E_il (i := 2) (n := 1) lo_X6_oneComes rfl rfl
theorem e_X6_oneComes_32 {Q : mQ} {l0 l1 l2 l4 l5 : Value} {st : List Value} {g : mG} {x : Int32} : WP m_X6_oneComes Q 32 [l0, l1, l2, .int x, l4, l5] st g = WP m_X6_oneComes Q 33 [l0, l1, l2, .int x, l4, l5] (.int x :: st) g := E_il (i := 3) (n := 1) lo_X6_oneComes rfl rfl
theorem e_X6_oneComes_33 {Q : mQ} {l0 l1 l2 l3 l5 : Value} {st : List Value} {g : mG} {x : Int32} : WP m_X6_oneComes Q 33 [l0, l1, l2, l3, .int x, l5] st g = WP m_X6_oneComes Q 35 [l0, l1, l2, l3, .int x, l5] (.int x :: st) g := E_il (i := 4) (n := 2) lo_X6_oneComes rfl rfl
theorem e_X6_oneComes_35 {Q : mQ} {ls st : List Value} {g : mG} {b : Nat} {a0 a1 a2 a3 : Value} : WP m_X6_oneComes Q 35 ls (a3 :: a2 :: a1 :: a0 :: .ref b :: st) g = (st.length ≤ 4 ∧ gK g b = 6 ∧ stbs g ls ∧ stbs g st ∧ w_X5_comes [.ref b, a0, a1, a2, a3] g (fun v g' => WP m_X6_oneComes Q 38 ls (v.toList ++ st) g')) := E_CV (ar := [a3, a2, a1, a0, .ref b]) lo_X6_oneComes rfl rfl rfl (by decide)
theorem e_X6_oneComes_38 {Q : mQ} {ls : List Value} {g : mG} {v : Int32} : WP m_X6_oneComes Q 38 ls [.int v] g = Q (some (.int v)) g := E_iret lo_X6_oneComes rfl
/-! KilnPermits.ask(III)I -/
def m_X6_ask : List (Nat × mT) := [(0, tD (f_al 0 1)),
  (1, tD (f_ic (nI 0) 1)),
  (2, tD (f_il 1 1)),
  (3, tD (f_il 2 1)),
  (4, tD (f_il 3 1)),
  (5, tC w_X6_oneComes 7 5),
  (8, tR f_iret)]
abbrev w_X6_ask : mS := wm m_X6_ask 4 0
set_option maxRecDepth 100000 in
theorem lo_X6_ask : locs_ok m_X6_ask := List.forall_mem_cons.mpr ⟨loc_D mo_al,
  List.forall_mem_cons.mpr ⟨loc_D mo_ic,
  List.forall_mem_cons.mpr ⟨loc_D mo_il,
  List.forall_mem_cons.mpr ⟨loc_D mo_il,
  List.forall_mem_cons.mpr ⟨loc_D mo_il,
  List.forall_mem_cons.mpr ⟨loc_C sm_X6_oneComes.1,
  List.forall_mem_cons.mpr ⟨loc_R,
  fun _ h => absurd h List.not_mem_nil⟩⟩⟩⟩⟩⟩⟩
set_option maxRecDepth 100000 in
theorem sm_X6_ask : SM yX6_ask cX6_ask 4 (some .int) 8 w_X6_ask := SM_of' RX6 "ask" rfl rfl (by decide) (by decide) (by decide) lo_X6_ask (List.forall_mem_cons.mpr ⟨STP.r mo_al (q_aload_n dX6_ask_0 rfl),
  List.forall_mem_cons.mpr ⟨STP.r mo_ic (q_iconst dX6_ask_1 (by decide)),
  List.forall_mem_cons.mpr ⟨STP.r mo_il (q_iload_n dX6_ask_2 rfl),
  List.forall_mem_cons.mpr ⟨STP.r mo_il (q_iload_n dX6_ask_3 rfl),
  List.forall_mem_cons.mpr ⟨STP.r mo_il (q_iload_n dX6_ask_4 rfl),
  List.forall_mem_cons.mpr ⟨(snd_CV sm_X6_oneComes ⟨by decide, by decide⟩ rfl km_X6_64 kt_X6_oneComes kv_X6_oneComes rfl ki_X6 kx_X6_oneComes ⟨by decide, by decide, by decide +kernel⟩ (by decide) (by decide) dX6_ask_5).r,
  List.forall_mem_cons.mpr ⟨r_iret dX6_ask_8,
  fun _ h => absurd h List.not_mem_nil⟩⟩⟩⟩⟩⟩⟩)
theorem e_X6_ask_0 {Q : mQ} {l1 l2 l3 : Value} {st : List Value} {g : mG} {x : Nat} : WP m_X6_ask Q 0 [.ref x, l1, l2, l3] st g = WP m_X6_ask Q 1 [.ref x, l1, l2, l3] (.ref x :: st) g := E_al (i := 0) (n := 1) lo_X6_ask rfl rfl
theorem e_X6_ask_1 {Q : mQ} {ls st : List Value} {g : mG} : WP m_X6_ask Q 1 ls st g = WP m_X6_ask Q 2 ls (.int (nI 0) :: st) g := E_ic (v := nI 0) (n := 1) lo_X6_ask rfl
theorem e_X6_ask_2 {Q : mQ} {l0 l2 l3 : Value} {st : List Value} {g : mG} {x : Int32} : WP m_X6_ask Q 2 [l0, .int x, l2, l3] st g = WP m_X6_ask Q 3 [l0, .int x, l2, l3] (.int x :: st) g := E_il (i := 1) (n := 1) lo_X6_ask rfl rfl
theorem e_X6_ask_3 {Q : mQ} {l0 l1 l3 : Value} {st : List Value} {g : mG} {x : Int32} : WP m_X6_ask Q 3 [l0, l1, .int x, l3] st g = WP m_X6_ask Q 4 [l0, l1, .int x, l3] (.int x :: st) g := E_il (i := 2) (n := 1) lo_X6_ask rfl rfl
theorem e_X6_ask_4 {Q : mQ} {l0 l1 l2 : Value} {st : List Value} {g : mG} {x : Int32} : WP m_X6_ask Q 4 [l0, l1, l2, .int x] st g = WP m_X6_ask Q 5 [l0, l1, l2, .int x] (.int x :: st) g := E_il (i := 3) (n := 1) lo_X6_ask rfl rfl
theorem e_X6_ask_5 {Q : mQ} {ls st : List Value} {g : mG} {b : Nat} {a0 a1 a2 a3 : Value} : WP m_X6_ask Q 5 ls (a3 :: a2 :: a1 :: a0 :: .ref b :: st) g = (st.length ≤ 4 ∧ gK g b = 7 ∧ stbs g ls ∧ stbs g st ∧ w_X6_oneComes [.ref b, a0, a1, a2, a3] g (fun v g' => WP m_X6_ask Q 8 ls (v.toList ++ st) g')) := E_CV (ar := [a3, a2, a1, a0, .ref b]) lo_X6_ask rfl rfl rfl (by decide)
theorem e_X6_ask_8 {Q : mQ} {ls : List Value} {g : mG} {v : Int32} : WP m_X6_ask Q 8 ls [.int v] g = Q (some (.int v)) g := E_iret lo_X6_ask rfl
/-! KilnPermits.bid(III)I -/
def m_X6_bid : List (Nat × mT) := [(0, tD (f_al 0 1)),
  (1, tD (f_ic (nI 1) 1)),
  (2, tD (f_il 1 1)),
  (3, tD (f_il 2 1)),
  (4, tD (f_il 3 1)),
  (5, tC w_X6_oneComes 7 5),
  (8, tR f_iret)]
abbrev w_X6_bid : mS := wm m_X6_bid 4 0
set_option maxRecDepth 100000 in
theorem lo_X6_bid : locs_ok m_X6_bid := List.forall_mem_cons.mpr ⟨loc_D mo_al,
  List.forall_mem_cons.mpr ⟨loc_D mo_ic,
  List.forall_mem_cons.mpr ⟨loc_D mo_il,
  List.forall_mem_cons.mpr ⟨loc_D mo_il,
  List.forall_mem_cons.mpr ⟨loc_D mo_il,
  List.forall_mem_cons.mpr ⟨loc_C sm_X6_oneComes.1,
  List.forall_mem_cons.mpr ⟨loc_R,
  fun _ h => absurd h List.not_mem_nil⟩⟩⟩⟩⟩⟩⟩
set_option maxRecDepth 100000 in
theorem sm_X6_bid : SM yX6_bid cX6_bid 4 (some .int) 8 w_X6_bid := SM_of' RX6 "bid" rfl rfl (by decide) (by decide) (by decide) lo_X6_bid (List.forall_mem_cons.mpr ⟨STP.r mo_al (q_aload_n dX6_bid_0 rfl),
  List.forall_mem_cons.mpr ⟨STP.r mo_ic (q_iconst dX6_bid_1 (by decide)),
  List.forall_mem_cons.mpr ⟨STP.r mo_il (q_iload_n dX6_bid_2 rfl),
  List.forall_mem_cons.mpr ⟨STP.r mo_il (q_iload_n dX6_bid_3 rfl),
  List.forall_mem_cons.mpr ⟨STP.r mo_il (q_iload_n dX6_bid_4 rfl),
  List.forall_mem_cons.mpr ⟨(snd_CV sm_X6_oneComes ⟨by decide, by decide⟩ rfl km_X6_64 kt_X6_oneComes kv_X6_oneComes rfl ki_X6 kx_X6_oneComes ⟨by decide, by decide, by decide +kernel⟩ (by decide) (by decide) dX6_bid_5).r,
  List.forall_mem_cons.mpr ⟨r_iret dX6_bid_8,
  fun _ h => absurd h List.not_mem_nil⟩⟩⟩⟩⟩⟩⟩)
theorem e_X6_bid_0 {Q : mQ} {l1 l2 l3 : Value} {st : List Value} {g : mG} {x : Nat} : WP m_X6_bid Q 0 [.ref x, l1, l2, l3] st g = WP m_X6_bid Q 1 [.ref x, l1, l2, l3] (.ref x :: st) g := E_al (i := 0) (n := 1) lo_X6_bid rfl rfl
theorem e_X6_bid_1 {Q : mQ} {ls st : List Value} {g : mG} : WP m_X6_bid Q 1 ls st g = WP m_X6_bid Q 2 ls (.int (nI 1) :: st) g := E_ic (v := nI 1) (n := 1) lo_X6_bid rfl
theorem e_X6_bid_2 {Q : mQ} {l0 l2 l3 : Value} {st : List Value} {g : mG} {x : Int32} : WP m_X6_bid Q 2 [l0, .int x, l2, l3] st g = WP m_X6_bid Q 3 [l0, .int x, l2, l3] (.int x :: st) g := E_il (i := 1) (n := 1) lo_X6_bid rfl rfl
theorem e_X6_bid_3 {Q : mQ} {l0 l1 l3 : Value} {st : List Value} {g : mG} {x : Int32} : WP m_X6_bid Q 3 [l0, l1, .int x, l3] st g = WP m_X6_bid Q 4 [l0, l1, .int x, l3] (.int x :: st) g := E_il (i := 2) (n := 1) lo_X6_bid rfl rfl
theorem e_X6_bid_4 {Q : mQ} {l0 l1 l2 : Value} {st : List Value} {g : mG} {x : Int32} : WP m_X6_bid Q 4 [l0, l1, l2, .int x] st g = WP m_X6_bid Q 5 [l0, l1, l2, .int x] (.int x :: st) g := E_il (i := 3) (n := 1) lo_X6_bid rfl rfl
theorem e_X6_bid_5 {Q : mQ} {ls st : List Value} {g : mG} {b : Nat} {a0 a1 a2 a3 : Value} : WP m_X6_bid Q 5 ls (a3 :: a2 :: a1 :: a0 :: .ref b :: st) g = (st.length ≤ 4 ∧ gK g b = 7 ∧ stbs g ls ∧ stbs g st ∧ w_X6_oneComes [.ref b, a0, a1, a2, a3] g (fun v g' => WP m_X6_bid Q 8 ls (v.toList ++ st) g')) := E_CV (ar := [a3, a2, a1, a0, .ref b]) lo_X6_bid rfl rfl rfl (by decide)
theorem e_X6_bid_8 {Q : mQ} {ls : List Value} {g : mG} {v : Int32} : WP m_X6_bid Q 8 ls [.int v] g = Q (some (.int v)) g := E_iret lo_X6_bid rfl
/-! KilnPermits.audit(I)I -/
def m_X6_audit : List (Nat × mT) := [(0, tD (f_al 0 1)),
  (1, tD (f_gR 7 0)),
  (4, tD (f_il 1 1)),
  (5, tC w_X5_kilnAt 6 2),
  (8, tD (f_as 2 1)),
  (9, tD (f_al 2 1)),
  (10, tD (f_ifn 15 false)),
  (13, tD (f_ic ((-1)) 1)),
  (14, tR f_iret),
  (15, tD (f_al 2 1)),
  (16, tD (f_gI 1 1)),
  (19, tD (f_al 2 1)),
  (20, tD (f_gI 1 2)),
  (23, tD (f_b2 fun x y => x - y)),
  (24, tD (f_is 3 1)),
  (25, tD (f_il 3 1)),
  (26, tI1 (fun x => ¬ x = 0) 32),
  (29, tD (f_ic ((-5)) 2)),
  (31, tR f_iret),
  (32, tD (f_al 0 1)),
  (33, tC w_X6_record 7 1),
  (36, tD (f_al 2 1)),
  (37, tD (f_dup)),
  (38, tD (f_gI 1 2)),
  (41, tD (f_il 3 1)),
  (42, tD (f_b2 fun x y => x + y)),
  (43, tD (f_pI 1 2)),
  (46, tD (f_al 2 1)),
  (47, tD (f_dup)),
  (48, tD (f_gI 1 4)),
  (51, tD (f_il 3 1)),
  (52, tD (f_al 0 1)),
  (53, tD (f_gR 7 0)),
  (56, tD (f_gR 6 11)),
  (59, tD (f_ic (nI 4) 1)),
  (60, tD (f_iald)),
  (61, tD (f_b2 fun x y => x * y)),
  (62, tD (f_b2 fun x y => x + y)),
  (63, tD (f_pI 1 4)),
  (66, tD (f_il 3 1)),
  (67, tR f_iret)]
abbrev w_X6_audit : mS := wm m_X6_audit 2 2
set_option maxRecDepth 100000 in
theorem lo_X6_audit : locs_ok m_X6_audit := List.forall_mem_cons.mpr ⟨loc_D mo_al,
  List.forall_mem_cons.mpr ⟨loc_D mo_gR,
  List.forall_mem_cons.mpr ⟨loc_D mo_il,
  List.forall_mem_cons.mpr ⟨loc_C sm_X5_kilnAt.1,
  List.forall_mem_cons.mpr ⟨loc_D mo_as,
  List.forall_mem_cons.mpr ⟨loc_D mo_al,
  List.forall_mem_cons.mpr ⟨loc_D mo_ifn,
  List.forall_mem_cons.mpr ⟨loc_D mo_ic,
  List.forall_mem_cons.mpr ⟨loc_R,
  List.forall_mem_cons.mpr ⟨loc_D mo_al,
  List.forall_mem_cons.mpr ⟨loc_D mo_gI,
  List.forall_mem_cons.mpr ⟨loc_D mo_al,
  List.forall_mem_cons.mpr ⟨loc_D mo_gI,
  List.forall_mem_cons.mpr ⟨loc_D mo_b2,
  List.forall_mem_cons.mpr ⟨loc_D mo_is,
  List.forall_mem_cons.mpr ⟨loc_D mo_il,
  List.forall_mem_cons.mpr ⟨loc_I1,
  List.forall_mem_cons.mpr ⟨loc_D mo_ic,
  List.forall_mem_cons.mpr ⟨loc_R,
  List.forall_mem_cons.mpr ⟨loc_D mo_al,
  List.forall_mem_cons.mpr ⟨loc_C sm_X6_record.1,
  List.forall_mem_cons.mpr ⟨loc_D mo_al,
  List.forall_mem_cons.mpr ⟨loc_D mo_dup,
  List.forall_mem_cons.mpr ⟨loc_D mo_gI,
  List.forall_mem_cons.mpr ⟨loc_D mo_il,
  List.forall_mem_cons.mpr ⟨loc_D mo_b2,
  List.forall_mem_cons.mpr ⟨loc_D mo_pI,
  List.forall_mem_cons.mpr ⟨loc_D mo_al,
  List.forall_mem_cons.mpr ⟨loc_D mo_dup,
  List.forall_mem_cons.mpr ⟨loc_D mo_gI,
  List.forall_mem_cons.mpr ⟨loc_D mo_il,
  List.forall_mem_cons.mpr ⟨loc_D mo_al,
  List.forall_mem_cons.mpr ⟨loc_D mo_gR,
  List.forall_mem_cons.mpr ⟨loc_D mo_gR,
  List.forall_mem_cons.mpr ⟨loc_D mo_ic,
  List.forall_mem_cons.mpr ⟨loc_D mo_iald,
  List.forall_mem_cons.mpr ⟨loc_D mo_b2,
  List.forall_mem_cons.mpr ⟨loc_D mo_b2,
  List.forall_mem_cons.mpr ⟨loc_D mo_pI,
  List.forall_mem_cons.mpr ⟨loc_D mo_il,
  List.forall_mem_cons.mpr ⟨loc_R,
  fun _ h => absurd h List.not_mem_nil⟩⟩⟩⟩⟩⟩⟩⟩⟩⟩⟩⟩⟩⟩⟩⟩⟩⟩⟩⟩⟩⟩⟩⟩⟩⟩⟩⟩⟩⟩⟩⟩⟩⟩⟩⟩⟩⟩⟩⟩⟩
set_option maxRecDepth 100000 in
theorem sm_X6_audit : SM yX6_audit cX6_audit 4 (some .int) 5 w_X6_audit := SM_of' RX6 "audit" rfl rfl (by decide) (by decide) (by decide) lo_X6_audit (List.forall_mem_cons.mpr ⟨STP.r mo_al (q_aload_n dX6_audit_0 rfl),
  List.forall_mem_cons.mpr ⟨STP.r mo_gR (q_gR ⟨by decide, by decide⟩ (by decide) rfl (by decide) kf_X6_12 dX6_audit_1),
  List.forall_mem_cons.mpr ⟨STP.r mo_il (q_iload_n dX6_audit_4 rfl),
  List.forall_mem_cons.mpr ⟨(snd_CV sm_X5_kilnAt ⟨by decide, by decide⟩ rfl km_X6_33 kt_X5_kilnAt kv_X5_kilnAt rfl ki_X5 kx_X5_kilnAt ⟨by decide, by decide, by decide +kernel⟩ (by decide) (by decide) dX6_audit_5).r,
  List.forall_mem_cons.mpr ⟨STP.r mo_as (q_astore_n dX6_audit_8 rfl),
  List.forall_mem_cons.mpr ⟨STP.r mo_al (q_aload_n dX6_audit_9 rfl),
  List.forall_mem_cons.mpr ⟨STP.r mo_ifn (q_ifnonnull dX6_audit_10 (by decide)),
  List.forall_mem_cons.mpr ⟨STP.r mo_ic (q_iconst dX6_audit_13 (by decide)),
  List.forall_mem_cons.mpr ⟨r_iret dX6_audit_14,
  List.forall_mem_cons.mpr ⟨STP.r mo_al (q_aload_n dX6_audit_15 rfl),
  List.forall_mem_cons.mpr ⟨STP.r mo_gI (q_gI ⟨by decide, by decide⟩ (by decide) rfl kf_X6_48 dX6_audit_16),
  List.forall_mem_cons.mpr ⟨STP.r mo_al (q_aload_n dX6_audit_19 rfl),
  List.forall_mem_cons.mpr ⟨STP.r mo_gI (q_gI ⟨by decide, by decide⟩ (by decide) rfl kf_X6_54 dX6_audit_20),
  List.forall_mem_cons.mpr ⟨STP.r mo_b2 (q_isub dX6_audit_23),
  List.forall_mem_cons.mpr ⟨STP.r mo_is (q_istore_n dX6_audit_24 rfl),
  List.forall_mem_cons.mpr ⟨STP.r mo_il (q_iload_n dX6_audit_25 rfl),
  List.forall_mem_cons.mpr ⟨(q_if_ne dX6_audit_26 (by decide)).r,
  List.forall_mem_cons.mpr ⟨STP.r mo_ic (q_bipush dX6_audit_29 (by decide)),
  List.forall_mem_cons.mpr ⟨r_iret dX6_audit_31,
  List.forall_mem_cons.mpr ⟨STP.r mo_al (q_aload_n dX6_audit_32 rfl),
  List.forall_mem_cons.mpr ⟨(snd_CV sm_X6_record ⟨by decide, by decide⟩ rfl km_X6_41 kt_X6_record kv_X6_record rfl ki_X6 kx_X6_record ⟨by decide, by decide, by decide +kernel⟩ (by decide) (by decide) dX6_audit_33).r,
  List.forall_mem_cons.mpr ⟨STP.r mo_al (q_aload_n dX6_audit_36 rfl),
  List.forall_mem_cons.mpr ⟨STP.r mo_dup (q_dup dX6_audit_37),
  List.forall_mem_cons.mpr ⟨STP.r mo_gI (q_gI ⟨by decide, by decide⟩ (by decide) rfl kf_X6_54 dX6_audit_38),
  List.forall_mem_cons.mpr ⟨STP.r mo_il (q_iload_n dX6_audit_41 rfl),
  List.forall_mem_cons.mpr ⟨STP.r mo_b2 (q_iadd dX6_audit_42),
  List.forall_mem_cons.mpr ⟨STP.r mo_pI (q_pI ⟨by decide, by decide⟩ (by decide) rfl rfl kf_X6_54 dX6_audit_43),
  List.forall_mem_cons.mpr ⟨STP.r mo_al (q_aload_n dX6_audit_46 rfl),
  List.forall_mem_cons.mpr ⟨STP.r mo_dup (q_dup dX6_audit_47),
  List.forall_mem_cons.mpr ⟨STP.r mo_gI (q_gI ⟨by decide, by decide⟩ (by decide) rfl kf_X6_57 dX6_audit_48),
  List.forall_mem_cons.mpr ⟨STP.r mo_il (q_iload_n dX6_audit_51 rfl),
  List.forall_mem_cons.mpr ⟨STP.r mo_al (q_aload_n dX6_audit_52 rfl),
  List.forall_mem_cons.mpr ⟨STP.r mo_gR (q_gR ⟨by decide, by decide⟩ (by decide) rfl (by decide) kf_X6_12 dX6_audit_53),
  List.forall_mem_cons.mpr ⟨STP.r mo_gR (q_gR ⟨by decide, by decide⟩ (by decide) rfl (by decide) kf_X6_60 dX6_audit_56),
  List.forall_mem_cons.mpr ⟨STP.r mo_ic (q_iconst dX6_audit_59 (by decide)),
  List.forall_mem_cons.mpr ⟨STP.r mo_iald (q_iald dX6_audit_60),
  List.forall_mem_cons.mpr ⟨STP.r mo_b2 (q_imul dX6_audit_61),
  List.forall_mem_cons.mpr ⟨STP.r mo_b2 (q_iadd dX6_audit_62),
  List.forall_mem_cons.mpr ⟨STP.r mo_pI (q_pI ⟨by decide, by decide⟩ (by decide) rfl rfl kf_X6_57 dX6_audit_63),
  List.forall_mem_cons.mpr ⟨STP.r mo_il (q_iload_n dX6_audit_66 rfl),
  List.forall_mem_cons.mpr ⟨r_iret dX6_audit_67,
  fun _ h => absurd h List.not_mem_nil⟩⟩⟩⟩⟩⟩⟩⟩⟩⟩⟩⟩⟩⟩⟩⟩⟩⟩⟩⟩⟩⟩⟩⟩⟩⟩⟩⟩⟩⟩⟩⟩⟩⟩⟩⟩⟩⟩⟩⟩⟩)
theorem e_X6_audit_0 {Q : mQ} {l1 l2 l3 : Value} {st : List Value} {g : mG} {x : Nat} : WP m_X6_audit Q 0 [.ref x, l1, l2, l3] st g = WP m_X6_audit Q 1 [.ref x, l1, l2, l3] (.ref x :: st) g := E_al (i := 0) (n := 1) lo_X6_audit rfl rfl
theorem e_X6_audit_1 {Q : mQ} {ls st : List Value} {g : mG} {a : Nat} : WP m_X6_audit Q 1 ls (.ref a :: st) g = ((gK g a = 7 ∧ gR g a 0 ≠ 0) ∧ WP m_X6_audit Q 4 ls (.ref (gR g a 0) :: st) g) := E_gR lo_X6_audit rfl
theorem e_X6_audit_4 {Q : mQ} {l0 l2 l3 : Value} {st : List Value} {g : mG} {x : Int32} : WP m_X6_audit Q 4 [l0, .int x, l2, l3] st g = WP m_X6_audit Q 5 [l0, .int x, l2, l3] (.int x :: st) g := E_il (i := 1) (n := 1) lo_X6_audit rfl rfl
theorem e_X6_audit_5 {Q : mQ} {ls st : List Value} {g : mG} {b : Nat} {a0 : Value} : WP m_X6_audit Q 5 ls (a0 :: .ref b :: st) g = (st.length ≤ 4 ∧ gK g b = 6 ∧ stbs g ls ∧ stbs g st ∧ w_X5_kilnAt [.ref b, a0] g (fun v g' => WP m_X6_audit Q 8 ls (v.toList ++ st) g')) := E_CV (ar := [a0, .ref b]) lo_X6_audit rfl rfl rfl (by decide)
theorem e_X6_audit_8 {Q : mQ} {l0 l1 l2 l3 : Value} {st : List Value} {g : mG} {x : Nat} : WP m_X6_audit Q 8 [l0, l1, l2, l3] (.ref x :: st) g = (nl1 l1 ∧ WP m_X6_audit Q 9 [l0, l1, .ref x, l3] st g) := E_as (i := 2) (n := 1) lo_X6_audit rfl (Nat.le_of_ble_eq_true rfl)
theorem e_X6_audit_8n {Q : mQ} {l0 l1 l2 l3 : Value} {st : List Value} {g : mG} : WP m_X6_audit Q 8 [l0, l1, l2, l3] (.null :: st) g = (nl1 l1 ∧ WP m_X6_audit Q 9 [l0, l1, .null, l3] st g) := E_asn (i := 2) (n := 1) lo_X6_audit rfl (Nat.le_of_ble_eq_true rfl)
theorem e_X6_audit_9 {Q : mQ} {l0 l1 l3 : Value} {st : List Value} {g : mG} {x : Nat} : WP m_X6_audit Q 9 [l0, l1, .ref x, l3] st g = WP m_X6_audit Q 10 [l0, l1, .ref x, l3] (.ref x :: st) g := E_al (i := 2) (n := 1) lo_X6_audit rfl rfl
theorem e_X6_audit_9n {Q : mQ} {l0 l1 l3 : Value} {st : List Value} {g : mG} : WP m_X6_audit Q 9 [l0, l1, .null, l3] st g = WP m_X6_audit Q 10 [l0, l1, .null, l3] (.null :: st) g := E_aln (i := 2) (n := 1) lo_X6_audit rfl rfl
theorem e_X6_audit_10 {Q : mQ} {ls st : List Value} {g : mG} {x : Nat} : WP m_X6_audit Q 10 ls (.ref x :: st) g = WP m_X6_audit Q 15 ls st g := E_nnr lo_X6_audit rfl
theorem e_X6_audit_10n {Q : mQ} {ls st : List Value} {g : mG} : WP m_X6_audit Q 10 ls (.null :: st) g = WP m_X6_audit Q 13 ls st g := E_nnn lo_X6_audit rfl
theorem e_X6_audit_13 {Q : mQ} {ls st : List Value} {g : mG} : WP m_X6_audit Q 13 ls st g = WP m_X6_audit Q 14 ls (.int ((-1)) :: st) g := E_ic (v := (-1)) (n := 1) lo_X6_audit rfl
theorem e_X6_audit_14 {Q : mQ} {ls : List Value} {g : mG} {v : Int32} : WP m_X6_audit Q 14 ls [.int v] g = Q (some (.int v)) g := E_iret lo_X6_audit rfl
theorem e_X6_audit_15 {Q : mQ} {l0 l1 l3 : Value} {st : List Value} {g : mG} {x : Nat} : WP m_X6_audit Q 15 [l0, l1, .ref x, l3] st g = WP m_X6_audit Q 16 [l0, l1, .ref x, l3] (.ref x :: st) g := E_al (i := 2) (n := 1) lo_X6_audit rfl rfl
theorem e_X6_audit_15n {Q : mQ} {l0 l1 l3 : Value} {st : List Value} {g : mG} : WP m_X6_audit Q 15 [l0, l1, .null, l3] st g = WP m_X6_audit Q 16 [l0, l1, .null, l3] (.null :: st) g := E_aln (i := 2) (n := 1) lo_X6_audit rfl rfl
theorem e_X6_audit_16 {Q : mQ} {ls st : List Value} {g : mG} {a : Nat} : WP m_X6_audit Q 16 ls (.ref a :: st) g = (gK g a = 1 ∧ WP m_X6_audit Q 19 ls (.int (gI g a 1) :: st) g) := E_gI lo_X6_audit rfl
theorem e_X6_audit_19 {Q : mQ} {l0 l1 l3 : Value} {st : List Value} {g : mG} {x : Nat} : WP m_X6_audit Q 19 [l0, l1, .ref x, l3] st g = WP m_X6_audit Q 20 [l0, l1, .ref x, l3] (.ref x :: st) g := E_al (i := 2) (n := 1) lo_X6_audit rfl rfl
theorem e_X6_audit_19n {Q : mQ} {l0 l1 l3 : Value} {st : List Value} {g : mG} : WP m_X6_audit Q 19 [l0, l1, .null, l3] st g = WP m_X6_audit Q 20 [l0, l1, .null, l3] (.null :: st) g := E_aln (i := 2) (n := 1) lo_X6_audit rfl rfl
theorem e_X6_audit_20 {Q : mQ} {ls st : List Value} {g : mG} {a : Nat} : WP m_X6_audit Q 20 ls (.ref a :: st) g = (gK g a = 1 ∧ WP m_X6_audit Q 23 ls (.int (gI g a 2) :: st) g) := E_gI lo_X6_audit rfl
theorem e_X6_audit_23 {Q : mQ} {ls st : List Value} {g : mG} {x y : Int32} : WP m_X6_audit Q 23 ls (.int y :: .int x :: st) g = WP m_X6_audit Q 24 ls (.int (x - y) :: st) g := E_b2 (f := fun x y => x - y) lo_X6_audit rfl
theorem e_X6_audit_24 {Q : mQ} {l0 l1 l2 l3 : Value} {st : List Value} {g : mG} {x : Int32} : WP m_X6_audit Q 24 [l0, l1, l2, l3] (.int x :: st) g = (nl1 l2 ∧ WP m_X6_audit Q 25 [l0, l1, l2, .int x] st g) := E_is (i := 3) (n := 1) lo_X6_audit rfl (Nat.le_of_ble_eq_true rfl)
theorem e_X6_audit_25 {Q : mQ} {l0 l1 l2 : Value} {st : List Value} {g : mG} {x : Int32} : WP m_X6_audit Q 25 [l0, l1, l2, .int x] st g = WP m_X6_audit Q 26 [l0, l1, l2, .int x] (.int x :: st) g := E_il (i := 3) (n := 1) lo_X6_audit rfl rfl
theorem e_X6_audit_26 {Q : mQ} {ls st : List Value} {g : mG} {x : Int32} : WP m_X6_audit Q 26 ls (.int x :: st) g = ((¬ x = 0 → WP m_X6_audit Q 32 ls st g) ∧ (¬ (¬ x = 0) → WP m_X6_audit Q 29 ls st g)) := E_I1 (c := fun x => ¬ x = 0) (t := 32) lo_X6_audit rfl
theorem e_X6_audit_29 {Q : mQ} {ls st : List Value} {g : mG} : WP m_X6_audit Q 29 ls st g = WP m_X6_audit Q 31 ls (.int ((-5)) :: st) g := E_ic (v := (-5)) (n := 2) lo_X6_audit rfl
theorem e_X6_audit_31 {Q : mQ} {ls : List Value} {g : mG} {v : Int32} : WP m_X6_audit Q 31 ls [.int v] g = Q (some (.int v)) g := E_iret lo_X6_audit rfl
theorem e_X6_audit_32 {Q : mQ} {l1 l2 l3 : Value} {st : List Value} {g : mG} {x : Nat} : WP m_X6_audit Q 32 [.ref x, l1, l2, l3] st g = WP m_X6_audit Q 33 [.ref x, l1, l2, l3] (.ref x :: st) g := E_al (i := 0) (n := 1) lo_X6_audit rfl rfl
theorem e_X6_audit_33 {Q : mQ} {ls st : List Value} {g : mG} {b : Nat} : WP m_X6_audit Q 33 ls (.ref b :: st) g = (st.length ≤ 4 ∧ gK g b = 7 ∧ stbs g ls ∧ stbs g st ∧ w_X6_record [.ref b] g (fun v g' => WP m_X6_audit Q 36 ls (v.toList ++ st) g')) := E_CV (ar := [.ref b]) lo_X6_audit rfl rfl rfl (by decide)
theorem e_X6_audit_36 {Q : mQ} {l0 l1 l3 : Value} {st : List Value} {g : mG} {x : Nat} : WP m_X6_audit Q 36 [l0, l1, .ref x, l3] st g = WP m_X6_audit Q 37 [l0, l1, .ref x, l3] (.ref x :: st) g := E_al (i := 2) (n := 1) lo_X6_audit rfl rfl
theorem e_X6_audit_36n {Q : mQ} {l0 l1 l3 : Value} {st : List Value} {g : mG} : WP m_X6_audit Q 36 [l0, l1, .null, l3] st g = WP m_X6_audit Q 37 [l0, l1, .null, l3] (.null :: st) g := E_aln (i := 2) (n := 1) lo_X6_audit rfl rfl
theorem e_X6_audit_37 {Q : mQ} {ls st : List Value} {g : mG} {x : Value} : WP m_X6_audit Q 37 ls (x :: st) g = (cat1 x ∧ WP m_X6_audit Q 38 ls (x :: x :: st) g) := E_dup lo_X6_audit rfl
theorem e_X6_audit_38 {Q : mQ} {ls st : List Value} {g : mG} {a : Nat} : WP m_X6_audit Q 38 ls (.ref a :: st) g = (gK g a = 1 ∧ WP m_X6_audit Q 41 ls (.int (gI g a 2) :: st) g) := E_gI lo_X6_audit rfl
theorem e_X6_audit_41 {Q : mQ} {l0 l1 l2 : Value} {st : List Value} {g : mG} {x : Int32} : WP m_X6_audit Q 41 [l0, l1, l2, .int x] st g = WP m_X6_audit Q 42 [l0, l1, l2, .int x] (.int x :: st) g := E_il (i := 3) (n := 1) lo_X6_audit rfl rfl
theorem e_X6_audit_42 {Q : mQ} {ls st : List Value} {g : mG} {x y : Int32} : WP m_X6_audit Q 42 ls (.int y :: .int x :: st) g = WP m_X6_audit Q 43 ls (.int (x + y) :: st) g := E_b2 (f := fun x y => x + y) lo_X6_audit rfl
theorem e_X6_audit_43 {Q : mQ} {ls st : List Value} {g : mG} {a : Nat} {v : Int32} : WP m_X6_audit Q 43 ls (.int v :: .ref a :: st) g = (gK g a = 1 ∧ WP m_X6_audit Q 46 ls st (pI g a 2 v)) := E_pI lo_X6_audit rfl
theorem e_X6_audit_46 {Q : mQ} {l0 l1 l3 : Value} {st : List Value} {g : mG} {x : Nat} : WP m_X6_audit Q 46 [l0, l1, .ref x, l3] st g = WP m_X6_audit Q 47 [l0, l1, .ref x, l3] (.ref x :: st) g := E_al (i := 2) (n := 1) lo_X6_audit rfl rfl
theorem e_X6_audit_46n {Q : mQ} {l0 l1 l3 : Value} {st : List Value} {g : mG} : WP m_X6_audit Q 46 [l0, l1, .null, l3] st g = WP m_X6_audit Q 47 [l0, l1, .null, l3] (.null :: st) g := E_aln (i := 2) (n := 1) lo_X6_audit rfl rfl
theorem e_X6_audit_47 {Q : mQ} {ls st : List Value} {g : mG} {x : Value} : WP m_X6_audit Q 47 ls (x :: st) g = (cat1 x ∧ WP m_X6_audit Q 48 ls (x :: x :: st) g) := E_dup lo_X6_audit rfl
theorem e_X6_audit_48 {Q : mQ} {ls st : List Value} {g : mG} {a : Nat} : WP m_X6_audit Q 48 ls (.ref a :: st) g = (gK g a = 1 ∧ WP m_X6_audit Q 51 ls (.int (gI g a 4) :: st) g) := E_gI lo_X6_audit rfl
theorem e_X6_audit_51 {Q : mQ} {l0 l1 l2 : Value} {st : List Value} {g : mG} {x : Int32} : WP m_X6_audit Q 51 [l0, l1, l2, .int x] st g = WP m_X6_audit Q 52 [l0, l1, l2, .int x] (.int x :: st) g := E_il (i := 3) (n := 1) lo_X6_audit rfl rfl
theorem e_X6_audit_52 {Q : mQ} {l1 l2 l3 : Value} {st : List Value} {g : mG} {x : Nat} : WP m_X6_audit Q 52 [.ref x, l1, l2, l3] st g = WP m_X6_audit Q 53 [.ref x, l1, l2, l3] (.ref x :: st) g := E_al (i := 0) (n := 1) lo_X6_audit rfl rfl
theorem e_X6_audit_53 {Q : mQ} {ls st : List Value} {g : mG} {a : Nat} : WP m_X6_audit Q 53 ls (.ref a :: st) g = ((gK g a = 7 ∧ gR g a 0 ≠ 0) ∧ WP m_X6_audit Q 56 ls (.ref (gR g a 0) :: st) g) := E_gR lo_X6_audit rfl
theorem e_X6_audit_56 {Q : mQ} {ls st : List Value} {g : mG} {a : Nat} : WP m_X6_audit Q 56 ls (.ref a :: st) g = ((gK g a = 6 ∧ gR g a 11 ≠ 0) ∧ WP m_X6_audit Q 59 ls (.ref (gR g a 11) :: st) g) := E_gR lo_X6_audit rfl
theorem e_X6_audit_59 {Q : mQ} {ls st : List Value} {g : mG} : WP m_X6_audit Q 59 ls st g = WP m_X6_audit Q 60 ls (.int (nI 4) :: st) g := E_ic (v := nI 4) (n := 1) lo_X6_audit rfl
theorem e_X6_audit_60 {Q : mQ} {ls st : List Value} {g : mG} {a : Nat} {i : Int32} : WP m_X6_audit Q 60 ls (.int i :: .ref a :: st) g = ((isIA g a ∧ vp_in i (gN g a)) ∧ WP m_X6_audit Q 61 ls (.int (gI g a i.toNatClampNeg) :: st) g) := E_iald lo_X6_audit rfl
theorem e_X6_audit_61 {Q : mQ} {ls st : List Value} {g : mG} {x y : Int32} : WP m_X6_audit Q 61 ls (.int y :: .int x :: st) g = WP m_X6_audit Q 62 ls (.int (x * y) :: st) g := E_b2 (f := fun x y => x * y) lo_X6_audit rfl
theorem e_X6_audit_62 {Q : mQ} {ls st : List Value} {g : mG} {x y : Int32} : WP m_X6_audit Q 62 ls (.int y :: .int x :: st) g = WP m_X6_audit Q 63 ls (.int (x + y) :: st) g := E_b2 (f := fun x y => x + y) lo_X6_audit rfl
theorem e_X6_audit_63 {Q : mQ} {ls st : List Value} {g : mG} {a : Nat} {v : Int32} : WP m_X6_audit Q 63 ls (.int v :: .ref a :: st) g = (gK g a = 1 ∧ WP m_X6_audit Q 66 ls st (pI g a 4 v)) := E_pI lo_X6_audit rfl
theorem e_X6_audit_66 {Q : mQ} {l0 l1 l2 : Value} {st : List Value} {g : mG} {x : Int32} : WP m_X6_audit Q 66 [l0, l1, l2, .int x] st g = WP m_X6_audit Q 67 [l0, l1, l2, .int x] (.int x :: st) g := E_il (i := 3) (n := 1) lo_X6_audit rfl rfl
theorem e_X6_audit_67 {Q : mQ} {ls : List Value} {g : mG} {v : Int32} : WP m_X6_audit Q 67 ls [.int v] g = Q (some (.int v)) g := E_iret lo_X6_audit rfl
/-! KilnPermits.fire(III)I -/
def m_X6_fire : List (Nat × mT) := [(0, tD (f_al 0 1)),
  (1, tD (f_gR 7 0)),
  (4, tD (f_il 1 1)),
  (5, tC w_X5_kilnAt 6 2),
  (8, tD (f_as 4 2)),
  (10, tD (f_al 4 2)),
  (12, tD (f_ifn 17 false)),
  (15, tD (f_ic ((-1)) 1)),
  (16, tR f_iret),
  (17, tD (f_il 2 1)),
  (18, tD (f_ic (nI 1) 1)),
  (19, tD (f_ic (nI 999) 3)),
  (22, tC w_X6_isWithin 0 3),
  (25, tI1 (fun x => x = 0) 37),
  (28, tD (f_il 3 1)),
  (29, tD (f_ic (nI 0) 1)),
  (30, tD (f_il 2 1)),
  (31, tC w_X6_isWithin 0 3),
  (34, tI1 (fun x => ¬ x = 0) 40),
  (37, tD (f_ic ((-2)) 2)),
  (39, tR f_iret),
  (40, tD (f_al 0 1)),
  (41, tC w_X6_record 7 1),
  (44, tD (f_al 4 2)),
  (46, tD (f_dup)),
  (47, tD (f_gI 1 1)),
  (50, tD (f_il 2 1)),
  (51, tD (f_b2 fun x y => x + y)),
  (52, tD (f_pI 1 1)),
  (55, tD (f_al 4 2)),
  (57, tD (f_dup)),
  (58, tD (f_gI 1 2)),
  (61, tD (f_il 3 1)),
  (62, tD (f_b2 fun x y => x + y)),
  (63, tD (f_pI 1 2)),
  (66, tD (f_al 4 2)),
  (68, tD (f_gI 1 2)),
  (71, tR f_iret)]
abbrev w_X6_fire : mS := wm m_X6_fire 4 1
set_option maxRecDepth 100000 in
theorem lo_X6_fire : locs_ok m_X6_fire := List.forall_mem_cons.mpr ⟨loc_D mo_al,
  List.forall_mem_cons.mpr ⟨loc_D mo_gR,
  List.forall_mem_cons.mpr ⟨loc_D mo_il,
  List.forall_mem_cons.mpr ⟨loc_C sm_X5_kilnAt.1,
  List.forall_mem_cons.mpr ⟨loc_D mo_as,
  List.forall_mem_cons.mpr ⟨loc_D mo_al,
  List.forall_mem_cons.mpr ⟨loc_D mo_ifn,
  List.forall_mem_cons.mpr ⟨loc_D mo_ic,
  List.forall_mem_cons.mpr ⟨loc_R,
  List.forall_mem_cons.mpr ⟨loc_D mo_il,
  List.forall_mem_cons.mpr ⟨loc_D mo_ic,
  List.forall_mem_cons.mpr ⟨loc_D mo_ic,
  List.forall_mem_cons.mpr ⟨loc_C sm_X6_isWithin.1,
  List.forall_mem_cons.mpr ⟨loc_I1,
  List.forall_mem_cons.mpr ⟨loc_D mo_il,
  List.forall_mem_cons.mpr ⟨loc_D mo_ic,
  List.forall_mem_cons.mpr ⟨loc_D mo_il,
  List.forall_mem_cons.mpr ⟨loc_C sm_X6_isWithin.1,
  List.forall_mem_cons.mpr ⟨loc_I1,
  List.forall_mem_cons.mpr ⟨loc_D mo_ic,
  List.forall_mem_cons.mpr ⟨loc_R,
  List.forall_mem_cons.mpr ⟨loc_D mo_al,
  List.forall_mem_cons.mpr ⟨loc_C sm_X6_record.1,
  List.forall_mem_cons.mpr ⟨loc_D mo_al,
  List.forall_mem_cons.mpr ⟨loc_D mo_dup,
  List.forall_mem_cons.mpr ⟨loc_D mo_gI,
  List.forall_mem_cons.mpr ⟨loc_D mo_il,
  List.forall_mem_cons.mpr ⟨loc_D mo_b2,
  List.forall_mem_cons.mpr ⟨loc_D mo_pI,
  List.forall_mem_cons.mpr ⟨loc_D mo_al,
  List.forall_mem_cons.mpr ⟨loc_D mo_dup,
  List.forall_mem_cons.mpr ⟨loc_D mo_gI,
  List.forall_mem_cons.mpr ⟨loc_D mo_il,
  List.forall_mem_cons.mpr ⟨loc_D mo_b2,
  List.forall_mem_cons.mpr ⟨loc_D mo_pI,
  List.forall_mem_cons.mpr ⟨loc_D mo_al,
  List.forall_mem_cons.mpr ⟨loc_D mo_gI,
  List.forall_mem_cons.mpr ⟨loc_R,
  fun _ h => absurd h List.not_mem_nil⟩⟩⟩⟩⟩⟩⟩⟩⟩⟩⟩⟩⟩⟩⟩⟩⟩⟩⟩⟩⟩⟩⟩⟩⟩⟩⟩⟩⟩⟩⟩⟩⟩⟩⟩⟩⟩⟩
set_option maxRecDepth 100000 in
theorem sm_X6_fire : SM yX6_fire cX6_fire 5 (some .int) 5 w_X6_fire := SM_of' RX6 "fire" rfl rfl (by decide) (by decide) (by decide) lo_X6_fire (List.forall_mem_cons.mpr ⟨STP.r mo_al (q_aload_n dX6_fire_0 rfl),
  List.forall_mem_cons.mpr ⟨STP.r mo_gR (q_gR ⟨by decide, by decide⟩ (by decide) rfl (by decide) kf_X6_12 dX6_fire_1),
  List.forall_mem_cons.mpr ⟨STP.r mo_il (q_iload_n dX6_fire_4 rfl),
  List.forall_mem_cons.mpr ⟨(snd_CV sm_X5_kilnAt ⟨by decide, by decide⟩ rfl km_X6_33 kt_X5_kilnAt kv_X5_kilnAt rfl ki_X5 kx_X5_kilnAt ⟨by decide, by decide, by decide +kernel⟩ (by decide) (by decide) dX6_fire_5).r,
  List.forall_mem_cons.mpr ⟨STP.r mo_as (q_astore dX6_fire_8),
  List.forall_mem_cons.mpr ⟨STP.r mo_al (q_aload dX6_fire_10),
  List.forall_mem_cons.mpr ⟨STP.r mo_ifn (q_ifnonnull dX6_fire_12 (by decide)),
  List.forall_mem_cons.mpr ⟨STP.r mo_ic (q_iconst dX6_fire_15 (by decide)),
  List.forall_mem_cons.mpr ⟨r_iret dX6_fire_16,
  List.forall_mem_cons.mpr ⟨STP.r mo_il (q_iload_n dX6_fire_17 rfl),
  List.forall_mem_cons.mpr ⟨STP.r mo_ic (q_iconst dX6_fire_18 (by decide)),
  List.forall_mem_cons.mpr ⟨STP.r mo_ic (q_sipush dX6_fire_19 (by decide)),
  List.forall_mem_cons.mpr ⟨(snd_CS sm_X6_isWithin km_X6_37 ks_X6_isWithin ki_X6 kx_X6_isWithin ⟨by decide, by decide, by decide +kernel⟩ (by decide) (by decide) dX6_fire_22).r,
  List.forall_mem_cons.mpr ⟨(q_if_eq dX6_fire_25 (by decide)).r,
  List.forall_mem_cons.mpr ⟨STP.r mo_il (q_iload_n dX6_fire_28 rfl),
  List.forall_mem_cons.mpr ⟨STP.r mo_ic (q_iconst dX6_fire_29 (by decide)),
  List.forall_mem_cons.mpr ⟨STP.r mo_il (q_iload_n dX6_fire_30 rfl),
  List.forall_mem_cons.mpr ⟨(snd_CS sm_X6_isWithin km_X6_37 ks_X6_isWithin ki_X6 kx_X6_isWithin ⟨by decide, by decide, by decide +kernel⟩ (by decide) (by decide) dX6_fire_31).r,
  List.forall_mem_cons.mpr ⟨(q_if_ne dX6_fire_34 (by decide)).r,
  List.forall_mem_cons.mpr ⟨STP.r mo_ic (q_bipush dX6_fire_37 (by decide)),
  List.forall_mem_cons.mpr ⟨r_iret dX6_fire_39,
  List.forall_mem_cons.mpr ⟨STP.r mo_al (q_aload_n dX6_fire_40 rfl),
  List.forall_mem_cons.mpr ⟨(snd_CV sm_X6_record ⟨by decide, by decide⟩ rfl km_X6_41 kt_X6_record kv_X6_record rfl ki_X6 kx_X6_record ⟨by decide, by decide, by decide +kernel⟩ (by decide) (by decide) dX6_fire_41).r,
  List.forall_mem_cons.mpr ⟨STP.r mo_al (q_aload dX6_fire_44),
  List.forall_mem_cons.mpr ⟨STP.r mo_dup (q_dup dX6_fire_46),
  List.forall_mem_cons.mpr ⟨STP.r mo_gI (q_gI ⟨by decide, by decide⟩ (by decide) rfl kf_X6_48 dX6_fire_47),
  List.forall_mem_cons.mpr ⟨STP.r mo_il (q_iload_n dX6_fire_50 rfl),
  List.forall_mem_cons.mpr ⟨STP.r mo_b2 (q_iadd dX6_fire_51),
  List.forall_mem_cons.mpr ⟨STP.r mo_pI (q_pI ⟨by decide, by decide⟩ (by decide) rfl rfl kf_X6_48 dX6_fire_52),
  List.forall_mem_cons.mpr ⟨STP.r mo_al (q_aload dX6_fire_55),
  List.forall_mem_cons.mpr ⟨STP.r mo_dup (q_dup dX6_fire_57),
  List.forall_mem_cons.mpr ⟨STP.r mo_gI (q_gI ⟨by decide, by decide⟩ (by decide) rfl kf_X6_54 dX6_fire_58),
  List.forall_mem_cons.mpr ⟨STP.r mo_il (q_iload_n dX6_fire_61 rfl),
  List.forall_mem_cons.mpr ⟨STP.r mo_b2 (q_iadd dX6_fire_62),
  List.forall_mem_cons.mpr ⟨STP.r mo_pI (q_pI ⟨by decide, by decide⟩ (by decide) rfl rfl kf_X6_54 dX6_fire_63),
  List.forall_mem_cons.mpr ⟨STP.r mo_al (q_aload dX6_fire_66),
  List.forall_mem_cons.mpr ⟨STP.r mo_gI (q_gI ⟨by decide, by decide⟩ (by decide) rfl kf_X6_54 dX6_fire_68),
  List.forall_mem_cons.mpr ⟨r_iret dX6_fire_71,
  fun _ h => absurd h List.not_mem_nil⟩⟩⟩⟩⟩⟩⟩⟩⟩⟩⟩⟩⟩⟩⟩⟩⟩⟩⟩⟩⟩⟩⟩⟩⟩⟩⟩⟩⟩⟩⟩⟩⟩⟩⟩⟩⟩⟩)
theorem e_X6_fire_0 {Q : mQ} {l1 l2 l3 l4 : Value} {st : List Value} {g : mG} {x : Nat} : WP m_X6_fire Q 0 [.ref x, l1, l2, l3, l4] st g = WP m_X6_fire Q 1 [.ref x, l1, l2, l3, l4] (.ref x :: st) g := E_al (i := 0) (n := 1) lo_X6_fire rfl rfl
theorem e_X6_fire_1 {Q : mQ} {ls st : List Value} {g : mG} {a : Nat} : WP m_X6_fire Q 1 ls (.ref a :: st) g = ((gK g a = 7 ∧ gR g a 0 ≠ 0) ∧ WP m_X6_fire Q 4 ls (.ref (gR g a 0) :: st) g) := E_gR lo_X6_fire rfl
theorem e_X6_fire_4 {Q : mQ} {l0 l2 l3 l4 : Value} {st : List Value} {g : mG} {x : Int32} : WP m_X6_fire Q 4 [l0, .int x, l2, l3, l4] st g = WP m_X6_fire Q 5 [l0, .int x, l2, l3, l4] (.int x :: st) g := E_il (i := 1) (n := 1) lo_X6_fire rfl rfl
theorem e_X6_fire_5 {Q : mQ} {ls st : List Value} {g : mG} {b : Nat} {a0 : Value} : WP m_X6_fire Q 5 ls (a0 :: .ref b :: st) g = (st.length ≤ 4 ∧ gK g b = 6 ∧ stbs g ls ∧ stbs g st ∧ w_X5_kilnAt [.ref b, a0] g (fun v g' => WP m_X6_fire Q 8 ls (v.toList ++ st) g')) := E_CV (ar := [a0, .ref b]) lo_X6_fire rfl rfl rfl (by decide)
theorem e_X6_fire_8 {Q : mQ} {l0 l1 l2 l3 l4 : Value} {st : List Value} {g : mG} {x : Nat} : WP m_X6_fire Q 8 [l0, l1, l2, l3, l4] (.ref x :: st) g = (nl1 l3 ∧ WP m_X6_fire Q 10 [l0, l1, l2, l3, .ref x] st g) := E_as (i := 4) (n := 2) lo_X6_fire rfl (Nat.le_of_ble_eq_true rfl)
theorem e_X6_fire_8n {Q : mQ} {l0 l1 l2 l3 l4 : Value} {st : List Value} {g : mG} : WP m_X6_fire Q 8 [l0, l1, l2, l3, l4] (.null :: st) g = (nl1 l3 ∧ WP m_X6_fire Q 10 [l0, l1, l2, l3, .null] st g) := E_asn (i := 4) (n := 2) lo_X6_fire rfl (Nat.le_of_ble_eq_true rfl)
theorem e_X6_fire_10 {Q : mQ} {l0 l1 l2 l3 : Value} {st : List Value} {g : mG} {x : Nat} : WP m_X6_fire Q 10 [l0, l1, l2, l3, .ref x] st g = WP m_X6_fire Q 12 [l0, l1, l2, l3, .ref x] (.ref x :: st) g := E_al (i := 4) (n := 2) lo_X6_fire rfl rfl
theorem e_X6_fire_10n {Q : mQ} {l0 l1 l2 l3 : Value} {st : List Value} {g : mG} : WP m_X6_fire Q 10 [l0, l1, l2, l3, .null] st g = WP m_X6_fire Q 12 [l0, l1, l2, l3, .null] (.null :: st) g := E_aln (i := 4) (n := 2) lo_X6_fire rfl rfl
theorem e_X6_fire_12 {Q : mQ} {ls st : List Value} {g : mG} {x : Nat} : WP m_X6_fire Q 12 ls (.ref x :: st) g = WP m_X6_fire Q 17 ls st g := E_nnr lo_X6_fire rfl
theorem e_X6_fire_12n {Q : mQ} {ls st : List Value} {g : mG} : WP m_X6_fire Q 12 ls (.null :: st) g = WP m_X6_fire Q 15 ls st g := E_nnn lo_X6_fire rfl
theorem e_X6_fire_15 {Q : mQ} {ls st : List Value} {g : mG} : WP m_X6_fire Q 15 ls st g = WP m_X6_fire Q 16 ls (.int ((-1)) :: st) g := E_ic (v := (-1)) (n := 1) lo_X6_fire rfl
theorem e_X6_fire_16 {Q : mQ} {ls : List Value} {g : mG} {v : Int32} : WP m_X6_fire Q 16 ls [.int v] g = Q (some (.int v)) g := E_iret lo_X6_fire rfl
theorem e_X6_fire_17 {Q : mQ} {l0 l1 l3 l4 : Value} {st : List Value} {g : mG} {x : Int32} : WP m_X6_fire Q 17 [l0, l1, .int x, l3, l4] st g = WP m_X6_fire Q 18 [l0, l1, .int x, l3, l4] (.int x :: st) g := E_il (i := 2) (n := 1) lo_X6_fire rfl rfl
theorem e_X6_fire_18 {Q : mQ} {ls st : List Value} {g : mG} : WP m_X6_fire Q 18 ls st g = WP m_X6_fire Q 19 ls (.int (nI 1) :: st) g := E_ic (v := nI 1) (n := 1) lo_X6_fire rfl
theorem e_X6_fire_19 {Q : mQ} {ls st : List Value} {g : mG} : WP m_X6_fire Q 19 ls st g = WP m_X6_fire Q 22 ls (.int (nI 999) :: st) g := E_ic (v := nI 999) (n := 3) lo_X6_fire rfl
theorem e_X6_fire_22 {Q : mQ} {ls st : List Value} {g : mG} {a0 a1 a2 : Value} : WP m_X6_fire Q 22 ls (a2 :: a1 :: a0 :: st) g = (st.length ≤ 4 ∧ stbs g ls ∧ stbs g st ∧ w_X6_isWithin [a0, a1, a2] g (fun v g' => WP m_X6_fire Q 25 ls (v.toList ++ st) g')) := E_CS (ar := [a2, a1, a0]) lo_X6_fire rfl rfl rfl
theorem e_X6_fire_25 {Q : mQ} {ls st : List Value} {g : mG} {x : Int32} : WP m_X6_fire Q 25 ls (.int x :: st) g = ((x = 0 → WP m_X6_fire Q 37 ls st g) ∧ (¬ (x = 0) → WP m_X6_fire Q 28 ls st g)) := E_I1 (c := fun x => x = 0) (t := 37) lo_X6_fire rfl
theorem e_X6_fire_28 {Q : mQ} {l0 l1 l2 l4 : Value} {st : List Value} {g : mG} {x : Int32} : WP m_X6_fire Q 28 [l0, l1, l2, .int x, l4] st g = WP m_X6_fire Q 29 [l0, l1, l2, .int x, l4] (.int x :: st) g := E_il (i := 3) (n := 1) lo_X6_fire rfl rfl
theorem e_X6_fire_29 {Q : mQ} {ls st : List Value} {g : mG} : WP m_X6_fire Q 29 ls st g = WP m_X6_fire Q 30 ls (.int (nI 0) :: st) g := E_ic (v := nI 0) (n := 1) lo_X6_fire rfl
theorem e_X6_fire_30 {Q : mQ} {l0 l1 l3 l4 : Value} {st : List Value} {g : mG} {x : Int32} : WP m_X6_fire Q 30 [l0, l1, .int x, l3, l4] st g = WP m_X6_fire Q 31 [l0, l1, .int x, l3, l4] (.int x :: st) g := E_il (i := 2) (n := 1) lo_X6_fire rfl rfl
theorem e_X6_fire_31 {Q : mQ} {ls st : List Value} {g : mG} {a0 a1 a2 : Value} : WP m_X6_fire Q 31 ls (a2 :: a1 :: a0 :: st) g = (st.length ≤ 4 ∧ stbs g ls ∧ stbs g st ∧ w_X6_isWithin [a0, a1, a2] g (fun v g' => WP m_X6_fire Q 34 ls (v.toList ++ st) g')) := E_CS (ar := [a2, a1, a0]) lo_X6_fire rfl rfl rfl
theorem e_X6_fire_34 {Q : mQ} {ls st : List Value} {g : mG} {x : Int32} : WP m_X6_fire Q 34 ls (.int x :: st) g = ((¬ x = 0 → WP m_X6_fire Q 40 ls st g) ∧ (¬ (¬ x = 0) → WP m_X6_fire Q 37 ls st g)) := E_I1 (c := fun x => ¬ x = 0) (t := 40) lo_X6_fire rfl
theorem e_X6_fire_37 {Q : mQ} {ls st : List Value} {g : mG} : WP m_X6_fire Q 37 ls st g = WP m_X6_fire Q 39 ls (.int ((-2)) :: st) g := E_ic (v := (-2)) (n := 2) lo_X6_fire rfl
theorem e_X6_fire_39 {Q : mQ} {ls : List Value} {g : mG} {v : Int32} : WP m_X6_fire Q 39 ls [.int v] g = Q (some (.int v)) g := E_iret lo_X6_fire rfl
theorem e_X6_fire_40 {Q : mQ} {l1 l2 l3 l4 : Value} {st : List Value} {g : mG} {x : Nat} : WP m_X6_fire Q 40 [.ref x, l1, l2, l3, l4] st g = WP m_X6_fire Q 41 [.ref x, l1, l2, l3, l4] (.ref x :: st) g := E_al (i := 0) (n := 1) lo_X6_fire rfl rfl
theorem e_X6_fire_41 {Q : mQ} {ls st : List Value} {g : mG} {b : Nat} : WP m_X6_fire Q 41 ls (.ref b :: st) g = (st.length ≤ 4 ∧ gK g b = 7 ∧ stbs g ls ∧ stbs g st ∧ w_X6_record [.ref b] g (fun v g' => WP m_X6_fire Q 44 ls (v.toList ++ st) g')) := E_CV (ar := [.ref b]) lo_X6_fire rfl rfl rfl (by decide)
theorem e_X6_fire_44 {Q : mQ} {l0 l1 l2 l3 : Value} {st : List Value} {g : mG} {x : Nat} : WP m_X6_fire Q 44 [l0, l1, l2, l3, .ref x] st g = WP m_X6_fire Q 46 [l0, l1, l2, l3, .ref x] (.ref x :: st) g := E_al (i := 4) (n := 2) lo_X6_fire rfl rfl
theorem e_X6_fire_44n {Q : mQ} {l0 l1 l2 l3 : Value} {st : List Value} {g : mG} : WP m_X6_fire Q 44 [l0, l1, l2, l3, .null] st g = WP m_X6_fire Q 46 [l0, l1, l2, l3, .null] (.null :: st) g := E_aln (i := 4) (n := 2) lo_X6_fire rfl rfl
theorem e_X6_fire_46 {Q : mQ} {ls st : List Value} {g : mG} {x : Value} : WP m_X6_fire Q 46 ls (x :: st) g = (cat1 x ∧ WP m_X6_fire Q 47 ls (x :: x :: st) g) := E_dup lo_X6_fire rfl
theorem e_X6_fire_47 {Q : mQ} {ls st : List Value} {g : mG} {a : Nat} : WP m_X6_fire Q 47 ls (.ref a :: st) g = (gK g a = 1 ∧ WP m_X6_fire Q 50 ls (.int (gI g a 1) :: st) g) := E_gI lo_X6_fire rfl
theorem e_X6_fire_50 {Q : mQ} {l0 l1 l3 l4 : Value} {st : List Value} {g : mG} {x : Int32} : WP m_X6_fire Q 50 [l0, l1, .int x, l3, l4] st g = WP m_X6_fire Q 51 [l0, l1, .int x, l3, l4] (.int x :: st) g := E_il (i := 2) (n := 1) lo_X6_fire rfl rfl
theorem e_X6_fire_51 {Q : mQ} {ls st : List Value} {g : mG} {x y : Int32} : WP m_X6_fire Q 51 ls (.int y :: .int x :: st) g = WP m_X6_fire Q 52 ls (.int (x + y) :: st) g := E_b2 (f := fun x y => x + y) lo_X6_fire rfl
theorem e_X6_fire_52 {Q : mQ} {ls st : List Value} {g : mG} {a : Nat} {v : Int32} : WP m_X6_fire Q 52 ls (.int v :: .ref a :: st) g = (gK g a = 1 ∧ WP m_X6_fire Q 55 ls st (pI g a 1 v)) := E_pI lo_X6_fire rfl
theorem e_X6_fire_55 {Q : mQ} {l0 l1 l2 l3 : Value} {st : List Value} {g : mG} {x : Nat} : WP m_X6_fire Q 55 [l0, l1, l2, l3, .ref x] st g = WP m_X6_fire Q 57 [l0, l1, l2, l3, .ref x] (.ref x :: st) g := E_al (i := 4) (n := 2) lo_X6_fire rfl rfl
theorem e_X6_fire_55n {Q : mQ} {l0 l1 l2 l3 : Value} {st : List Value} {g : mG} : WP m_X6_fire Q 55 [l0, l1, l2, l3, .null] st g = WP m_X6_fire Q 57 [l0, l1, l2, l3, .null] (.null :: st) g := E_aln (i := 4) (n := 2) lo_X6_fire rfl rfl
theorem e_X6_fire_57 {Q : mQ} {ls st : List Value} {g : mG} {x : Value} : WP m_X6_fire Q 57 ls (x :: st) g = (cat1 x ∧ WP m_X6_fire Q 58 ls (x :: x :: st) g) := E_dup lo_X6_fire rfl
theorem e_X6_fire_58 {Q : mQ} {ls st : List Value} {g : mG} {a : Nat} : WP m_X6_fire Q 58 ls (.ref a :: st) g = (gK g a = 1 ∧ WP m_X6_fire Q 61 ls (.int (gI g a 2) :: st) g) := E_gI lo_X6_fire rfl
theorem e_X6_fire_61 {Q : mQ} {l0 l1 l2 l4 : Value} {st : List Value} {g : mG} {x : Int32} : WP m_X6_fire Q 61 [l0, l1, l2, .int x, l4] st g = WP m_X6_fire Q 62 [l0, l1, l2, .int x, l4] (.int x :: st) g := E_il (i := 3) (n := 1) lo_X6_fire rfl rfl
theorem e_X6_fire_62 {Q : mQ} {ls st : List Value} {g : mG} {x y : Int32} : WP m_X6_fire Q 62 ls (.int y :: .int x :: st) g = WP m_X6_fire Q 63 ls (.int (x + y) :: st) g := E_b2 (f := fun x y => x + y) lo_X6_fire rfl
theorem e_X6_fire_63 {Q : mQ} {ls st : List Value} {g : mG} {a : Nat} {v : Int32} : WP m_X6_fire Q 63 ls (.int v :: .ref a :: st) g = (gK g a = 1 ∧ WP m_X6_fire Q 66 ls st (pI g a 2 v)) := E_pI lo_X6_fire rfl
theorem e_X6_fire_66 {Q : mQ} {l0 l1 l2 l3 : Value} {st : List Value} {g : mG} {x : Nat} : WP m_X6_fire Q 66 [l0, l1, l2, l3, .ref x] st g = WP m_X6_fire Q 68 [l0, l1, l2, l3, .ref x] (.ref x :: st) g := E_al (i := 4) (n := 2) lo_X6_fire rfl rfl
theorem e_X6_fire_66n {Q : mQ} {l0 l1 l2 l3 : Value} {st : List Value} {g : mG} : WP m_X6_fire Q 66 [l0, l1, l2, l3, .null] st g = WP m_X6_fire Q 68 [l0, l1, l2, l3, .null] (.null :: st) g := E_aln (i := 4) (n := 2) lo_X6_fire rfl rfl
theorem e_X6_fire_68 {Q : mQ} {ls st : List Value} {g : mG} {a : Nat} : WP m_X6_fire Q 68 ls (.ref a :: st) g = (gK g a = 1 ∧ WP m_X6_fire Q 71 ls (.int (gI g a 2) :: st) g) := E_gI lo_X6_fire rfl
theorem e_X6_fire_71 {Q : mQ} {ls : List Value} {g : mG} {v : Int32} : WP m_X6_fire Q 71 ls [.int v] g = Q (some (.int v)) g := E_iret lo_X6_fire rfl
/-! KilnPermits.issue(II)I -/
def m_X6_issue : List (Nat × mT) := [(0, tD (f_al 0 1)),
  (1, tD (f_gR 7 0)),
  (4, tD (f_il 1 1)),
  (5, tC w_X5_kilnAt 6 2),
  (8, tD (f_as 3 1)),
  (9, tD (f_al 3 1)),
  (10, tD (f_ifn 15 false)),
  (13, tD (f_ic ((-1)) 1)),
  (14, tR f_iret),
  (15, tD (f_il 2 1)),
  (16, tD (f_ic (nI 1) 1)),
  (17, tD (f_ic (nI 999) 3)),
  (20, tC w_X6_isWithin 0 3),
  (23, tI1 (fun x => ¬ x = 0) 29),
  (26, tD (f_ic ((-2)) 2)),
  (28, tR f_iret),
  (29, tD (f_al 0 1)),
  (30, tC w_X6_record 7 1),
  (33, tD (f_al 0 1)),
  (34, tD (f_gR 7 0)),
  (37, tD (f_al 3 1)),
  (38, tD (f_il 2 1)),
  (39, tC w_X5_issueTo 6 3),
  (42, tR f_iret)]
abbrev w_X6_issue : mS := wm m_X6_issue 3 1
set_option maxRecDepth 100000 in
theorem lo_X6_issue : locs_ok m_X6_issue := List.forall_mem_cons.mpr ⟨loc_D mo_al,
  List.forall_mem_cons.mpr ⟨loc_D mo_gR,
  List.forall_mem_cons.mpr ⟨loc_D mo_il,
  List.forall_mem_cons.mpr ⟨loc_C sm_X5_kilnAt.1,
  List.forall_mem_cons.mpr ⟨loc_D mo_as,
  List.forall_mem_cons.mpr ⟨loc_D mo_al,
  List.forall_mem_cons.mpr ⟨loc_D mo_ifn,
  List.forall_mem_cons.mpr ⟨loc_D mo_ic,
  List.forall_mem_cons.mpr ⟨loc_R,
  List.forall_mem_cons.mpr ⟨loc_D mo_il,
  List.forall_mem_cons.mpr ⟨loc_D mo_ic,
  List.forall_mem_cons.mpr ⟨loc_D mo_ic,
  List.forall_mem_cons.mpr ⟨loc_C sm_X6_isWithin.1,
  List.forall_mem_cons.mpr ⟨loc_I1,
  List.forall_mem_cons.mpr ⟨loc_D mo_ic,
  List.forall_mem_cons.mpr ⟨loc_R,
  List.forall_mem_cons.mpr ⟨loc_D mo_al,
  List.forall_mem_cons.mpr ⟨loc_C sm_X6_record.1,
  List.forall_mem_cons.mpr ⟨loc_D mo_al,
  List.forall_mem_cons.mpr ⟨loc_D mo_gR,
  List.forall_mem_cons.mpr ⟨loc_D mo_al,
  List.forall_mem_cons.mpr ⟨loc_D mo_il,
  List.forall_mem_cons.mpr ⟨loc_C sm_X5_issueTo.1,
  List.forall_mem_cons.mpr ⟨loc_R,
  fun _ h => absurd h List.not_mem_nil⟩⟩⟩⟩⟩⟩⟩⟩⟩⟩⟩⟩⟩⟩⟩⟩⟩⟩⟩⟩⟩⟩⟩⟩
set_option maxRecDepth 100000 in
theorem sm_X6_issue : SM yX6_issue cX6_issue 4 (some .int) 5 w_X6_issue := SM_of' RX6 "issue" rfl rfl (by decide) (by decide) (by decide) lo_X6_issue (List.forall_mem_cons.mpr ⟨STP.r mo_al (q_aload_n dX6_issue_0 rfl),
  List.forall_mem_cons.mpr ⟨STP.r mo_gR (q_gR ⟨by decide, by decide⟩ (by decide) rfl (by decide) kf_X6_12 dX6_issue_1),
  List.forall_mem_cons.mpr ⟨STP.r mo_il (q_iload_n dX6_issue_4 rfl),
  List.forall_mem_cons.mpr ⟨(snd_CV sm_X5_kilnAt ⟨by decide, by decide⟩ rfl km_X6_33 kt_X5_kilnAt kv_X5_kilnAt rfl ki_X5 kx_X5_kilnAt ⟨by decide, by decide, by decide +kernel⟩ (by decide) (by decide) dX6_issue_5).r,
  List.forall_mem_cons.mpr ⟨STP.r mo_as (q_astore_n dX6_issue_8 rfl),
  List.forall_mem_cons.mpr ⟨STP.r mo_al (q_aload_n dX6_issue_9 rfl),
  List.forall_mem_cons.mpr ⟨STP.r mo_ifn (q_ifnonnull dX6_issue_10 (by decide)),
  List.forall_mem_cons.mpr ⟨STP.r mo_ic (q_iconst dX6_issue_13 (by decide)),
  List.forall_mem_cons.mpr ⟨r_iret dX6_issue_14,
  List.forall_mem_cons.mpr ⟨STP.r mo_il (q_iload_n dX6_issue_15 rfl),
  List.forall_mem_cons.mpr ⟨STP.r mo_ic (q_iconst dX6_issue_16 (by decide)),
  List.forall_mem_cons.mpr ⟨STP.r mo_ic (q_sipush dX6_issue_17 (by decide)),
  List.forall_mem_cons.mpr ⟨(snd_CS sm_X6_isWithin km_X6_37 ks_X6_isWithin ki_X6 kx_X6_isWithin ⟨by decide, by decide, by decide +kernel⟩ (by decide) (by decide) dX6_issue_20).r,
  List.forall_mem_cons.mpr ⟨(q_if_ne dX6_issue_23 (by decide)).r,
  List.forall_mem_cons.mpr ⟨STP.r mo_ic (q_bipush dX6_issue_26 (by decide)),
  List.forall_mem_cons.mpr ⟨r_iret dX6_issue_28,
  List.forall_mem_cons.mpr ⟨STP.r mo_al (q_aload_n dX6_issue_29 rfl),
  List.forall_mem_cons.mpr ⟨(snd_CV sm_X6_record ⟨by decide, by decide⟩ rfl km_X6_41 kt_X6_record kv_X6_record rfl ki_X6 kx_X6_record ⟨by decide, by decide, by decide +kernel⟩ (by decide) (by decide) dX6_issue_30).r,
  List.forall_mem_cons.mpr ⟨STP.r mo_al (q_aload_n dX6_issue_33 rfl),
  List.forall_mem_cons.mpr ⟨STP.r mo_gR (q_gR ⟨by decide, by decide⟩ (by decide) rfl (by decide) kf_X6_12 dX6_issue_34),
  List.forall_mem_cons.mpr ⟨STP.r mo_al (q_aload_n dX6_issue_37 rfl),
  List.forall_mem_cons.mpr ⟨STP.r mo_il (q_iload_n dX6_issue_38 rfl),
  List.forall_mem_cons.mpr ⟨(snd_CV sm_X5_issueTo ⟨by decide, by decide⟩ rfl km_X6_44 kt_X5_issueTo kv_X5_issueTo rfl ki_X5 kx_X5_issueTo ⟨by decide, by decide, by decide +kernel⟩ (by decide) (by decide) dX6_issue_39).r,
  List.forall_mem_cons.mpr ⟨r_iret dX6_issue_42,
  fun _ h => absurd h List.not_mem_nil⟩⟩⟩⟩⟩⟩⟩⟩⟩⟩⟩⟩⟩⟩⟩⟩⟩⟩⟩⟩⟩⟩⟩⟩)
theorem e_X6_issue_0 {Q : mQ} {l1 l2 l3 : Value} {st : List Value} {g : mG} {x : Nat} : WP m_X6_issue Q 0 [.ref x, l1, l2, l3] st g = WP m_X6_issue Q 1 [.ref x, l1, l2, l3] (.ref x :: st) g := E_al (i := 0) (n := 1) lo_X6_issue rfl rfl
theorem e_X6_issue_1 {Q : mQ} {ls st : List Value} {g : mG} {a : Nat} : WP m_X6_issue Q 1 ls (.ref a :: st) g = ((gK g a = 7 ∧ gR g a 0 ≠ 0) ∧ WP m_X6_issue Q 4 ls (.ref (gR g a 0) :: st) g) := E_gR lo_X6_issue rfl
theorem e_X6_issue_4 {Q : mQ} {l0 l2 l3 : Value} {st : List Value} {g : mG} {x : Int32} : WP m_X6_issue Q 4 [l0, .int x, l2, l3] st g = WP m_X6_issue Q 5 [l0, .int x, l2, l3] (.int x :: st) g := E_il (i := 1) (n := 1) lo_X6_issue rfl rfl
theorem e_X6_issue_5 {Q : mQ} {ls st : List Value} {g : mG} {b : Nat} {a0 : Value} : WP m_X6_issue Q 5 ls (a0 :: .ref b :: st) g = (st.length ≤ 4 ∧ gK g b = 6 ∧ stbs g ls ∧ stbs g st ∧ w_X5_kilnAt [.ref b, a0] g (fun v g' => WP m_X6_issue Q 8 ls (v.toList ++ st) g')) := E_CV (ar := [a0, .ref b]) lo_X6_issue rfl rfl rfl (by decide)
theorem e_X6_issue_8 {Q : mQ} {l0 l1 l2 l3 : Value} {st : List Value} {g : mG} {x : Nat} : WP m_X6_issue Q 8 [l0, l1, l2, l3] (.ref x :: st) g = (nl1 l2 ∧ WP m_X6_issue Q 9 [l0, l1, l2, .ref x] st g) := E_as (i := 3) (n := 1) lo_X6_issue rfl (Nat.le_of_ble_eq_true rfl)
theorem e_X6_issue_8n {Q : mQ} {l0 l1 l2 l3 : Value} {st : List Value} {g : mG} : WP m_X6_issue Q 8 [l0, l1, l2, l3] (.null :: st) g = (nl1 l2 ∧ WP m_X6_issue Q 9 [l0, l1, l2, .null] st g) := E_asn (i := 3) (n := 1) lo_X6_issue rfl (Nat.le_of_ble_eq_true rfl)
theorem e_X6_issue_9 {Q : mQ} {l0 l1 l2 : Value} {st : List Value} {g : mG} {x : Nat} : WP m_X6_issue Q 9 [l0, l1, l2, .ref x] st g = WP m_X6_issue Q 10 [l0, l1, l2, .ref x] (.ref x :: st) g := E_al (i := 3) (n := 1) lo_X6_issue rfl rfl
theorem e_X6_issue_9n {Q : mQ} {l0 l1 l2 : Value} {st : List Value} {g : mG} : WP m_X6_issue Q 9 [l0, l1, l2, .null] st g = WP m_X6_issue Q 10 [l0, l1, l2, .null] (.null :: st) g := E_aln (i := 3) (n := 1) lo_X6_issue rfl rfl
theorem e_X6_issue_10 {Q : mQ} {ls st : List Value} {g : mG} {x : Nat} : WP m_X6_issue Q 10 ls (.ref x :: st) g = WP m_X6_issue Q 15 ls st g := E_nnr lo_X6_issue rfl
theorem e_X6_issue_10n {Q : mQ} {ls st : List Value} {g : mG} : WP m_X6_issue Q 10 ls (.null :: st) g = WP m_X6_issue Q 13 ls st g := E_nnn lo_X6_issue rfl
theorem e_X6_issue_13 {Q : mQ} {ls st : List Value} {g : mG} : WP m_X6_issue Q 13 ls st g = WP m_X6_issue Q 14 ls (.int ((-1)) :: st) g := E_ic (v := (-1)) (n := 1) lo_X6_issue rfl
theorem e_X6_issue_14 {Q : mQ} {ls : List Value} {g : mG} {v : Int32} : WP m_X6_issue Q 14 ls [.int v] g = Q (some (.int v)) g := E_iret lo_X6_issue rfl
theorem e_X6_issue_15 {Q : mQ} {l0 l1 l3 : Value} {st : List Value} {g : mG} {x : Int32} : WP m_X6_issue Q 15 [l0, l1, .int x, l3] st g = WP m_X6_issue Q 16 [l0, l1, .int x, l3] (.int x :: st) g := E_il (i := 2) (n := 1) lo_X6_issue rfl rfl
theorem e_X6_issue_16 {Q : mQ} {ls st : List Value} {g : mG} : WP m_X6_issue Q 16 ls st g = WP m_X6_issue Q 17 ls (.int (nI 1) :: st) g := E_ic (v := nI 1) (n := 1) lo_X6_issue rfl
theorem e_X6_issue_17 {Q : mQ} {ls st : List Value} {g : mG} : WP m_X6_issue Q 17 ls st g = WP m_X6_issue Q 20 ls (.int (nI 999) :: st) g := E_ic (v := nI 999) (n := 3) lo_X6_issue rfl
theorem e_X6_issue_20 {Q : mQ} {ls st : List Value} {g : mG} {a0 a1 a2 : Value} : WP m_X6_issue Q 20 ls (a2 :: a1 :: a0 :: st) g = (st.length ≤ 4 ∧ stbs g ls ∧ stbs g st ∧ w_X6_isWithin [a0, a1, a2] g (fun v g' => WP m_X6_issue Q 23 ls (v.toList ++ st) g')) := E_CS (ar := [a2, a1, a0]) lo_X6_issue rfl rfl rfl
theorem e_X6_issue_23 {Q : mQ} {ls st : List Value} {g : mG} {x : Int32} : WP m_X6_issue Q 23 ls (.int x :: st) g = ((¬ x = 0 → WP m_X6_issue Q 29 ls st g) ∧ (¬ (¬ x = 0) → WP m_X6_issue Q 26 ls st g)) := E_I1 (c := fun x => ¬ x = 0) (t := 29) lo_X6_issue rfl
theorem e_X6_issue_26 {Q : mQ} {ls st : List Value} {g : mG} : WP m_X6_issue Q 26 ls st g = WP m_X6_issue Q 28 ls (.int ((-2)) :: st) g := E_ic (v := (-2)) (n := 2) lo_X6_issue rfl
theorem e_X6_issue_28 {Q : mQ} {ls : List Value} {g : mG} {v : Int32} : WP m_X6_issue Q 28 ls [.int v] g = Q (some (.int v)) g := E_iret lo_X6_issue rfl
theorem e_X6_issue_29 {Q : mQ} {l1 l2 l3 : Value} {st : List Value} {g : mG} {x : Nat} : WP m_X6_issue Q 29 [.ref x, l1, l2, l3] st g = WP m_X6_issue Q 30 [.ref x, l1, l2, l3] (.ref x :: st) g := E_al (i := 0) (n := 1) lo_X6_issue rfl rfl
theorem e_X6_issue_30 {Q : mQ} {ls st : List Value} {g : mG} {b : Nat} : WP m_X6_issue Q 30 ls (.ref b :: st) g = (st.length ≤ 4 ∧ gK g b = 7 ∧ stbs g ls ∧ stbs g st ∧ w_X6_record [.ref b] g (fun v g' => WP m_X6_issue Q 33 ls (v.toList ++ st) g')) := E_CV (ar := [.ref b]) lo_X6_issue rfl rfl rfl (by decide)
theorem e_X6_issue_33 {Q : mQ} {l1 l2 l3 : Value} {st : List Value} {g : mG} {x : Nat} : WP m_X6_issue Q 33 [.ref x, l1, l2, l3] st g = WP m_X6_issue Q 34 [.ref x, l1, l2, l3] (.ref x :: st) g := E_al (i := 0) (n := 1) lo_X6_issue rfl rfl
theorem e_X6_issue_34 {Q : mQ} {ls st : List Value} {g : mG} {a : Nat} : WP m_X6_issue Q 34 ls (.ref a :: st) g = ((gK g a = 7 ∧ gR g a 0 ≠ 0) ∧ WP m_X6_issue Q 37 ls (.ref (gR g a 0) :: st) g) := E_gR lo_X6_issue rfl
theorem e_X6_issue_37 {Q : mQ} {l0 l1 l2 : Value} {st : List Value} {g : mG} {x : Nat} : WP m_X6_issue Q 37 [l0, l1, l2, .ref x] st g = WP m_X6_issue Q 38 [l0, l1, l2, .ref x] (.ref x :: st) g := E_al (i := 3) (n := 1) lo_X6_issue rfl rfl
theorem e_X6_issue_37n {Q : mQ} {l0 l1 l2 : Value} {st : List Value} {g : mG} : WP m_X6_issue Q 37 [l0, l1, l2, .null] st g = WP m_X6_issue Q 38 [l0, l1, l2, .null] (.null :: st) g := E_aln (i := 3) (n := 1) lo_X6_issue rfl rfl
theorem e_X6_issue_38 {Q : mQ} {l0 l1 l3 : Value} {st : List Value} {g : mG} {x : Int32} : WP m_X6_issue Q 38 [l0, l1, .int x, l3] st g = WP m_X6_issue Q 39 [l0, l1, .int x, l3] (.int x :: st) g := E_il (i := 2) (n := 1) lo_X6_issue rfl rfl
theorem e_X6_issue_39 {Q : mQ} {ls st : List Value} {g : mG} {b : Nat} {a0 a1 : Value} : WP m_X6_issue Q 39 ls (a1 :: a0 :: .ref b :: st) g = (st.length ≤ 4 ∧ gK g b = 6 ∧ stbs g ls ∧ stbs g st ∧ w_X5_issueTo [.ref b, a0, a1] g (fun v g' => WP m_X6_issue Q 42 ls (v.toList ++ st) g')) := E_CV (ar := [a1, a0, .ref b]) lo_X6_issue rfl rfl rfl (by decide)
theorem e_X6_issue_42 {Q : mQ} {ls : List Value} {g : mG} {v : Int32} : WP m_X6_issue Q 42 ls [.int v] g = Q (some (.int v)) g := E_iret lo_X6_issue rfl
/-! KilnPermits.order(ZII)I -/
def m_X6_order : List (Nat × mT) := [(0, tD (f_il 2 1)),
  (1, tI1 (fun x => x < 0) 13),
  (4, tD (f_il 3 1)),
  (5, tD (f_ic (nI 0) 1)),
  (6, tD (f_ic (nI 3) 1)),
  (7, tC w_X6_isWithin 0 3),
  (10, tI1 (fun x => ¬ x = 0) 16),
  (13, tD (f_ic ((-2)) 2)),
  (15, tR f_iret),
  (16, tD (f_al 0 1)),
  (17, tD (f_gR 7 0)),
  (20, tD (f_il 1 1)),
  (21, tD (f_il 2 1)),
  (22, tC w_X5_ranked 6 3),
  (25, tD (f_as 4 2)),
  (27, tD (f_al 4 2)),
  (29, tD (f_ifn 35 false)),
  (32, tD (f_ic ((-5)) 2)),
  (34, tR f_iret),
  (35, tD (f_il 3 1)),
  (36, tD (f_sw (0) (2) 82 [64, 70, 76])),
  (64, tD (f_al 4 2)),
  (66, tD (f_gI 3 0)),
  (69, tR f_iret),
  (70, tD (f_al 4 2)),
  (72, tD (f_gI 3 2)),
  (75, tR f_iret),
  (76, tD (f_al 4 2)),
  (78, tD (f_gI 3 3)),
  (81, tR f_iret),
  (82, tD (f_al 4 2)),
  (84, tD (f_gI 3 4)),
  (87, tR f_iret)]
abbrev w_X6_order : mS := wm m_X6_order 4 1
set_option maxRecDepth 100000 in
theorem lo_X6_order : locs_ok m_X6_order := List.forall_mem_cons.mpr ⟨loc_D mo_il,
  List.forall_mem_cons.mpr ⟨loc_I1,
  List.forall_mem_cons.mpr ⟨loc_D mo_il,
  List.forall_mem_cons.mpr ⟨loc_D mo_ic,
  List.forall_mem_cons.mpr ⟨loc_D mo_ic,
  List.forall_mem_cons.mpr ⟨loc_C sm_X6_isWithin.1,
  List.forall_mem_cons.mpr ⟨loc_I1,
  List.forall_mem_cons.mpr ⟨loc_D mo_ic,
  List.forall_mem_cons.mpr ⟨loc_R,
  List.forall_mem_cons.mpr ⟨loc_D mo_al,
  List.forall_mem_cons.mpr ⟨loc_D mo_gR,
  List.forall_mem_cons.mpr ⟨loc_D mo_il,
  List.forall_mem_cons.mpr ⟨loc_D mo_il,
  List.forall_mem_cons.mpr ⟨loc_C sm_X5_ranked.1,
  List.forall_mem_cons.mpr ⟨loc_D mo_as,
  List.forall_mem_cons.mpr ⟨loc_D mo_al,
  List.forall_mem_cons.mpr ⟨loc_D mo_ifn,
  List.forall_mem_cons.mpr ⟨loc_D mo_ic,
  List.forall_mem_cons.mpr ⟨loc_R,
  List.forall_mem_cons.mpr ⟨loc_D mo_il,
  List.forall_mem_cons.mpr ⟨loc_D mo_sw,
  List.forall_mem_cons.mpr ⟨loc_D mo_al,
  List.forall_mem_cons.mpr ⟨loc_D mo_gI,
  List.forall_mem_cons.mpr ⟨loc_R,
  List.forall_mem_cons.mpr ⟨loc_D mo_al,
  List.forall_mem_cons.mpr ⟨loc_D mo_gI,
  List.forall_mem_cons.mpr ⟨loc_R,
  List.forall_mem_cons.mpr ⟨loc_D mo_al,
  List.forall_mem_cons.mpr ⟨loc_D mo_gI,
  List.forall_mem_cons.mpr ⟨loc_R,
  List.forall_mem_cons.mpr ⟨loc_D mo_al,
  List.forall_mem_cons.mpr ⟨loc_D mo_gI,
  List.forall_mem_cons.mpr ⟨loc_R,
  fun _ h => absurd h List.not_mem_nil⟩⟩⟩⟩⟩⟩⟩⟩⟩⟩⟩⟩⟩⟩⟩⟩⟩⟩⟩⟩⟩⟩⟩⟩⟩⟩⟩⟩⟩⟩⟩⟩⟩
set_option maxRecDepth 100000 in
theorem sm_X6_order : SM yX6_order cX6_order 5 (some .int) 4 w_X6_order := SM_of' RX6 "order" rfl rfl (by decide) (by decide) (by decide) lo_X6_order (List.forall_mem_cons.mpr ⟨STP.r mo_il (q_iload_n dX6_order_0 rfl),
  List.forall_mem_cons.mpr ⟨(q_if_lt dX6_order_1 (by decide)).r,
  List.forall_mem_cons.mpr ⟨STP.r mo_il (q_iload_n dX6_order_4 rfl),
  List.forall_mem_cons.mpr ⟨STP.r mo_ic (q_iconst dX6_order_5 (by decide)),
  List.forall_mem_cons.mpr ⟨STP.r mo_ic (q_iconst dX6_order_6 (by decide)),
  List.forall_mem_cons.mpr ⟨(snd_CS sm_X6_isWithin km_X6_37 ks_X6_isWithin ki_X6 kx_X6_isWithin ⟨by decide, by decide, by decide +kernel⟩ (by decide) (by decide) dX6_order_7).r,
  List.forall_mem_cons.mpr ⟨(q_if_ne dX6_order_10 (by decide)).r,
  List.forall_mem_cons.mpr ⟨STP.r mo_ic (q_bipush dX6_order_13 (by decide)),
  List.forall_mem_cons.mpr ⟨r_iret dX6_order_15,
  List.forall_mem_cons.mpr ⟨STP.r mo_al (q_aload_n dX6_order_16 rfl),
  List.forall_mem_cons.mpr ⟨STP.r mo_gR (q_gR ⟨by decide, by decide⟩ (by decide) rfl (by decide) kf_X6_12 dX6_order_17),
  List.forall_mem_cons.mpr ⟨STP.r mo_il (q_iload_n dX6_order_20 rfl),
  List.forall_mem_cons.mpr ⟨STP.r mo_il (q_iload_n dX6_order_21 rfl),
  List.forall_mem_cons.mpr ⟨(snd_CV sm_X5_ranked ⟨by decide, by decide⟩ rfl km_X6_189 kt_X5_ranked kv_X5_ranked rfl ki_X5 kx_X5_ranked ⟨by decide, by decide, by decide +kernel⟩ (by decide) (by decide) dX6_order_22).r,
  List.forall_mem_cons.mpr ⟨STP.r mo_as (q_astore dX6_order_25),
  List.forall_mem_cons.mpr ⟨STP.r mo_al (q_aload dX6_order_27),
  List.forall_mem_cons.mpr ⟨STP.r mo_ifn (q_ifnonnull dX6_order_29 (by decide)),
  List.forall_mem_cons.mpr ⟨STP.r mo_ic (q_bipush dX6_order_32 (by decide)),
  List.forall_mem_cons.mpr ⟨r_iret dX6_order_34,
  List.forall_mem_cons.mpr ⟨STP.r mo_il (q_iload_n dX6_order_35 rfl),
  List.forall_mem_cons.mpr ⟨STP.r mo_sw (q_sw dX6_order_36 (by decide) (by decide) (by decide)),
  List.forall_mem_cons.mpr ⟨STP.r mo_al (q_aload dX6_order_64),
  List.forall_mem_cons.mpr ⟨STP.r mo_gI (q_gI ⟨by decide, by decide⟩ (by decide) rfl kf_X6_193 dX6_order_66),
  List.forall_mem_cons.mpr ⟨r_iret dX6_order_69,
  List.forall_mem_cons.mpr ⟨STP.r mo_al (q_aload dX6_order_70),
  List.forall_mem_cons.mpr ⟨STP.r mo_gI (q_gI ⟨by decide, by decide⟩ (by decide) rfl kf_X6_196 dX6_order_72),
  List.forall_mem_cons.mpr ⟨r_iret dX6_order_75,
  List.forall_mem_cons.mpr ⟨STP.r mo_al (q_aload dX6_order_76),
  List.forall_mem_cons.mpr ⟨STP.r mo_gI (q_gI ⟨by decide, by decide⟩ (by decide) rfl kf_X6_114 dX6_order_78),
  List.forall_mem_cons.mpr ⟨r_iret dX6_order_81,
  List.forall_mem_cons.mpr ⟨STP.r mo_al (q_aload dX6_order_82),
  List.forall_mem_cons.mpr ⟨STP.r mo_gI (q_gI ⟨by decide, by decide⟩ (by decide) rfl kf_X6_197 dX6_order_84),
  List.forall_mem_cons.mpr ⟨r_iret dX6_order_87,
  fun _ h => absurd h List.not_mem_nil⟩⟩⟩⟩⟩⟩⟩⟩⟩⟩⟩⟩⟩⟩⟩⟩⟩⟩⟩⟩⟩⟩⟩⟩⟩⟩⟩⟩⟩⟩⟩⟩⟩)
theorem e_X6_order_0 {Q : mQ} {l0 l1 l3 l4 : Value} {st : List Value} {g : mG} {x : Int32} : WP m_X6_order Q 0 [l0, l1, .int x, l3, l4] st g = WP m_X6_order Q 1 [l0, l1, .int x, l3, l4] (.int x :: st) g := E_il (i := 2) (n := 1) lo_X6_order rfl rfl
theorem e_X6_order_1 {Q : mQ} {ls st : List Value} {g : mG} {x : Int32} : WP m_X6_order Q 1 ls (.int x :: st) g = ((x < 0 → WP m_X6_order Q 13 ls st g) ∧ (¬ (x < 0) → WP m_X6_order Q 4 ls st g)) := E_I1 (c := fun x => x < 0) (t := 13) lo_X6_order rfl
theorem e_X6_order_4 {Q : mQ} {l0 l1 l2 l4 : Value} {st : List Value} {g : mG} {x : Int32} : WP m_X6_order Q 4 [l0, l1, l2, .int x, l4] st g = WP m_X6_order Q 5 [l0, l1, l2, .int x, l4] (.int x :: st) g := E_il (i := 3) (n := 1) lo_X6_order rfl rfl
theorem e_X6_order_5 {Q : mQ} {ls st : List Value} {g : mG} : WP m_X6_order Q 5 ls st g = WP m_X6_order Q 6 ls (.int (nI 0) :: st) g := E_ic (v := nI 0) (n := 1) lo_X6_order rfl
theorem e_X6_order_6 {Q : mQ} {ls st : List Value} {g : mG} : WP m_X6_order Q 6 ls st g = WP m_X6_order Q 7 ls (.int (nI 3) :: st) g := E_ic (v := nI 3) (n := 1) lo_X6_order rfl
theorem e_X6_order_7 {Q : mQ} {ls st : List Value} {g : mG} {a0 a1 a2 : Value} : WP m_X6_order Q 7 ls (a2 :: a1 :: a0 :: st) g = (st.length ≤ 4 ∧ stbs g ls ∧ stbs g st ∧ w_X6_isWithin [a0, a1, a2] g (fun v g' => WP m_X6_order Q 10 ls (v.toList ++ st) g')) := E_CS (ar := [a2, a1, a0]) lo_X6_order rfl rfl rfl
theorem e_X6_order_10 {Q : mQ} {ls st : List Value} {g : mG} {x : Int32} : WP m_X6_order Q 10 ls (.int x :: st) g = ((¬ x = 0 → WP m_X6_order Q 16 ls st g) ∧ (¬ (¬ x = 0) → WP m_X6_order Q 13 ls st g)) := E_I1 (c := fun x => ¬ x = 0) (t := 16) lo_X6_order rfl
theorem e_X6_order_13 {Q : mQ} {ls st : List Value} {g : mG} : WP m_X6_order Q 13 ls st g = WP m_X6_order Q 15 ls (.int ((-2)) :: st) g := E_ic (v := (-2)) (n := 2) lo_X6_order rfl
theorem e_X6_order_15 {Q : mQ} {ls : List Value} {g : mG} {v : Int32} : WP m_X6_order Q 15 ls [.int v] g = Q (some (.int v)) g := E_iret lo_X6_order rfl
theorem e_X6_order_16 {Q : mQ} {l1 l2 l3 l4 : Value} {st : List Value} {g : mG} {x : Nat} : WP m_X6_order Q 16 [.ref x, l1, l2, l3, l4] st g = WP m_X6_order Q 17 [.ref x, l1, l2, l3, l4] (.ref x :: st) g := E_al (i := 0) (n := 1) lo_X6_order rfl rfl
theorem e_X6_order_17 {Q : mQ} {ls st : List Value} {g : mG} {a : Nat} : WP m_X6_order Q 17 ls (.ref a :: st) g = ((gK g a = 7 ∧ gR g a 0 ≠ 0) ∧ WP m_X6_order Q 20 ls (.ref (gR g a 0) :: st) g) := E_gR lo_X6_order rfl
theorem e_X6_order_20 {Q : mQ} {l0 l2 l3 l4 : Value} {st : List Value} {g : mG} {x : Int32} : WP m_X6_order Q 20 [l0, .int x, l2, l3, l4] st g = WP m_X6_order Q 21 [l0, .int x, l2, l3, l4] (.int x :: st) g := E_il (i := 1) (n := 1) lo_X6_order rfl rfl
theorem e_X6_order_21 {Q : mQ} {l0 l1 l3 l4 : Value} {st : List Value} {g : mG} {x : Int32} : WP m_X6_order Q 21 [l0, l1, .int x, l3, l4] st g = WP m_X6_order Q 22 [l0, l1, .int x, l3, l4] (.int x :: st) g := E_il (i := 2) (n := 1) lo_X6_order rfl rfl
theorem e_X6_order_22 {Q : mQ} {ls st : List Value} {g : mG} {b : Nat} {a0 a1 : Value} : WP m_X6_order Q 22 ls (a1 :: a0 :: .ref b :: st) g = (st.length ≤ 4 ∧ gK g b = 6 ∧ stbs g ls ∧ stbs g st ∧ w_X5_ranked [.ref b, a0, a1] g (fun v g' => WP m_X6_order Q 25 ls (v.toList ++ st) g')) := E_CV (ar := [a1, a0, .ref b]) lo_X6_order rfl rfl rfl (by decide)
theorem e_X6_order_25 {Q : mQ} {l0 l1 l2 l3 l4 : Value} {st : List Value} {g : mG} {x : Nat} : WP m_X6_order Q 25 [l0, l1, l2, l3, l4] (.ref x :: st) g = (nl1 l3 ∧ WP m_X6_order Q 27 [l0, l1, l2, l3, .ref x] st g) := E_as (i := 4) (n := 2) lo_X6_order rfl (Nat.le_of_ble_eq_true rfl)
theorem e_X6_order_25n {Q : mQ} {l0 l1 l2 l3 l4 : Value} {st : List Value} {g : mG} : WP m_X6_order Q 25 [l0, l1, l2, l3, l4] (.null :: st) g = (nl1 l3 ∧ WP m_X6_order Q 27 [l0, l1, l2, l3, .null] st g) := E_asn (i := 4) (n := 2) lo_X6_order rfl (Nat.le_of_ble_eq_true rfl)
theorem e_X6_order_27 {Q : mQ} {l0 l1 l2 l3 : Value} {st : List Value} {g : mG} {x : Nat} : WP m_X6_order Q 27 [l0, l1, l2, l3, .ref x] st g = WP m_X6_order Q 29 [l0, l1, l2, l3, .ref x] (.ref x :: st) g := E_al (i := 4) (n := 2) lo_X6_order rfl rfl
theorem e_X6_order_27n {Q : mQ} {l0 l1 l2 l3 : Value} {st : List Value} {g : mG} : WP m_X6_order Q 27 [l0, l1, l2, l3, .null] st g = WP m_X6_order Q 29 [l0, l1, l2, l3, .null] (.null :: st) g := E_aln (i := 4) (n := 2) lo_X6_order rfl rfl
theorem e_X6_order_29 {Q : mQ} {ls st : List Value} {g : mG} {x : Nat} : WP m_X6_order Q 29 ls (.ref x :: st) g = WP m_X6_order Q 35 ls st g := E_nnr lo_X6_order rfl
theorem e_X6_order_29n {Q : mQ} {ls st : List Value} {g : mG} : WP m_X6_order Q 29 ls (.null :: st) g = WP m_X6_order Q 32 ls st g := E_nnn lo_X6_order rfl
theorem e_X6_order_32 {Q : mQ} {ls st : List Value} {g : mG} : WP m_X6_order Q 32 ls st g = WP m_X6_order Q 34 ls (.int ((-5)) :: st) g := E_ic (v := (-5)) (n := 2) lo_X6_order rfl
theorem e_X6_order_34 {Q : mQ} {ls : List Value} {g : mG} {v : Int32} : WP m_X6_order Q 34 ls [.int v] g = Q (some (.int v)) g := E_iret lo_X6_order rfl
theorem e_X6_order_35 {Q : mQ} {l0 l1 l2 l4 : Value} {st : List Value} {g : mG} {x : Int32} : WP m_X6_order Q 35 [l0, l1, l2, .int x, l4] st g = WP m_X6_order Q 36 [l0, l1, l2, .int x, l4] (.int x :: st) g := E_il (i := 3) (n := 1) lo_X6_order rfl rfl
theorem e_X6_order_36 {Q : mQ} {ls st : List Value} {g : mG} {x : Int32} : WP m_X6_order Q 36 ls (.int x :: st) g = WP m_X6_order Q (if x.toInt < 0 ∨ 2 < x.toInt then 82 else [64, 70, 76].getD (x.toInt - 0).toNat 82) ls st g := E_sw lo_X6_order rfl
theorem e_X6_order_64 {Q : mQ} {l0 l1 l2 l3 : Value} {st : List Value} {g : mG} {x : Nat} : WP m_X6_order Q 64 [l0, l1, l2, l3, .ref x] st g = WP m_X6_order Q 66 [l0, l1, l2, l3, .ref x] (.ref x :: st) g := E_al (i := 4) (n := 2) lo_X6_order rfl rfl
theorem e_X6_order_64n {Q : mQ} {l0 l1 l2 l3 : Value} {st : List Value} {g : mG} : WP m_X6_order Q 64 [l0, l1, l2, l3, .null] st g = WP m_X6_order Q 66 [l0, l1, l2, l3, .null] (.null :: st) g := E_aln (i := 4) (n := 2) lo_X6_order rfl rfl
theorem e_X6_order_66 {Q : mQ} {ls st : List Value} {g : mG} {a : Nat} : WP m_X6_order Q 66 ls (.ref a :: st) g = (gK g a = 3 ∧ WP m_X6_order Q 69 ls (.int (gI g a 0) :: st) g) := E_gI lo_X6_order rfl
theorem e_X6_order_69 {Q : mQ} {ls : List Value} {g : mG} {v : Int32} : WP m_X6_order Q 69 ls [.int v] g = Q (some (.int v)) g := E_iret lo_X6_order rfl
theorem e_X6_order_70 {Q : mQ} {l0 l1 l2 l3 : Value} {st : List Value} {g : mG} {x : Nat} : WP m_X6_order Q 70 [l0, l1, l2, l3, .ref x] st g = WP m_X6_order Q 72 [l0, l1, l2, l3, .ref x] (.ref x :: st) g := E_al (i := 4) (n := 2) lo_X6_order rfl rfl
theorem e_X6_order_70n {Q : mQ} {l0 l1 l2 l3 : Value} {st : List Value} {g : mG} : WP m_X6_order Q 70 [l0, l1, l2, l3, .null] st g = WP m_X6_order Q 72 [l0, l1, l2, l3, .null] (.null :: st) g := E_aln (i := 4) (n := 2) lo_X6_order rfl rfl
theorem e_X6_order_72 {Q : mQ} {ls st : List Value} {g : mG} {a : Nat} : WP m_X6_order Q 72 ls (.ref a :: st) g = (gK g a = 3 ∧ WP m_X6_order Q 75 ls (.int (gI g a 2) :: st) g) := E_gI lo_X6_order rfl
theorem e_X6_order_75 {Q : mQ} {ls : List Value} {g : mG} {v : Int32} : WP m_X6_order Q 75 ls [.int v] g = Q (some (.int v)) g := E_iret lo_X6_order rfl
theorem e_X6_order_76 {Q : mQ} {l0 l1 l2 l3 : Value} {st : List Value} {g : mG} {x : Nat} : WP m_X6_order Q 76 [l0, l1, l2, l3, .ref x] st g = WP m_X6_order Q 78 [l0, l1, l2, l3, .ref x] (.ref x :: st) g := E_al (i := 4) (n := 2) lo_X6_order rfl rfl
theorem e_X6_order_76n {Q : mQ} {l0 l1 l2 l3 : Value} {st : List Value} {g : mG} : WP m_X6_order Q 76 [l0, l1, l2, l3, .null] st g = WP m_X6_order Q 78 [l0, l1, l2, l3, .null] (.null :: st) g := E_aln (i := 4) (n := 2) lo_X6_order rfl rfl
theorem e_X6_order_78 {Q : mQ} {ls st : List Value} {g : mG} {a : Nat} : WP m_X6_order Q 78 ls (.ref a :: st) g = (gK g a = 3 ∧ WP m_X6_order Q 81 ls (.int (gI g a 3) :: st) g) := E_gI lo_X6_order rfl
theorem e_X6_order_81 {Q : mQ} {ls : List Value} {g : mG} {v : Int32} : WP m_X6_order Q 81 ls [.int v] g = Q (some (.int v)) g := E_iret lo_X6_order rfl
theorem e_X6_order_82 {Q : mQ} {l0 l1 l2 l3 : Value} {st : List Value} {g : mG} {x : Nat} : WP m_X6_order Q 82 [l0, l1, l2, l3, .ref x] st g = WP m_X6_order Q 84 [l0, l1, l2, l3, .ref x] (.ref x :: st) g := E_al (i := 4) (n := 2) lo_X6_order rfl rfl
theorem e_X6_order_82n {Q : mQ} {l0 l1 l2 l3 : Value} {st : List Value} {g : mG} : WP m_X6_order Q 82 [l0, l1, l2, l3, .null] st g = WP m_X6_order Q 84 [l0, l1, l2, l3, .null] (.null :: st) g := E_aln (i := 4) (n := 2) lo_X6_order rfl rfl
theorem e_X6_order_84 {Q : mQ} {ls st : List Value} {g : mG} {a : Nat} : WP m_X6_order Q 84 ls (.ref a :: st) g = (gK g a = 3 ∧ WP m_X6_order Q 87 ls (.int (gI g a 4) :: st) g) := E_gI lo_X6_order rfl
theorem e_X6_order_87 {Q : mQ} {ls : List Value} {g : mG} {v : Int32} : WP m_X6_order Q 87 ls [.int v] g = Q (some (.int v)) g := E_iret lo_X6_order rfl
/-! KilnPermits.ofYear(II)I -/
def m_X6_ofYear : List (Nat × mT) := [(0, tD (f_al 0 1)),
  (1, tD (f_gR 7 0)),
  (4, tD (f_il 1 1)),
  (5, tC w_X5_kilnAt 6 2),
  (8, tD (f_as 3 1)),
  (9, tD (f_al 3 1)),
  (10, tD (f_ifn 15 false)),
  (13, tD (f_ic ((-1)) 1)),
  (14, tR f_iret),
  (15, tD (f_il 2 1)),
  (16, tD (f_ic (nI 0) 1)),
  (17, tD (f_al 0 1)),
  (18, tD (f_gR 7 0)),
  (21, tD (f_gI 6 0)),
  (24, tC w_X6_isWithin 0 3),
  (27, tI1 (fun x => ¬ x = 0) 33),
  (30, tD (f_ic ((-2)) 2)),
  (32, tR f_iret),
  (33, tD (f_al 3 1)),
  (34, tD (f_gR 1 7)),
  (37, tD (f_il 2 1)),
  (38, tC w_X4_issuedFor 5 2),
  (41, tR f_iret)]
abbrev w_X6_ofYear : mS := wm m_X6_ofYear 3 1
set_option maxRecDepth 100000 in
theorem lo_X6_ofYear : locs_ok m_X6_ofYear := List.forall_mem_cons.mpr ⟨loc_D mo_al,
  List.forall_mem_cons.mpr ⟨loc_D mo_gR,
  List.forall_mem_cons.mpr ⟨loc_D mo_il,
  List.forall_mem_cons.mpr ⟨loc_C sm_X5_kilnAt.1,
  List.forall_mem_cons.mpr ⟨loc_D mo_as,
  List.forall_mem_cons.mpr ⟨loc_D mo_al,
  List.forall_mem_cons.mpr ⟨loc_D mo_ifn,
  List.forall_mem_cons.mpr ⟨loc_D mo_ic,
  List.forall_mem_cons.mpr ⟨loc_R,
  List.forall_mem_cons.mpr ⟨loc_D mo_il,
  List.forall_mem_cons.mpr ⟨loc_D mo_ic,
  List.forall_mem_cons.mpr ⟨loc_D mo_al,
  List.forall_mem_cons.mpr ⟨loc_D mo_gR,
  List.forall_mem_cons.mpr ⟨loc_D mo_gI,
  List.forall_mem_cons.mpr ⟨loc_C sm_X6_isWithin.1,
  List.forall_mem_cons.mpr ⟨loc_I1,
  List.forall_mem_cons.mpr ⟨loc_D mo_ic,
  List.forall_mem_cons.mpr ⟨loc_R,
  List.forall_mem_cons.mpr ⟨loc_D mo_al,
  List.forall_mem_cons.mpr ⟨loc_D mo_gR,
  List.forall_mem_cons.mpr ⟨loc_D mo_il,
  List.forall_mem_cons.mpr ⟨loc_C sm_X4_issuedFor.1,
  List.forall_mem_cons.mpr ⟨loc_R,
  fun _ h => absurd h List.not_mem_nil⟩⟩⟩⟩⟩⟩⟩⟩⟩⟩⟩⟩⟩⟩⟩⟩⟩⟩⟩⟩⟩⟩⟩
set_option maxRecDepth 100000 in
theorem sm_X6_ofYear : SM yX6_ofYear cX6_ofYear 4 (some .int) 2 w_X6_ofYear := SM_of' RX6 "ofYear" rfl rfl (by decide) (by decide) (by decide) lo_X6_ofYear (List.forall_mem_cons.mpr ⟨STP.r mo_al (q_aload_n dX6_ofYear_0 rfl),
  List.forall_mem_cons.mpr ⟨STP.r mo_gR (q_gR ⟨by decide, by decide⟩ (by decide) rfl (by decide) kf_X6_12 dX6_ofYear_1),
  List.forall_mem_cons.mpr ⟨STP.r mo_il (q_iload_n dX6_ofYear_4 rfl),
  List.forall_mem_cons.mpr ⟨(snd_CV sm_X5_kilnAt ⟨by decide, by decide⟩ rfl km_X6_33 kt_X5_kilnAt kv_X5_kilnAt rfl ki_X5 kx_X5_kilnAt ⟨by decide, by decide, by decide +kernel⟩ (by decide) (by decide) dX6_ofYear_5).r,
  List.forall_mem_cons.mpr ⟨STP.r mo_as (q_astore_n dX6_ofYear_8 rfl),
  List.forall_mem_cons.mpr ⟨STP.r mo_al (q_aload_n dX6_ofYear_9 rfl),
  List.forall_mem_cons.mpr ⟨STP.r mo_ifn (q_ifnonnull dX6_ofYear_10 (by decide)),
  List.forall_mem_cons.mpr ⟨STP.r mo_ic (q_iconst dX6_ofYear_13 (by decide)),
  List.forall_mem_cons.mpr ⟨r_iret dX6_ofYear_14,
  List.forall_mem_cons.mpr ⟨STP.r mo_il (q_iload_n dX6_ofYear_15 rfl),
  List.forall_mem_cons.mpr ⟨STP.r mo_ic (q_iconst dX6_ofYear_16 (by decide)),
  List.forall_mem_cons.mpr ⟨STP.r mo_al (q_aload_n dX6_ofYear_17 rfl),
  List.forall_mem_cons.mpr ⟨STP.r mo_gR (q_gR ⟨by decide, by decide⟩ (by decide) rfl (by decide) kf_X6_12 dX6_ofYear_18),
  List.forall_mem_cons.mpr ⟨STP.r mo_gI (q_gI ⟨by decide, by decide⟩ (by decide) rfl kf_X6_140 dX6_ofYear_21),
  List.forall_mem_cons.mpr ⟨(snd_CS sm_X6_isWithin km_X6_37 ks_X6_isWithin ki_X6 kx_X6_isWithin ⟨by decide, by decide, by decide +kernel⟩ (by decide) (by decide) dX6_ofYear_24).r,
  List.forall_mem_cons.mpr ⟨(q_if_ne dX6_ofYear_27 (by decide)).r,
  List.forall_mem_cons.mpr ⟨STP.r mo_ic (q_bipush dX6_ofYear_30 (by decide)),
  List.forall_mem_cons.mpr ⟨r_iret dX6_ofYear_32,
  List.forall_mem_cons.mpr ⟨STP.r mo_al (q_aload_n dX6_ofYear_33 rfl),
  List.forall_mem_cons.mpr ⟨STP.r mo_gR (q_gR ⟨by decide, by decide⟩ (by decide) rfl (by decide) kf_X6_159 dX6_ofYear_34),
  List.forall_mem_cons.mpr ⟨STP.r mo_il (q_iload_n dX6_ofYear_37 rfl),
  List.forall_mem_cons.mpr ⟨(snd_CV sm_X4_issuedFor ⟨by decide, by decide⟩ rfl km_X6_186 kt_X4_issuedFor kv_X4_issuedFor rfl ki_X4 kx_X4_issuedFor ⟨by decide, by decide, by decide +kernel⟩ (by decide) (by decide) dX6_ofYear_38).r,
  List.forall_mem_cons.mpr ⟨r_iret dX6_ofYear_41,
  fun _ h => absurd h List.not_mem_nil⟩⟩⟩⟩⟩⟩⟩⟩⟩⟩⟩⟩⟩⟩⟩⟩⟩⟩⟩⟩⟩⟩⟩)
theorem e_X6_ofYear_0 {Q : mQ} {l1 l2 l3 : Value} {st : List Value} {g : mG} {x : Nat} : WP m_X6_ofYear Q 0 [.ref x, l1, l2, l3] st g = WP m_X6_ofYear Q 1 [.ref x, l1, l2, l3] (.ref x :: st) g := E_al (i := 0) (n := 1) lo_X6_ofYear rfl rfl
theorem e_X6_ofYear_1 {Q : mQ} {ls st : List Value} {g : mG} {a : Nat} : WP m_X6_ofYear Q 1 ls (.ref a :: st) g = ((gK g a = 7 ∧ gR g a 0 ≠ 0) ∧ WP m_X6_ofYear Q 4 ls (.ref (gR g a 0) :: st) g) := E_gR lo_X6_ofYear rfl
theorem e_X6_ofYear_4 {Q : mQ} {l0 l2 l3 : Value} {st : List Value} {g : mG} {x : Int32} : WP m_X6_ofYear Q 4 [l0, .int x, l2, l3] st g = WP m_X6_ofYear Q 5 [l0, .int x, l2, l3] (.int x :: st) g := E_il (i := 1) (n := 1) lo_X6_ofYear rfl rfl
theorem e_X6_ofYear_5 {Q : mQ} {ls st : List Value} {g : mG} {b : Nat} {a0 : Value} : WP m_X6_ofYear Q 5 ls (a0 :: .ref b :: st) g = (st.length ≤ 4 ∧ gK g b = 6 ∧ stbs g ls ∧ stbs g st ∧ w_X5_kilnAt [.ref b, a0] g (fun v g' => WP m_X6_ofYear Q 8 ls (v.toList ++ st) g')) := E_CV (ar := [a0, .ref b]) lo_X6_ofYear rfl rfl rfl (by decide)
theorem e_X6_ofYear_8 {Q : mQ} {l0 l1 l2 l3 : Value} {st : List Value} {g : mG} {x : Nat} : WP m_X6_ofYear Q 8 [l0, l1, l2, l3] (.ref x :: st) g = (nl1 l2 ∧ WP m_X6_ofYear Q 9 [l0, l1, l2, .ref x] st g) := E_as (i := 3) (n := 1) lo_X6_ofYear rfl (Nat.le_of_ble_eq_true rfl)
theorem e_X6_ofYear_8n {Q : mQ} {l0 l1 l2 l3 : Value} {st : List Value} {g : mG} : WP m_X6_ofYear Q 8 [l0, l1, l2, l3] (.null :: st) g = (nl1 l2 ∧ WP m_X6_ofYear Q 9 [l0, l1, l2, .null] st g) := E_asn (i := 3) (n := 1) lo_X6_ofYear rfl (Nat.le_of_ble_eq_true rfl)
theorem e_X6_ofYear_9 {Q : mQ} {l0 l1 l2 : Value} {st : List Value} {g : mG} {x : Nat} : WP m_X6_ofYear Q 9 [l0, l1, l2, .ref x] st g = WP m_X6_ofYear Q 10 [l0, l1, l2, .ref x] (.ref x :: st) g := E_al (i := 3) (n := 1) lo_X6_ofYear rfl rfl
theorem e_X6_ofYear_9n {Q : mQ} {l0 l1 l2 : Value} {st : List Value} {g : mG} : WP m_X6_ofYear Q 9 [l0, l1, l2, .null] st g = WP m_X6_ofYear Q 10 [l0, l1, l2, .null] (.null :: st) g := E_aln (i := 3) (n := 1) lo_X6_ofYear rfl rfl
theorem e_X6_ofYear_10 {Q : mQ} {ls st : List Value} {g : mG} {x : Nat} : WP m_X6_ofYear Q 10 ls (.ref x :: st) g = WP m_X6_ofYear Q 15 ls st g := E_nnr lo_X6_ofYear rfl
theorem e_X6_ofYear_10n {Q : mQ} {ls st : List Value} {g : mG} : WP m_X6_ofYear Q 10 ls (.null :: st) g = WP m_X6_ofYear Q 13 ls st g := E_nnn lo_X6_ofYear rfl
theorem e_X6_ofYear_13 {Q : mQ} {ls st : List Value} {g : mG} : WP m_X6_ofYear Q 13 ls st g = WP m_X6_ofYear Q 14 ls (.int ((-1)) :: st) g := E_ic (v := (-1)) (n := 1) lo_X6_ofYear rfl
theorem e_X6_ofYear_14 {Q : mQ} {ls : List Value} {g : mG} {v : Int32} : WP m_X6_ofYear Q 14 ls [.int v] g = Q (some (.int v)) g := E_iret lo_X6_ofYear rfl
theorem e_X6_ofYear_15 {Q : mQ} {l0 l1 l3 : Value} {st : List Value} {g : mG} {x : Int32} : WP m_X6_ofYear Q 15 [l0, l1, .int x, l3] st g = WP m_X6_ofYear Q 16 [l0, l1, .int x, l3] (.int x :: st) g := E_il (i := 2) (n := 1) lo_X6_ofYear rfl rfl
theorem e_X6_ofYear_16 {Q : mQ} {ls st : List Value} {g : mG} : WP m_X6_ofYear Q 16 ls st g = WP m_X6_ofYear Q 17 ls (.int (nI 0) :: st) g := E_ic (v := nI 0) (n := 1) lo_X6_ofYear rfl
theorem e_X6_ofYear_17 {Q : mQ} {l1 l2 l3 : Value} {st : List Value} {g : mG} {x : Nat} : WP m_X6_ofYear Q 17 [.ref x, l1, l2, l3] st g = WP m_X6_ofYear Q 18 [.ref x, l1, l2, l3] (.ref x :: st) g := E_al (i := 0) (n := 1) lo_X6_ofYear rfl rfl
theorem e_X6_ofYear_18 {Q : mQ} {ls st : List Value} {g : mG} {a : Nat} : WP m_X6_ofYear Q 18 ls (.ref a :: st) g = ((gK g a = 7 ∧ gR g a 0 ≠ 0) ∧ WP m_X6_ofYear Q 21 ls (.ref (gR g a 0) :: st) g) := E_gR lo_X6_ofYear rfl
theorem e_X6_ofYear_21 {Q : mQ} {ls st : List Value} {g : mG} {a : Nat} : WP m_X6_ofYear Q 21 ls (.ref a :: st) g = (gK g a = 6 ∧ WP m_X6_ofYear Q 24 ls (.int (gI g a 0) :: st) g) := E_gI lo_X6_ofYear rfl
theorem e_X6_ofYear_24 {Q : mQ} {ls st : List Value} {g : mG} {a0 a1 a2 : Value} : WP m_X6_ofYear Q 24 ls (a2 :: a1 :: a0 :: st) g = (st.length ≤ 4 ∧ stbs g ls ∧ stbs g st ∧ w_X6_isWithin [a0, a1, a2] g (fun v g' => WP m_X6_ofYear Q 27 ls (v.toList ++ st) g')) := E_CS (ar := [a2, a1, a0]) lo_X6_ofYear rfl rfl rfl
theorem e_X6_ofYear_27 {Q : mQ} {ls st : List Value} {g : mG} {x : Int32} : WP m_X6_ofYear Q 27 ls (.int x :: st) g = ((¬ x = 0 → WP m_X6_ofYear Q 33 ls st g) ∧ (¬ (¬ x = 0) → WP m_X6_ofYear Q 30 ls st g)) := E_I1 (c := fun x => ¬ x = 0) (t := 33) lo_X6_ofYear rfl
theorem e_X6_ofYear_30 {Q : mQ} {ls st : List Value} {g : mG} : WP m_X6_ofYear Q 30 ls st g = WP m_X6_ofYear Q 32 ls (.int ((-2)) :: st) g := E_ic (v := (-2)) (n := 2) lo_X6_ofYear rfl
theorem e_X6_ofYear_32 {Q : mQ} {ls : List Value} {g : mG} {v : Int32} : WP m_X6_ofYear Q 32 ls [.int v] g = Q (some (.int v)) g := E_iret lo_X6_ofYear rfl
theorem e_X6_ofYear_33 {Q : mQ} {l0 l1 l2 : Value} {st : List Value} {g : mG} {x : Nat} : WP m_X6_ofYear Q 33 [l0, l1, l2, .ref x] st g = WP m_X6_ofYear Q 34 [l0, l1, l2, .ref x] (.ref x :: st) g := E_al (i := 3) (n := 1) lo_X6_ofYear rfl rfl
theorem e_X6_ofYear_33n {Q : mQ} {l0 l1 l2 : Value} {st : List Value} {g : mG} : WP m_X6_ofYear Q 33 [l0, l1, l2, .null] st g = WP m_X6_ofYear Q 34 [l0, l1, l2, .null] (.null :: st) g := E_aln (i := 3) (n := 1) lo_X6_ofYear rfl rfl
theorem e_X6_ofYear_34 {Q : mQ} {ls st : List Value} {g : mG} {a : Nat} : WP m_X6_ofYear Q 34 ls (.ref a :: st) g = ((gK g a = 1 ∧ gR g a 7 ≠ 0) ∧ WP m_X6_ofYear Q 37 ls (.ref (gR g a 7) :: st) g) := E_gR lo_X6_ofYear rfl
theorem e_X6_ofYear_37 {Q : mQ} {l0 l1 l3 : Value} {st : List Value} {g : mG} {x : Int32} : WP m_X6_ofYear Q 37 [l0, l1, .int x, l3] st g = WP m_X6_ofYear Q 38 [l0, l1, .int x, l3] (.int x :: st) g := E_il (i := 2) (n := 1) lo_X6_ofYear rfl rfl
theorem e_X6_ofYear_38 {Q : mQ} {ls st : List Value} {g : mG} {b : Nat} {a0 : Value} : WP m_X6_ofYear Q 38 ls (a0 :: .ref b :: st) g = (st.length ≤ 4 ∧ gK g b = 5 ∧ stbs g ls ∧ stbs g st ∧ w_X4_issuedFor [.ref b, a0] g (fun v g' => WP m_X6_ofYear Q 41 ls (v.toList ++ st) g')) := E_CV (ar := [a0, .ref b]) lo_X6_ofYear rfl rfl rfl (by decide)
theorem e_X6_ofYear_41 {Q : mQ} {ls : List Value} {g : mG} {v : Int32} : WP m_X6_ofYear Q 41 ls [.int v] g = Q (some (.int v)) g := E_iret lo_X6_ofYear rfl
/-! KilnPermits.kiln(II)I -/
def m_X6_kiln : List (Nat × mT) := [(0, tD (f_al 0 1)),
  (1, tD (f_gR 7 0)),
  (4, tD (f_il 1 1)),
  (5, tC w_X5_kilnAt 6 2),
  (8, tD (f_as 3 1)),
  (9, tD (f_al 3 1)),
  (10, tD (f_ifn 15 false)),
  (13, tD (f_ic ((-1)) 1)),
  (14, tR f_iret),
  (15, tD (f_il 2 1)),
  (16, tD (f_sw (0) (11) 154 [80, 85, 93, 98, 103, 108, 113, 118, 123, 128, 136, 145])),
  (80, tD (f_al 3 1)),
  (81, tD (f_gI 1 0)),
  (84, tR f_iret),
  (85, tD (f_al 3 1)),
  (86, tD (f_gR 1 7)),
  (89, tD (f_gI 5 2)),
  (92, tR f_iret),
  (93, tD (f_al 3 1)),
  (94, tD (f_gI 1 1)),
  (97, tR f_iret),
  (98, tD (f_al 3 1)),
  (99, tD (f_gI 1 2)),
  (102, tR f_iret),
  (103, tD (f_al 3 1)),
  (104, tD (f_gI 1 3)),
  (107, tR f_iret),
  (108, tD (f_al 3 1)),
  (109, tD (f_gI 1 4)),
  (112, tR f_iret),
  (113, tD (f_al 3 1)),
  (114, tD (f_gI 1 5)),
  (117, tR f_iret),
  (118, tD (f_al 3 1)),
  (119, tD (f_gI 1 6)),
  (122, tR f_iret),
  (123, tD (f_al 3 1)),
  (124, tC w_X0_lack 1 1),
  (127, tR f_iret),
  (128, tD (f_al 3 1)),
  (129, tD (f_gR 1 7)),
  (132, tC w_X4_oldestYear 5 1),
  (135, tR f_iret),
  (136, tD (f_al 0 1)),
  (137, tD (f_gR 7 0)),
  (140, tD (f_il 1 1)),
  (141, tC w_X5_offeredBy 6 2),
  (144, tR f_iret),
  (145, tD (f_al 0 1)),
  (146, tD (f_gR 7 0)),
  (149, tD (f_il 1 1)),
  (150, tC w_X5_heldBackBy 6 2),
  (153, tR f_iret),
  (154, tD (f_ic ((-2)) 2)),
  (156, tR f_iret)]
abbrev w_X6_kiln : mS := wm m_X6_kiln 3 1
set_option maxRecDepth 100000 in
theorem lo_X6_kiln : locs_ok m_X6_kiln := List.forall_mem_cons.mpr ⟨loc_D mo_al,
  List.forall_mem_cons.mpr ⟨loc_D mo_gR,
  List.forall_mem_cons.mpr ⟨loc_D mo_il,
  List.forall_mem_cons.mpr ⟨loc_C sm_X5_kilnAt.1,
  List.forall_mem_cons.mpr ⟨loc_D mo_as,
  List.forall_mem_cons.mpr ⟨loc_D mo_al,
  List.forall_mem_cons.mpr ⟨loc_D mo_ifn,
  List.forall_mem_cons.mpr ⟨loc_D mo_ic,
  List.forall_mem_cons.mpr ⟨loc_R,
  List.forall_mem_cons.mpr ⟨loc_D mo_il,
  List.forall_mem_cons.mpr ⟨loc_D mo_sw,
  List.forall_mem_cons.mpr ⟨loc_D mo_al,
  List.forall_mem_cons.mpr ⟨loc_D mo_gI,
  List.forall_mem_cons.mpr ⟨loc_R,
  List.forall_mem_cons.mpr ⟨loc_D mo_al,
  List.forall_mem_cons.mpr ⟨loc_D mo_gR,
  List.forall_mem_cons.mpr ⟨loc_D mo_gI,
  List.forall_mem_cons.mpr ⟨loc_R,
  List.forall_mem_cons.mpr ⟨loc_D mo_al,
  List.forall_mem_cons.mpr ⟨loc_D mo_gI,
  List.forall_mem_cons.mpr ⟨loc_R,
  List.forall_mem_cons.mpr ⟨loc_D mo_al,
  List.forall_mem_cons.mpr ⟨loc_D mo_gI,
  List.forall_mem_cons.mpr ⟨loc_R,
  List.forall_mem_cons.mpr ⟨loc_D mo_al,
  List.forall_mem_cons.mpr ⟨loc_D mo_gI,
  List.forall_mem_cons.mpr ⟨loc_R,
  List.forall_mem_cons.mpr ⟨loc_D mo_al,
  List.forall_mem_cons.mpr ⟨loc_D mo_gI,
  List.forall_mem_cons.mpr ⟨loc_R,
  List.forall_mem_cons.mpr ⟨loc_D mo_al,
  List.forall_mem_cons.mpr ⟨loc_D mo_gI,
  List.forall_mem_cons.mpr ⟨loc_R,
  List.forall_mem_cons.mpr ⟨loc_D mo_al,
  List.forall_mem_cons.mpr ⟨loc_D mo_gI,
  List.forall_mem_cons.mpr ⟨loc_R,
  List.forall_mem_cons.mpr ⟨loc_D mo_al,
  List.forall_mem_cons.mpr ⟨loc_C sm_X0_lack.1,
  List.forall_mem_cons.mpr ⟨loc_R,
  List.forall_mem_cons.mpr ⟨loc_D mo_al,
  List.forall_mem_cons.mpr ⟨loc_D mo_gR,
  List.forall_mem_cons.mpr ⟨loc_C sm_X4_oldestYear.1,
  List.forall_mem_cons.mpr ⟨loc_R,
  List.forall_mem_cons.mpr ⟨loc_D mo_al,
  List.forall_mem_cons.mpr ⟨loc_D mo_gR,
  List.forall_mem_cons.mpr ⟨loc_D mo_il,
  List.forall_mem_cons.mpr ⟨loc_C sm_X5_offeredBy.1,
  List.forall_mem_cons.mpr ⟨loc_R,
  List.forall_mem_cons.mpr ⟨loc_D mo_al,
  List.forall_mem_cons.mpr ⟨loc_D mo_gR,
  List.forall_mem_cons.mpr ⟨loc_D mo_il,
  List.forall_mem_cons.mpr ⟨loc_C sm_X5_heldBackBy.1,
  List.forall_mem_cons.mpr ⟨loc_R,
  List.forall_mem_cons.mpr ⟨loc_D mo_ic,
  List.forall_mem_cons.mpr ⟨loc_R,
  fun _ h => absurd h List.not_mem_nil⟩⟩⟩⟩⟩⟩⟩⟩⟩⟩⟩⟩⟩⟩⟩⟩⟩⟩⟩⟩⟩⟩⟩⟩⟩⟩⟩⟩⟩⟩⟩⟩⟩⟩⟩⟩⟩⟩⟩⟩⟩⟩⟩⟩⟩⟩⟩⟩⟩⟩⟩⟩⟩⟩⟩
set_option maxRecDepth 100000 in
theorem sm_X6_kiln : SM yX6_kiln cX6_kiln 4 (some .int) 3 w_X6_kiln := SM_of' RX6 "kiln" rfl rfl (by decide) (by decide) (by decide) lo_X6_kiln (List.forall_mem_cons.mpr ⟨STP.r mo_al (q_aload_n dX6_kiln_0 rfl),
  List.forall_mem_cons.mpr ⟨STP.r mo_gR (q_gR ⟨by decide, by decide⟩ (by decide) rfl (by decide) kf_X6_12 dX6_kiln_1),
  List.forall_mem_cons.mpr ⟨STP.r mo_il (q_iload_n dX6_kiln_4 rfl),
  List.forall_mem_cons.mpr ⟨(snd_CV sm_X5_kilnAt ⟨by decide, by decide⟩ rfl km_X6_33 kt_X5_kilnAt kv_X5_kilnAt rfl ki_X5 kx_X5_kilnAt ⟨by decide, by decide, by decide +kernel⟩ (by decide) (by decide) dX6_kiln_5).r,
  List.forall_mem_cons.mpr ⟨STP.r mo_as (q_astore_n dX6_kiln_8 rfl),
  List.forall_mem_cons.mpr ⟨STP.r mo_al (q_aload_n dX6_kiln_9 rfl),
  List.forall_mem_cons.mpr ⟨STP.r mo_ifn (q_ifnonnull dX6_kiln_10 (by decide)),
  List.forall_mem_cons.mpr ⟨STP.r mo_ic (q_iconst dX6_kiln_13 (by decide)),
  List.forall_mem_cons.mpr ⟨r_iret dX6_kiln_14,
  List.forall_mem_cons.mpr ⟨STP.r mo_il (q_iload_n dX6_kiln_15 rfl),
  List.forall_mem_cons.mpr ⟨STP.r mo_sw (q_sw dX6_kiln_16 (by decide) (by decide) (by decide)),
  List.forall_mem_cons.mpr ⟨STP.r mo_al (q_aload_n dX6_kiln_80 rfl),
  List.forall_mem_cons.mpr ⟨STP.r mo_gI (q_gI ⟨by decide, by decide⟩ (by decide) rfl kf_X6_126 dX6_kiln_81),
  List.forall_mem_cons.mpr ⟨r_iret dX6_kiln_84,
  List.forall_mem_cons.mpr ⟨STP.r mo_al (q_aload_n dX6_kiln_85 rfl),
  List.forall_mem_cons.mpr ⟨STP.r mo_gR (q_gR ⟨by decide, by decide⟩ (by decide) rfl (by decide) kf_X6_159 dX6_kiln_86),
  List.forall_mem_cons.mpr ⟨STP.r mo_gI (q_gI ⟨by decide, by decide⟩ (by decide) rfl kf_X6_162 dX6_kiln_89),
  List.forall_mem_cons.mpr ⟨r_iret dX6_kiln_92,
  List.forall_mem_cons.mpr ⟨STP.r mo_al (q_aload_n dX6_kiln_93 rfl),
  List.forall_mem_cons.mpr ⟨STP.r mo_gI (q_gI ⟨by decide, by decide⟩ (by decide) rfl kf_X6_48 dX6_kiln_94),
  List.forall_mem_cons.mpr ⟨r_iret dX6_kiln_97,
  List.forall_mem_cons.mpr ⟨STP.r mo_al (q_aload_n dX6_kiln_98 rfl),
  List.forall_mem_cons.mpr ⟨STP.r mo_gI (q_gI ⟨by decide, by decide⟩ (by decide) rfl kf_X6_54 dX6_kiln_99),
  List.forall_mem_cons.mpr ⟨r_iret dX6_kiln_102,
  List.forall_mem_cons.mpr ⟨STP.r mo_al (q_aload_n dX6_kiln_103 rfl),
  List.forall_mem_cons.mpr ⟨STP.r mo_gI (q_gI ⟨by decide, by decide⟩ (by decide) rfl kf_X6_133 dX6_kiln_104),
  List.forall_mem_cons.mpr ⟨r_iret dX6_kiln_107,
  List.forall_mem_cons.mpr ⟨STP.r mo_al (q_aload_n dX6_kiln_108 rfl),
  List.forall_mem_cons.mpr ⟨STP.r mo_gI (q_gI ⟨by decide, by decide⟩ (by decide) rfl kf_X6_57 dX6_kiln_109),
  List.forall_mem_cons.mpr ⟨r_iret dX6_kiln_112,
  List.forall_mem_cons.mpr ⟨STP.r mo_al (q_aload_n dX6_kiln_113 rfl),
  List.forall_mem_cons.mpr ⟨STP.r mo_gI (q_gI ⟨by decide, by decide⟩ (by decide) rfl kf_X6_167 dX6_kiln_114),
  List.forall_mem_cons.mpr ⟨r_iret dX6_kiln_117,
  List.forall_mem_cons.mpr ⟨STP.r mo_al (q_aload_n dX6_kiln_118 rfl),
  List.forall_mem_cons.mpr ⟨STP.r mo_gI (q_gI ⟨by decide, by decide⟩ (by decide) rfl kf_X6_170 dX6_kiln_119),
  List.forall_mem_cons.mpr ⟨r_iret dX6_kiln_122,
  List.forall_mem_cons.mpr ⟨STP.r mo_al (q_aload_n dX6_kiln_123 rfl),
  List.forall_mem_cons.mpr ⟨(snd_CV sm_X0_lack ⟨by decide, by decide⟩ rfl km_X6_173 kt_X0_lack kv_X0_lack rfl ki_X0 kx_X0_lack ⟨by decide, by decide, by decide +kernel⟩ (by decide) (by decide) dX6_kiln_124).r,
  List.forall_mem_cons.mpr ⟨r_iret dX6_kiln_127,
  List.forall_mem_cons.mpr ⟨STP.r mo_al (q_aload_n dX6_kiln_128 rfl),
  List.forall_mem_cons.mpr ⟨STP.r mo_gR (q_gR ⟨by decide, by decide⟩ (by decide) rfl (by decide) kf_X6_159 dX6_kiln_129),
  List.forall_mem_cons.mpr ⟨(snd_CV sm_X4_oldestYear ⟨by decide, by decide⟩ rfl km_X6_176 kt_X4_oldestYear kv_X4_oldestYear rfl ki_X4 kx_X4_oldestYear ⟨by decide, by decide, by decide +kernel⟩ (by decide) (by decide) dX6_kiln_132).r,
  List.forall_mem_cons.mpr ⟨r_iret dX6_kiln_135,
  List.forall_mem_cons.mpr ⟨STP.r mo_al (q_aload_n dX6_kiln_136 rfl),
  List.forall_mem_cons.mpr ⟨STP.r mo_gR (q_gR ⟨by decide, by decide⟩ (by decide) rfl (by decide) kf_X6_12 dX6_kiln_137),
  List.forall_mem_cons.mpr ⟨STP.r mo_il (q_iload_n dX6_kiln_140 rfl),
  List.forall_mem_cons.mpr ⟨(snd_CV sm_X5_offeredBy ⟨by decide, by decide⟩ rfl km_X6_179 kt_X5_offeredBy kv_X5_offeredBy rfl ki_X5 kx_X5_offeredBy ⟨by decide, by decide, by decide +kernel⟩ (by decide) (by decide) dX6_kiln_141).r,
  List.forall_mem_cons.mpr ⟨r_iret dX6_kiln_144,
  List.forall_mem_cons.mpr ⟨STP.r mo_al (q_aload_n dX6_kiln_145 rfl),
  List.forall_mem_cons.mpr ⟨STP.r mo_gR (q_gR ⟨by decide, by decide⟩ (by decide) rfl (by decide) kf_X6_12 dX6_kiln_146),
  List.forall_mem_cons.mpr ⟨STP.r mo_il (q_iload_n dX6_kiln_149 rfl),
  List.forall_mem_cons.mpr ⟨(snd_CV sm_X5_heldBackBy ⟨by decide, by decide⟩ rfl km_X6_183 kt_X5_heldBackBy kv_X5_heldBackBy rfl ki_X5 kx_X5_heldBackBy ⟨by decide, by decide, by decide +kernel⟩ (by decide) (by decide) dX6_kiln_150).r,
  List.forall_mem_cons.mpr ⟨r_iret dX6_kiln_153,
  List.forall_mem_cons.mpr ⟨STP.r mo_ic (q_bipush dX6_kiln_154 (by decide)),
  List.forall_mem_cons.mpr ⟨r_iret dX6_kiln_156,
  fun _ h => absurd h List.not_mem_nil⟩⟩⟩⟩⟩⟩⟩⟩⟩⟩⟩⟩⟩⟩⟩⟩⟩⟩⟩⟩⟩⟩⟩⟩⟩⟩⟩⟩⟩⟩⟩⟩⟩⟩⟩⟩⟩⟩⟩⟩⟩⟩⟩⟩⟩⟩⟩⟩⟩⟩⟩⟩⟩⟩⟩)
theorem e_X6_kiln_0 {Q : mQ} {l1 l2 l3 : Value} {st : List Value} {g : mG} {x : Nat} : WP m_X6_kiln Q 0 [.ref x, l1, l2, l3] st g = WP m_X6_kiln Q 1 [.ref x, l1, l2, l3] (.ref x :: st) g := E_al (i := 0) (n := 1) lo_X6_kiln rfl rfl
theorem e_X6_kiln_1 {Q : mQ} {ls st : List Value} {g : mG} {a : Nat} : WP m_X6_kiln Q 1 ls (.ref a :: st) g = ((gK g a = 7 ∧ gR g a 0 ≠ 0) ∧ WP m_X6_kiln Q 4 ls (.ref (gR g a 0) :: st) g) := E_gR lo_X6_kiln rfl
theorem e_X6_kiln_4 {Q : mQ} {l0 l2 l3 : Value} {st : List Value} {g : mG} {x : Int32} : WP m_X6_kiln Q 4 [l0, .int x, l2, l3] st g = WP m_X6_kiln Q 5 [l0, .int x, l2, l3] (.int x :: st) g := E_il (i := 1) (n := 1) lo_X6_kiln rfl rfl
theorem e_X6_kiln_5 {Q : mQ} {ls st : List Value} {g : mG} {b : Nat} {a0 : Value} : WP m_X6_kiln Q 5 ls (a0 :: .ref b :: st) g = (st.length ≤ 4 ∧ gK g b = 6 ∧ stbs g ls ∧ stbs g st ∧ w_X5_kilnAt [.ref b, a0] g (fun v g' => WP m_X6_kiln Q 8 ls (v.toList ++ st) g')) := E_CV (ar := [a0, .ref b]) lo_X6_kiln rfl rfl rfl (by decide)
theorem e_X6_kiln_8 {Q : mQ} {l0 l1 l2 l3 : Value} {st : List Value} {g : mG} {x : Nat} : WP m_X6_kiln Q 8 [l0, l1, l2, l3] (.ref x :: st) g = (nl1 l2 ∧ WP m_X6_kiln Q 9 [l0, l1, l2, .ref x] st g) := E_as (i := 3) (n := 1) lo_X6_kiln rfl (Nat.le_of_ble_eq_true rfl)
theorem e_X6_kiln_8n {Q : mQ} {l0 l1 l2 l3 : Value} {st : List Value} {g : mG} : WP m_X6_kiln Q 8 [l0, l1, l2, l3] (.null :: st) g = (nl1 l2 ∧ WP m_X6_kiln Q 9 [l0, l1, l2, .null] st g) := E_asn (i := 3) (n := 1) lo_X6_kiln rfl (Nat.le_of_ble_eq_true rfl)
theorem e_X6_kiln_9 {Q : mQ} {l0 l1 l2 : Value} {st : List Value} {g : mG} {x : Nat} : WP m_X6_kiln Q 9 [l0, l1, l2, .ref x] st g = WP m_X6_kiln Q 10 [l0, l1, l2, .ref x] (.ref x :: st) g := E_al (i := 3) (n := 1) lo_X6_kiln rfl rfl
theorem e_X6_kiln_9n {Q : mQ} {l0 l1 l2 : Value} {st : List Value} {g : mG} : WP m_X6_kiln Q 9 [l0, l1, l2, .null] st g = WP m_X6_kiln Q 10 [l0, l1, l2, .null] (.null :: st) g := E_aln (i := 3) (n := 1) lo_X6_kiln rfl rfl
theorem e_X6_kiln_10 {Q : mQ} {ls st : List Value} {g : mG} {x : Nat} : WP m_X6_kiln Q 10 ls (.ref x :: st) g = WP m_X6_kiln Q 15 ls st g := E_nnr lo_X6_kiln rfl
theorem e_X6_kiln_10n {Q : mQ} {ls st : List Value} {g : mG} : WP m_X6_kiln Q 10 ls (.null :: st) g = WP m_X6_kiln Q 13 ls st g := E_nnn lo_X6_kiln rfl
theorem e_X6_kiln_13 {Q : mQ} {ls st : List Value} {g : mG} : WP m_X6_kiln Q 13 ls st g = WP m_X6_kiln Q 14 ls (.int ((-1)) :: st) g := E_ic (v := (-1)) (n := 1) lo_X6_kiln rfl
theorem e_X6_kiln_14 {Q : mQ} {ls : List Value} {g : mG} {v : Int32} : WP m_X6_kiln Q 14 ls [.int v] g = Q (some (.int v)) g := E_iret lo_X6_kiln rfl
theorem e_X6_kiln_15 {Q : mQ} {l0 l1 l3 : Value} {st : List Value} {g : mG} {x : Int32} : WP m_X6_kiln Q 15 [l0, l1, .int x, l3] st g = WP m_X6_kiln Q 16 [l0, l1, .int x, l3] (.int x :: st) g := E_il (i := 2) (n := 1) lo_X6_kiln rfl rfl
theorem e_X6_kiln_16 {Q : mQ} {ls st : List Value} {g : mG} {x : Int32} : WP m_X6_kiln Q 16 ls (.int x :: st) g = WP m_X6_kiln Q (if x.toInt < 0 ∨ 11 < x.toInt then 154 else [80, 85, 93, 98, 103, 108, 113, 118, 123, 128, 136, 145].getD (x.toInt - 0).toNat 154) ls st g := E_sw lo_X6_kiln rfl
theorem e_X6_kiln_80 {Q : mQ} {l0 l1 l2 : Value} {st : List Value} {g : mG} {x : Nat} : WP m_X6_kiln Q 80 [l0, l1, l2, .ref x] st g = WP m_X6_kiln Q 81 [l0, l1, l2, .ref x] (.ref x :: st) g := E_al (i := 3) (n := 1) lo_X6_kiln rfl rfl
theorem e_X6_kiln_80n {Q : mQ} {l0 l1 l2 : Value} {st : List Value} {g : mG} : WP m_X6_kiln Q 80 [l0, l1, l2, .null] st g = WP m_X6_kiln Q 81 [l0, l1, l2, .null] (.null :: st) g := E_aln (i := 3) (n := 1) lo_X6_kiln rfl rfl
theorem e_X6_kiln_81 {Q : mQ} {ls st : List Value} {g : mG} {a : Nat} : WP m_X6_kiln Q 81 ls (.ref a :: st) g = (gK g a = 1 ∧ WP m_X6_kiln Q 84 ls (.int (gI g a 0) :: st) g) := E_gI lo_X6_kiln rfl
theorem e_X6_kiln_84 {Q : mQ} {ls : List Value} {g : mG} {v : Int32} : WP m_X6_kiln Q 84 ls [.int v] g = Q (some (.int v)) g := E_iret lo_X6_kiln rfl
theorem e_X6_kiln_85 {Q : mQ} {l0 l1 l2 : Value} {st : List Value} {g : mG} {x : Nat} : WP m_X6_kiln Q 85 [l0, l1, l2, .ref x] st g = WP m_X6_kiln Q 86 [l0, l1, l2, .ref x] (.ref x :: st) g := E_al (i := 3) (n := 1) lo_X6_kiln rfl rfl
theorem e_X6_kiln_85n {Q : mQ} {l0 l1 l2 : Value} {st : List Value} {g : mG} : WP m_X6_kiln Q 85 [l0, l1, l2, .null] st g = WP m_X6_kiln Q 86 [l0, l1, l2, .null] (.null :: st) g := E_aln (i := 3) (n := 1) lo_X6_kiln rfl rfl
theorem e_X6_kiln_86 {Q : mQ} {ls st : List Value} {g : mG} {a : Nat} : WP m_X6_kiln Q 86 ls (.ref a :: st) g = ((gK g a = 1 ∧ gR g a 7 ≠ 0) ∧ WP m_X6_kiln Q 89 ls (.ref (gR g a 7) :: st) g) := E_gR lo_X6_kiln rfl
theorem e_X6_kiln_89 {Q : mQ} {ls st : List Value} {g : mG} {a : Nat} : WP m_X6_kiln Q 89 ls (.ref a :: st) g = (gK g a = 5 ∧ WP m_X6_kiln Q 92 ls (.int (gI g a 2) :: st) g) := E_gI lo_X6_kiln rfl
theorem e_X6_kiln_92 {Q : mQ} {ls : List Value} {g : mG} {v : Int32} : WP m_X6_kiln Q 92 ls [.int v] g = Q (some (.int v)) g := E_iret lo_X6_kiln rfl
theorem e_X6_kiln_93 {Q : mQ} {l0 l1 l2 : Value} {st : List Value} {g : mG} {x : Nat} : WP m_X6_kiln Q 93 [l0, l1, l2, .ref x] st g = WP m_X6_kiln Q 94 [l0, l1, l2, .ref x] (.ref x :: st) g := E_al (i := 3) (n := 1) lo_X6_kiln rfl rfl
theorem e_X6_kiln_93n {Q : mQ} {l0 l1 l2 : Value} {st : List Value} {g : mG} : WP m_X6_kiln Q 93 [l0, l1, l2, .null] st g = WP m_X6_kiln Q 94 [l0, l1, l2, .null] (.null :: st) g := E_aln (i := 3) (n := 1) lo_X6_kiln rfl rfl
theorem e_X6_kiln_94 {Q : mQ} {ls st : List Value} {g : mG} {a : Nat} : WP m_X6_kiln Q 94 ls (.ref a :: st) g = (gK g a = 1 ∧ WP m_X6_kiln Q 97 ls (.int (gI g a 1) :: st) g) := E_gI lo_X6_kiln rfl
theorem e_X6_kiln_97 {Q : mQ} {ls : List Value} {g : mG} {v : Int32} : WP m_X6_kiln Q 97 ls [.int v] g = Q (some (.int v)) g := E_iret lo_X6_kiln rfl
theorem e_X6_kiln_98 {Q : mQ} {l0 l1 l2 : Value} {st : List Value} {g : mG} {x : Nat} : WP m_X6_kiln Q 98 [l0, l1, l2, .ref x] st g = WP m_X6_kiln Q 99 [l0, l1, l2, .ref x] (.ref x :: st) g := E_al (i := 3) (n := 1) lo_X6_kiln rfl rfl
theorem e_X6_kiln_98n {Q : mQ} {l0 l1 l2 : Value} {st : List Value} {g : mG} : WP m_X6_kiln Q 98 [l0, l1, l2, .null] st g = WP m_X6_kiln Q 99 [l0, l1, l2, .null] (.null :: st) g := E_aln (i := 3) (n := 1) lo_X6_kiln rfl rfl
theorem e_X6_kiln_99 {Q : mQ} {ls st : List Value} {g : mG} {a : Nat} : WP m_X6_kiln Q 99 ls (.ref a :: st) g = (gK g a = 1 ∧ WP m_X6_kiln Q 102 ls (.int (gI g a 2) :: st) g) := E_gI lo_X6_kiln rfl
theorem e_X6_kiln_102 {Q : mQ} {ls : List Value} {g : mG} {v : Int32} : WP m_X6_kiln Q 102 ls [.int v] g = Q (some (.int v)) g := E_iret lo_X6_kiln rfl
theorem e_X6_kiln_103 {Q : mQ} {l0 l1 l2 : Value} {st : List Value} {g : mG} {x : Nat} : WP m_X6_kiln Q 103 [l0, l1, l2, .ref x] st g = WP m_X6_kiln Q 104 [l0, l1, l2, .ref x] (.ref x :: st) g := E_al (i := 3) (n := 1) lo_X6_kiln rfl rfl
theorem e_X6_kiln_103n {Q : mQ} {l0 l1 l2 : Value} {st : List Value} {g : mG} : WP m_X6_kiln Q 103 [l0, l1, l2, .null] st g = WP m_X6_kiln Q 104 [l0, l1, l2, .null] (.null :: st) g := E_aln (i := 3) (n := 1) lo_X6_kiln rfl rfl
theorem e_X6_kiln_104 {Q : mQ} {ls st : List Value} {g : mG} {a : Nat} : WP m_X6_kiln Q 104 ls (.ref a :: st) g = (gK g a = 1 ∧ WP m_X6_kiln Q 107 ls (.int (gI g a 3) :: st) g) := E_gI lo_X6_kiln rfl
theorem e_X6_kiln_107 {Q : mQ} {ls : List Value} {g : mG} {v : Int32} : WP m_X6_kiln Q 107 ls [.int v] g = Q (some (.int v)) g := E_iret lo_X6_kiln rfl
theorem e_X6_kiln_108 {Q : mQ} {l0 l1 l2 : Value} {st : List Value} {g : mG} {x : Nat} : WP m_X6_kiln Q 108 [l0, l1, l2, .ref x] st g = WP m_X6_kiln Q 109 [l0, l1, l2, .ref x] (.ref x :: st) g := E_al (i := 3) (n := 1) lo_X6_kiln rfl rfl
theorem e_X6_kiln_108n {Q : mQ} {l0 l1 l2 : Value} {st : List Value} {g : mG} : WP m_X6_kiln Q 108 [l0, l1, l2, .null] st g = WP m_X6_kiln Q 109 [l0, l1, l2, .null] (.null :: st) g := E_aln (i := 3) (n := 1) lo_X6_kiln rfl rfl
theorem e_X6_kiln_109 {Q : mQ} {ls st : List Value} {g : mG} {a : Nat} : WP m_X6_kiln Q 109 ls (.ref a :: st) g = (gK g a = 1 ∧ WP m_X6_kiln Q 112 ls (.int (gI g a 4) :: st) g) := E_gI lo_X6_kiln rfl
theorem e_X6_kiln_112 {Q : mQ} {ls : List Value} {g : mG} {v : Int32} : WP m_X6_kiln Q 112 ls [.int v] g = Q (some (.int v)) g := E_iret lo_X6_kiln rfl
theorem e_X6_kiln_113 {Q : mQ} {l0 l1 l2 : Value} {st : List Value} {g : mG} {x : Nat} : WP m_X6_kiln Q 113 [l0, l1, l2, .ref x] st g = WP m_X6_kiln Q 114 [l0, l1, l2, .ref x] (.ref x :: st) g := E_al (i := 3) (n := 1) lo_X6_kiln rfl rfl
theorem e_X6_kiln_113n {Q : mQ} {l0 l1 l2 : Value} {st : List Value} {g : mG} : WP m_X6_kiln Q 113 [l0, l1, l2, .null] st g = WP m_X6_kiln Q 114 [l0, l1, l2, .null] (.null :: st) g := E_aln (i := 3) (n := 1) lo_X6_kiln rfl rfl
theorem e_X6_kiln_114 {Q : mQ} {ls st : List Value} {g : mG} {a : Nat} : WP m_X6_kiln Q 114 ls (.ref a :: st) g = (gK g a = 1 ∧ WP m_X6_kiln Q 117 ls (.int (gI g a 5) :: st) g) := E_gI lo_X6_kiln rfl
theorem e_X6_kiln_117 {Q : mQ} {ls : List Value} {g : mG} {v : Int32} : WP m_X6_kiln Q 117 ls [.int v] g = Q (some (.int v)) g := E_iret lo_X6_kiln rfl
theorem e_X6_kiln_118 {Q : mQ} {l0 l1 l2 : Value} {st : List Value} {g : mG} {x : Nat} : WP m_X6_kiln Q 118 [l0, l1, l2, .ref x] st g = WP m_X6_kiln Q 119 [l0, l1, l2, .ref x] (.ref x :: st) g := E_al (i := 3) (n := 1) lo_X6_kiln rfl rfl
theorem e_X6_kiln_118n {Q : mQ} {l0 l1 l2 : Value} {st : List Value} {g : mG} : WP m_X6_kiln Q 118 [l0, l1, l2, .null] st g = WP m_X6_kiln Q 119 [l0, l1, l2, .null] (.null :: st) g := E_aln (i := 3) (n := 1) lo_X6_kiln rfl rfl
theorem e_X6_kiln_119 {Q : mQ} {ls st : List Value} {g : mG} {a : Nat} : WP m_X6_kiln Q 119 ls (.ref a :: st) g = (gK g a = 1 ∧ WP m_X6_kiln Q 122 ls (.int (gI g a 6) :: st) g) := E_gI lo_X6_kiln rfl
theorem e_X6_kiln_122 {Q : mQ} {ls : List Value} {g : mG} {v : Int32} : WP m_X6_kiln Q 122 ls [.int v] g = Q (some (.int v)) g := E_iret lo_X6_kiln rfl
theorem e_X6_kiln_123 {Q : mQ} {l0 l1 l2 : Value} {st : List Value} {g : mG} {x : Nat} : WP m_X6_kiln Q 123 [l0, l1, l2, .ref x] st g = WP m_X6_kiln Q 124 [l0, l1, l2, .ref x] (.ref x :: st) g := E_al (i := 3) (n := 1) lo_X6_kiln rfl rfl
theorem e_X6_kiln_123n {Q : mQ} {l0 l1 l2 : Value} {st : List Value} {g : mG} : WP m_X6_kiln Q 123 [l0, l1, l2, .null] st g = WP m_X6_kiln Q 124 [l0, l1, l2, .null] (.null :: st) g := E_aln (i := 3) (n := 1) lo_X6_kiln rfl rfl
theorem e_X6_kiln_124 {Q : mQ} {ls st : List Value} {g : mG} {b : Nat} : WP m_X6_kiln Q 124 ls (.ref b :: st) g = (st.length ≤ 4 ∧ gK g b = 1 ∧ stbs g ls ∧ stbs g st ∧ w_X0_lack [.ref b] g (fun v g' => WP m_X6_kiln Q 127 ls (v.toList ++ st) g')) := E_CV (ar := [.ref b]) lo_X6_kiln rfl rfl rfl (by decide)
theorem e_X6_kiln_127 {Q : mQ} {ls : List Value} {g : mG} {v : Int32} : WP m_X6_kiln Q 127 ls [.int v] g = Q (some (.int v)) g := E_iret lo_X6_kiln rfl
theorem e_X6_kiln_128 {Q : mQ} {l0 l1 l2 : Value} {st : List Value} {g : mG} {x : Nat} : WP m_X6_kiln Q 128 [l0, l1, l2, .ref x] st g = WP m_X6_kiln Q 129 [l0, l1, l2, .ref x] (.ref x :: st) g := E_al (i := 3) (n := 1) lo_X6_kiln rfl rfl
theorem e_X6_kiln_128n {Q : mQ} {l0 l1 l2 : Value} {st : List Value} {g : mG} : WP m_X6_kiln Q 128 [l0, l1, l2, .null] st g = WP m_X6_kiln Q 129 [l0, l1, l2, .null] (.null :: st) g := E_aln (i := 3) (n := 1) lo_X6_kiln rfl rfl
theorem e_X6_kiln_129 {Q : mQ} {ls st : List Value} {g : mG} {a : Nat} : WP m_X6_kiln Q 129 ls (.ref a :: st) g = ((gK g a = 1 ∧ gR g a 7 ≠ 0) ∧ WP m_X6_kiln Q 132 ls (.ref (gR g a 7) :: st) g) := E_gR lo_X6_kiln rfl
theorem e_X6_kiln_132 {Q : mQ} {ls st : List Value} {g : mG} {b : Nat} : WP m_X6_kiln Q 132 ls (.ref b :: st) g = (st.length ≤ 4 ∧ gK g b = 5 ∧ stbs g ls ∧ stbs g st ∧ w_X4_oldestYear [.ref b] g (fun v g' => WP m_X6_kiln Q 135 ls (v.toList ++ st) g')) := E_CV (ar := [.ref b]) lo_X6_kiln rfl rfl rfl (by decide)
theorem e_X6_kiln_135 {Q : mQ} {ls : List Value} {g : mG} {v : Int32} : WP m_X6_kiln Q 135 ls [.int v] g = Q (some (.int v)) g := E_iret lo_X6_kiln rfl
theorem e_X6_kiln_136 {Q : mQ} {l1 l2 l3 : Value} {st : List Value} {g : mG} {x : Nat} : WP m_X6_kiln Q 136 [.ref x, l1, l2, l3] st g = WP m_X6_kiln Q 137 [.ref x, l1, l2, l3] (.ref x :: st) g := E_al (i := 0) (n := 1) lo_X6_kiln rfl rfl
theorem e_X6_kiln_137 {Q : mQ} {ls st : List Value} {g : mG} {a : Nat} : WP m_X6_kiln Q 137 ls (.ref a :: st) g = ((gK g a = 7 ∧ gR g a 0 ≠ 0) ∧ WP m_X6_kiln Q 140 ls (.ref (gR g a 0) :: st) g) := E_gR lo_X6_kiln rfl
theorem e_X6_kiln_140 {Q : mQ} {l0 l2 l3 : Value} {st : List Value} {g : mG} {x : Int32} : WP m_X6_kiln Q 140 [l0, .int x, l2, l3] st g = WP m_X6_kiln Q 141 [l0, .int x, l2, l3] (.int x :: st) g := E_il (i := 1) (n := 1) lo_X6_kiln rfl rfl
theorem e_X6_kiln_141 {Q : mQ} {ls st : List Value} {g : mG} {b : Nat} {a0 : Value} : WP m_X6_kiln Q 141 ls (a0 :: .ref b :: st) g = (st.length ≤ 4 ∧ gK g b = 6 ∧ stbs g ls ∧ stbs g st ∧ w_X5_offeredBy [.ref b, a0] g (fun v g' => WP m_X6_kiln Q 144 ls (v.toList ++ st) g')) := E_CV (ar := [a0, .ref b]) lo_X6_kiln rfl rfl rfl (by decide)
theorem e_X6_kiln_144 {Q : mQ} {ls : List Value} {g : mG} {v : Int32} : WP m_X6_kiln Q 144 ls [.int v] g = Q (some (.int v)) g := E_iret lo_X6_kiln rfl
theorem e_X6_kiln_145 {Q : mQ} {l1 l2 l3 : Value} {st : List Value} {g : mG} {x : Nat} : WP m_X6_kiln Q 145 [.ref x, l1, l2, l3] st g = WP m_X6_kiln Q 146 [.ref x, l1, l2, l3] (.ref x :: st) g := E_al (i := 0) (n := 1) lo_X6_kiln rfl rfl
theorem e_X6_kiln_146 {Q : mQ} {ls st : List Value} {g : mG} {a : Nat} : WP m_X6_kiln Q 146 ls (.ref a :: st) g = ((gK g a = 7 ∧ gR g a 0 ≠ 0) ∧ WP m_X6_kiln Q 149 ls (.ref (gR g a 0) :: st) g) := E_gR lo_X6_kiln rfl
theorem e_X6_kiln_149 {Q : mQ} {l0 l2 l3 : Value} {st : List Value} {g : mG} {x : Int32} : WP m_X6_kiln Q 149 [l0, .int x, l2, l3] st g = WP m_X6_kiln Q 150 [l0, .int x, l2, l3] (.int x :: st) g := E_il (i := 1) (n := 1) lo_X6_kiln rfl rfl
theorem e_X6_kiln_150 {Q : mQ} {ls st : List Value} {g : mG} {b : Nat} {a0 : Value} : WP m_X6_kiln Q 150 ls (a0 :: .ref b :: st) g = (st.length ≤ 4 ∧ gK g b = 6 ∧ stbs g ls ∧ stbs g st ∧ w_X5_heldBackBy [.ref b, a0] g (fun v g' => WP m_X6_kiln Q 153 ls (v.toList ++ st) g')) := E_CV (ar := [a0, .ref b]) lo_X6_kiln rfl rfl rfl (by decide)
theorem e_X6_kiln_153 {Q : mQ} {ls : List Value} {g : mG} {v : Int32} : WP m_X6_kiln Q 153 ls [.int v] g = Q (some (.int v)) g := E_iret lo_X6_kiln rfl
theorem e_X6_kiln_154 {Q : mQ} {ls st : List Value} {g : mG} : WP m_X6_kiln Q 154 ls st g = WP m_X6_kiln Q 156 ls (.int ((-2)) :: st) g := E_ic (v := (-2)) (n := 2) lo_X6_kiln rfl
theorem e_X6_kiln_156 {Q : mQ} {ls : List Value} {g : mG} {v : Int32} : WP m_X6_kiln Q 156 ls [.int v] g = Q (some (.int v)) g := E_iret lo_X6_kiln rfl
/-! KilnPermits.<init>()V -/
def m_X6_init : List (Nat × mT) := [(0, tD (f_al 0 1)),
  (1, tD (f_obj)),
  (4, tD (f_al 0 1)),
  (5, tE (f_new 6)),
  (8, tD (f_dup)),
  (9, tC w_X5_init 6 1),
  (12, tD (f_pR 7 0)),
  (15, tD (f_al 0 1)),
  (16, tE (f_new 6)),
  (19, tD (f_dup)),
  (20, tC w_X5_init 6 1),
  (23, tD (f_pR 7 1)),
  (26, tD (f_al 0 1)),
  (27, tE (f_new 6)),
  (30, tD (f_dup)),
  (31, tC w_X5_init 6 1),
  (34, tD (f_pR 7 2)),
  (37, tD (f_al 0 1)),
  (38, tD (f_ic (nI 4) 1)),
  (39, tE (f_newq 17)),
  (42, tD (f_pR 7 4)),
  (45, tD (f_ic (nI 0) 1)),
  (46, tD (f_is 1 1)),
  (47, tD (f_il 1 1)),
  (48, tD (f_al 0 1)),
  (49, tD (f_gR 7 4)),
  (52, tD (f_alen)),
  (53, tI2 (fun x y => y ≤ x) 75),
  (56, tD (f_al 0 1)),
  (57, tD (f_gR 7 4)),
  (60, tD (f_il 1 1)),
  (61, tE (f_new 6)),
  (64, tD (f_dup)),
  (65, tC w_X5_init 6 1),
  (68, tD (f_aast 17 (ekd 17))),
  (69, tD (f_inc 1 (nI 1))),
  (72, tD (f_goto 47)),
  (75, tD (f_al 0 1)),
  (76, tE (f_new 4)),
  (79, tD (f_dup)),
  (80, tC w_X3_init 4 1),
  (83, tD (f_pR 7 6)),
  (86, tR f_ret)]
abbrev w_X6_init : mS := wm m_X6_init 1 1
set_option maxRecDepth 100000 in
theorem lo_X6_init : locs_ok m_X6_init := List.forall_mem_cons.mpr ⟨loc_D mo_al,
  List.forall_mem_cons.mpr ⟨loc_D mo_obj,
  List.forall_mem_cons.mpr ⟨loc_D mo_al,
  List.forall_mem_cons.mpr ⟨loc_E (fun _ => mo_new),
  List.forall_mem_cons.mpr ⟨loc_D mo_dup,
  List.forall_mem_cons.mpr ⟨loc_C sm_X5_init.1,
  List.forall_mem_cons.mpr ⟨loc_D mo_pR,
  List.forall_mem_cons.mpr ⟨loc_D mo_al,
  List.forall_mem_cons.mpr ⟨loc_E (fun _ => mo_new),
  List.forall_mem_cons.mpr ⟨loc_D mo_dup,
  List.forall_mem_cons.mpr ⟨loc_C sm_X5_init.1,
  List.forall_mem_cons.mpr ⟨loc_D mo_pR,
  List.forall_mem_cons.mpr ⟨loc_D mo_al,
  List.forall_mem_cons.mpr ⟨loc_E (fun _ => mo_new),
  List.forall_mem_cons.mpr ⟨loc_D mo_dup,
  List.forall_mem_cons.mpr ⟨loc_C sm_X5_init.1,
  List.forall_mem_cons.mpr ⟨loc_D mo_pR,
  List.forall_mem_cons.mpr ⟨loc_D mo_al,
  List.forall_mem_cons.mpr ⟨loc_D mo_ic,
  List.forall_mem_cons.mpr ⟨loc_E (fun _ => mo_newq),
  List.forall_mem_cons.mpr ⟨loc_D mo_pR,
  List.forall_mem_cons.mpr ⟨loc_D mo_ic,
  List.forall_mem_cons.mpr ⟨loc_D mo_is,
  List.forall_mem_cons.mpr ⟨loc_D mo_il,
  List.forall_mem_cons.mpr ⟨loc_D mo_al,
  List.forall_mem_cons.mpr ⟨loc_D mo_gR,
  List.forall_mem_cons.mpr ⟨loc_D mo_alen,
  List.forall_mem_cons.mpr ⟨loc_I2,
  List.forall_mem_cons.mpr ⟨loc_D mo_al,
  List.forall_mem_cons.mpr ⟨loc_D mo_gR,
  List.forall_mem_cons.mpr ⟨loc_D mo_il,
  List.forall_mem_cons.mpr ⟨loc_E (fun _ => mo_new),
  List.forall_mem_cons.mpr ⟨loc_D mo_dup,
  List.forall_mem_cons.mpr ⟨loc_C sm_X5_init.1,
  List.forall_mem_cons.mpr ⟨loc_D mo_aast,
  List.forall_mem_cons.mpr ⟨loc_D mo_inc,
  List.forall_mem_cons.mpr ⟨loc_D mo_goto,
  List.forall_mem_cons.mpr ⟨loc_D mo_al,
  List.forall_mem_cons.mpr ⟨loc_E (fun _ => mo_new),
  List.forall_mem_cons.mpr ⟨loc_D mo_dup,
  List.forall_mem_cons.mpr ⟨loc_C sm_X3_init.1,
  List.forall_mem_cons.mpr ⟨loc_D mo_pR,
  List.forall_mem_cons.mpr ⟨loc_R,
  fun _ h => absurd h List.not_mem_nil⟩⟩⟩⟩⟩⟩⟩⟩⟩⟩⟩⟩⟩⟩⟩⟩⟩⟩⟩⟩⟩⟩⟩⟩⟩⟩⟩⟩⟩⟩⟩⟩⟩⟩⟩⟩⟩⟩⟩⟩⟩⟩⟩
set_option maxRecDepth 100000 in
theorem sm_X6_init : SM yX6_init cX6_init 2 none 4 w_X6_init := SM_of' RX6 "<init>" rfl rfl (by decide) (by decide) (by decide) lo_X6_init (List.forall_mem_cons.mpr ⟨STP.r mo_al (q_aload_n dX6_init_0 rfl),
  List.forall_mem_cons.mpr ⟨STP.r mo_obj (q_obj km_X6_3 kz_oi kz_oc dX6_init_1),
  List.forall_mem_cons.mpr ⟨STP.r mo_al (q_aload_n dX6_init_4 rfl),
  List.forall_mem_cons.mpr ⟨STE.r (fun _ => mo_new) (q_new ⟨by decide, by decide⟩ kc_X6_9 kn_X5 ki_X5 dX6_init_5),
  List.forall_mem_cons.mpr ⟨STP.r mo_dup (q_dup dX6_init_8),
  List.forall_mem_cons.mpr ⟨(snd_CI sm_X5_init (by decide) rfl km_X6_11 kt_X5_init ki_X5 kx_X5_init ⟨by decide, by decide, by decide +kernel⟩ (by decide) (by decide) dX6_init_9).r,
  List.forall_mem_cons.mpr ⟨STP.r mo_pR (q_pR ⟨by decide, by decide⟩ (by decide) rfl (by decide) (Or.inl rfl) (fun h => absurd h (by decide)) kf_X6_12 dX6_init_12),
  List.forall_mem_cons.mpr ⟨STP.r mo_al (q_aload_n dX6_init_15 rfl),
  List.forall_mem_cons.mpr ⟨STE.r (fun _ => mo_new) (q_new ⟨by decide, by decide⟩ kc_X6_9 kn_X5 ki_X5 dX6_init_16),
  List.forall_mem_cons.mpr ⟨STP.r mo_dup (q_dup dX6_init_19),
  List.forall_mem_cons.mpr ⟨(snd_CI sm_X5_init (by decide) rfl km_X6_11 kt_X5_init ki_X5 kx_X5_init ⟨by decide, by decide, by decide +kernel⟩ (by decide) (by decide) dX6_init_20).r,
  List.forall_mem_cons.mpr ⟨STP.r mo_pR (q_pR ⟨by decide, by decide⟩ (by decide) rfl (by decide) (Or.inl rfl) (fun h => absurd h (by decide)) kf_X6_16 dX6_init_23),
  List.forall_mem_cons.mpr ⟨STP.r mo_al (q_aload_n dX6_init_26 rfl),
  List.forall_mem_cons.mpr ⟨STE.r (fun _ => mo_new) (q_new ⟨by decide, by decide⟩ kc_X6_9 kn_X5 ki_X5 dX6_init_27),
  List.forall_mem_cons.mpr ⟨STP.r mo_dup (q_dup dX6_init_30),
  List.forall_mem_cons.mpr ⟨(snd_CI sm_X5_init (by decide) rfl km_X6_11 kt_X5_init ki_X5 kx_X5_init ⟨by decide, by decide, by decide +kernel⟩ (by decide) (by decide) dX6_init_31).r,
  List.forall_mem_cons.mpr ⟨STP.r mo_pR (q_pR ⟨by decide, by decide⟩ (by decide) rfl (by decide) (Or.inr ⟨rfl, rfl⟩) (fun _ => rfl) kf_X6_19 dX6_init_34),
  List.forall_mem_cons.mpr ⟨STP.r mo_al (q_aload_n dX6_init_37 rfl),
  List.forall_mem_cons.mpr ⟨STP.r mo_ic (q_iconst dX6_init_38 (by decide)),
  List.forall_mem_cons.mpr ⟨STE.r (fun _ => mo_newq) (q_newq ⟨by decide, by decide⟩ kc_X6_9 ko_X5 dX6_init_39),
  List.forall_mem_cons.mpr ⟨STP.r mo_pR (q_pR ⟨by decide, by decide⟩ (by decide) rfl (by decide) (Or.inr ⟨rfl, rfl⟩) (fun _ => rfl) kf_X6_22 dX6_init_42),
  List.forall_mem_cons.mpr ⟨STP.r mo_ic (q_iconst dX6_init_45 (by decide)),
  List.forall_mem_cons.mpr ⟨STP.r mo_is (q_istore_n dX6_init_46 rfl),
  List.forall_mem_cons.mpr ⟨STP.r mo_il (q_iload_n dX6_init_47 rfl),
  List.forall_mem_cons.mpr ⟨STP.r mo_al (q_aload_n dX6_init_48 rfl),
  List.forall_mem_cons.mpr ⟨STP.r mo_gR (q_gR ⟨by decide, by decide⟩ (by decide) rfl (by decide) kf_X6_22 dX6_init_49),
  List.forall_mem_cons.mpr ⟨STP.r mo_alen (q_alen dX6_init_52),
  List.forall_mem_cons.mpr ⟨(q_ic_ge dX6_init_53 (by decide)).r,
  List.forall_mem_cons.mpr ⟨STP.r mo_al (q_aload_n dX6_init_56 rfl),
  List.forall_mem_cons.mpr ⟨STP.r mo_gR (q_gR ⟨by decide, by decide⟩ (by decide) rfl (by decide) kf_X6_22 dX6_init_57),
  List.forall_mem_cons.mpr ⟨STP.r mo_il (q_iload_n dX6_init_60 rfl),
  List.forall_mem_cons.mpr ⟨STE.r (fun _ => mo_new) (q_new ⟨by decide, by decide⟩ kc_X6_9 kn_X5 ki_X5 dX6_init_61),
  List.forall_mem_cons.mpr ⟨STP.r mo_dup (q_dup dX6_init_64),
  List.forall_mem_cons.mpr ⟨(snd_CI sm_X5_init (by decide) rfl km_X6_11 kt_X5_init ki_X5 kx_X5_init ⟨by decide, by decide, by decide +kernel⟩ (by decide) (by decide) dX6_init_65).r,
  List.forall_mem_cons.mpr ⟨STP.r mo_aast (q_aast ⟨by decide, by decide⟩ dX6_init_68),
  List.forall_mem_cons.mpr ⟨STP.r mo_inc (q_inc dX6_init_69 (by decide)),
  List.forall_mem_cons.mpr ⟨STP.r mo_goto (q_goto dX6_init_72 (by decide)),
  List.forall_mem_cons.mpr ⟨STP.r mo_al (q_aload_n dX6_init_75 rfl),
  List.forall_mem_cons.mpr ⟨STE.r (fun _ => mo_new) (q_new ⟨by decide, by decide⟩ kc_X6_26 kn_X3 ki_X3 dX6_init_76),
  List.forall_mem_cons.mpr ⟨STP.r mo_dup (q_dup dX6_init_79),
  List.forall_mem_cons.mpr ⟨(snd_CI sm_X3_init (by decide) rfl km_X6_28 kt_X3_init ki_X3 kx_X3_init ⟨by decide, by decide, by decide +kernel⟩ (by decide) (by decide) dX6_init_80).r,
  List.forall_mem_cons.mpr ⟨STP.r mo_pR (q_pR ⟨by decide, by decide⟩ (by decide) rfl (by decide) (Or.inr ⟨rfl, rfl⟩) (fun _ => rfl) kf_X6_29 dX6_init_83),
  List.forall_mem_cons.mpr ⟨r_ret dX6_init_86,
  fun _ h => absurd h List.not_mem_nil⟩⟩⟩⟩⟩⟩⟩⟩⟩⟩⟩⟩⟩⟩⟩⟩⟩⟩⟩⟩⟩⟩⟩⟩⟩⟩⟩⟩⟩⟩⟩⟩⟩⟩⟩⟩⟩⟩⟩⟩⟩⟩⟩)
theorem e_X6_init_0 {Q : mQ} {l1 : Value} {st : List Value} {g : mG} {x : Nat} : WP m_X6_init Q 0 [.ref x, l1] st g = WP m_X6_init Q 1 [.ref x, l1] (.ref x :: st) g := E_al (i := 0) (n := 1) lo_X6_init rfl rfl
theorem e_X6_init_1 {Q : mQ} {ls st : List Value} {g : mG} {x : Nat} : WP m_X6_init Q 1 ls (.ref x :: st) g = (st.length ≤ 4 ∧ WP m_X6_init Q 4 ls st g) := E_obj lo_X6_init rfl
theorem e_X6_init_4 {Q : mQ} {l1 : Value} {st : List Value} {g : mG} {x : Nat} : WP m_X6_init Q 4 [.ref x, l1] st g = WP m_X6_init Q 5 [.ref x, l1] (.ref x :: st) g := E_al (i := 0) (n := 1) lo_X6_init rfl rfl
theorem e_X6_init_5 {Q : mQ} {ls st : List Value} {g : mG} : WP m_X6_init Q 5 ls st g = ∃ a : Nat, (frsh g a ∧ (6 = 5 → gK g (a + 1) = 0) ∧ alv g ls ∧ alv g st) ∧ WP m_X6_init Q 8 ls (.ref a :: st) (nw g a 6 0 (xn 6) (fun _ => 0)) := E_new lo_X6_init rfl
theorem e_X6_init_8 {Q : mQ} {ls st : List Value} {g : mG} {x : Value} : WP m_X6_init Q 8 ls (x :: st) g = (cat1 x ∧ WP m_X6_init Q 9 ls (x :: x :: st) g) := E_dup lo_X6_init rfl
theorem e_X6_init_9 {Q : mQ} {ls st : List Value} {g : mG} {b : Nat} : WP m_X6_init Q 9 ls (.ref b :: st) g = (st.length ≤ 4 ∧ gK g b = 6 ∧ stbs g ls ∧ stbs g st ∧ w_X5_init [.ref b] g (fun v g' => WP m_X6_init Q 12 ls (v.toList ++ st) g')) := E_CV (ar := [.ref b]) lo_X6_init rfl rfl rfl (by decide)
theorem e_X6_init_12 {Q : mQ} {ls st : List Value} {g : mG} {a v : Nat} : WP m_X6_init Q 12 ls (.ref v :: .ref a :: st) g = ((gK g a = 7 ∧ ok1 g v ∧ v ≠ 0) ∧ WP m_X6_init Q 15 ls st (pR g a 0 v)) := E_pR lo_X6_init rfl
theorem e_X6_init_15 {Q : mQ} {l1 : Value} {st : List Value} {g : mG} {x : Nat} : WP m_X6_init Q 15 [.ref x, l1] st g = WP m_X6_init Q 16 [.ref x, l1] (.ref x :: st) g := E_al (i := 0) (n := 1) lo_X6_init rfl rfl
theorem e_X6_init_16 {Q : mQ} {ls st : List Value} {g : mG} : WP m_X6_init Q 16 ls st g = ∃ a : Nat, (frsh g a ∧ (6 = 5 → gK g (a + 1) = 0) ∧ alv g ls ∧ alv g st) ∧ WP m_X6_init Q 19 ls (.ref a :: st) (nw g a 6 0 (xn 6) (fun _ => 0)) := E_new lo_X6_init rfl
theorem e_X6_init_19 {Q : mQ} {ls st : List Value} {g : mG} {x : Value} : WP m_X6_init Q 19 ls (x :: st) g = (cat1 x ∧ WP m_X6_init Q 20 ls (x :: x :: st) g) := E_dup lo_X6_init rfl
theorem e_X6_init_20 {Q : mQ} {ls st : List Value} {g : mG} {b : Nat} : WP m_X6_init Q 20 ls (.ref b :: st) g = (st.length ≤ 4 ∧ gK g b = 6 ∧ stbs g ls ∧ stbs g st ∧ w_X5_init [.ref b] g (fun v g' => WP m_X6_init Q 23 ls (v.toList ++ st) g')) := E_CV (ar := [.ref b]) lo_X6_init rfl rfl rfl (by decide)
theorem e_X6_init_23 {Q : mQ} {ls st : List Value} {g : mG} {a v : Nat} : WP m_X6_init Q 23 ls (.ref v :: .ref a :: st) g = ((gK g a = 7 ∧ ok1 g v ∧ v ≠ 0) ∧ WP m_X6_init Q 26 ls st (pR g a 1 v)) := E_pR lo_X6_init rfl
theorem e_X6_init_26 {Q : mQ} {l1 : Value} {st : List Value} {g : mG} {x : Nat} : WP m_X6_init Q 26 [.ref x, l1] st g = WP m_X6_init Q 27 [.ref x, l1] (.ref x :: st) g := E_al (i := 0) (n := 1) lo_X6_init rfl rfl
theorem e_X6_init_27 {Q : mQ} {ls st : List Value} {g : mG} : WP m_X6_init Q 27 ls st g = ∃ a : Nat, (frsh g a ∧ (6 = 5 → gK g (a + 1) = 0) ∧ alv g ls ∧ alv g st) ∧ WP m_X6_init Q 30 ls (.ref a :: st) (nw g a 6 0 (xn 6) (fun _ => 0)) := E_new lo_X6_init rfl
theorem e_X6_init_30 {Q : mQ} {ls st : List Value} {g : mG} {x : Value} : WP m_X6_init Q 30 ls (x :: st) g = (cat1 x ∧ WP m_X6_init Q 31 ls (x :: x :: st) g) := E_dup lo_X6_init rfl
theorem e_X6_init_31 {Q : mQ} {ls st : List Value} {g : mG} {b : Nat} : WP m_X6_init Q 31 ls (.ref b :: st) g = (st.length ≤ 4 ∧ gK g b = 6 ∧ stbs g ls ∧ stbs g st ∧ w_X5_init [.ref b] g (fun v g' => WP m_X6_init Q 34 ls (v.toList ++ st) g')) := E_CV (ar := [.ref b]) lo_X6_init rfl rfl rfl (by decide)
theorem e_X6_init_34 {Q : mQ} {ls st : List Value} {g : mG} {a v : Nat} : WP m_X6_init Q 34 ls (.ref v :: .ref a :: st) g = ((gK g a = 7 ∧ ok1 g v ∧ v ≠ 0) ∧ WP m_X6_init Q 37 ls st (pR g a 2 v)) := E_pR lo_X6_init rfl
theorem e_X6_init_37 {Q : mQ} {l1 : Value} {st : List Value} {g : mG} {x : Nat} : WP m_X6_init Q 37 [.ref x, l1] st g = WP m_X6_init Q 38 [.ref x, l1] (.ref x :: st) g := E_al (i := 0) (n := 1) lo_X6_init rfl rfl
theorem e_X6_init_38 {Q : mQ} {ls st : List Value} {g : mG} : WP m_X6_init Q 38 ls st g = WP m_X6_init Q 39 ls (.int (nI 4) :: st) g := E_ic (v := nI 4) (n := 1) lo_X6_init rfl
theorem e_X6_init_39 {Q : mQ} {ls st : List Value} {g : mG} {n : Int32} : WP m_X6_init Q 39 ls (.int n :: st) g = ∃ a : Nat, (frsh g a ∧ ¬ n < 0 ∧ n.toNatClampNeg ≤ 100000 ∧ alv g ls ∧ alv g st) ∧ WP m_X6_init Q 42 ls (.ref a :: st) (nw g a 17 n.toNatClampNeg n.toNatClampNeg (fun _ => 0)) := E_newq lo_X6_init rfl
theorem e_X6_init_42 {Q : mQ} {ls st : List Value} {g : mG} {a v : Nat} : WP m_X6_init Q 42 ls (.ref v :: .ref a :: st) g = ((gK g a = 7 ∧ ok1 g v ∧ v ≠ 0) ∧ WP m_X6_init Q 45 ls st (pR g a 4 v)) := E_pR lo_X6_init rfl
theorem e_X6_init_45 {Q : mQ} {ls st : List Value} {g : mG} : WP m_X6_init Q 45 ls st g = WP m_X6_init Q 46 ls (.int (nI 0) :: st) g := E_ic (v := nI 0) (n := 1) lo_X6_init rfl
theorem e_X6_init_46 {Q : mQ} {l0 l1 : Value} {st : List Value} {g : mG} {x : Int32} : WP m_X6_init Q 46 [l0, l1] (.int x :: st) g = (nl1 l0 ∧ WP m_X6_init Q 47 [l0, .int x] st g) := E_is (i := 1) (n := 1) lo_X6_init rfl (Nat.le_of_ble_eq_true rfl)
theorem e_X6_init_47 {Q : mQ} {l0 : Value} {st : List Value} {g : mG} {x : Int32} : WP m_X6_init Q 47 [l0, .int x] st g = WP m_X6_init Q 48 [l0, .int x] (.int x :: st) g := E_il (i := 1) (n := 1) lo_X6_init rfl rfl
theorem e_X6_init_48 {Q : mQ} {l1 : Value} {st : List Value} {g : mG} {x : Nat} : WP m_X6_init Q 48 [.ref x, l1] st g = WP m_X6_init Q 49 [.ref x, l1] (.ref x :: st) g := E_al (i := 0) (n := 1) lo_X6_init rfl rfl
theorem e_X6_init_49 {Q : mQ} {ls st : List Value} {g : mG} {a : Nat} : WP m_X6_init Q 49 ls (.ref a :: st) g = ((gK g a = 7 ∧ gR g a 4 ≠ 0) ∧ WP m_X6_init Q 52 ls (.ref (gR g a 4) :: st) g) := E_gR lo_X6_init rfl
theorem e_X6_init_52 {Q : mQ} {ls st : List Value} {g : mG} {a : Nat} : WP m_X6_init Q 52 ls (.ref a :: st) g = ((10 ≤ gK g a ∧ gK g a ≤ 17) ∧ WP m_X6_init Q 53 ls (.int (nI (gN g a)) :: st) g) := E_alen lo_X6_init rfl
theorem e_X6_init_53 {Q : mQ} {ls st : List Value} {g : mG} {x y : Int32} : WP m_X6_init Q 53 ls (.int y :: .int x :: st) g = ((y ≤ x → WP m_X6_init Q 75 ls st g) ∧ (¬ (y ≤ x) → WP m_X6_init Q 56 ls st g)) := E_I2 (c := fun x y => y ≤ x) (t := 75) lo_X6_init rfl
theorem e_X6_init_56 {Q : mQ} {l1 : Value} {st : List Value} {g : mG} {x : Nat} : WP m_X6_init Q 56 [.ref x, l1] st g = WP m_X6_init Q 57 [.ref x, l1] (.ref x :: st) g := E_al (i := 0) (n := 1) lo_X6_init rfl rfl
theorem e_X6_init_57 {Q : mQ} {ls st : List Value} {g : mG} {a : Nat} : WP m_X6_init Q 57 ls (.ref a :: st) g = ((gK g a = 7 ∧ gR g a 4 ≠ 0) ∧ WP m_X6_init Q 60 ls (.ref (gR g a 4) :: st) g) := E_gR lo_X6_init rfl
theorem e_X6_init_60 {Q : mQ} {l0 : Value} {st : List Value} {g : mG} {x : Int32} : WP m_X6_init Q 60 [l0, .int x] st g = WP m_X6_init Q 61 [l0, .int x] (.int x :: st) g := E_il (i := 1) (n := 1) lo_X6_init rfl rfl
theorem e_X6_init_61 {Q : mQ} {ls st : List Value} {g : mG} : WP m_X6_init Q 61 ls st g = ∃ a : Nat, (frsh g a ∧ (6 = 5 → gK g (a + 1) = 0) ∧ alv g ls ∧ alv g st) ∧ WP m_X6_init Q 64 ls (.ref a :: st) (nw g a 6 0 (xn 6) (fun _ => 0)) := E_new lo_X6_init rfl
theorem e_X6_init_64 {Q : mQ} {ls st : List Value} {g : mG} {x : Value} : WP m_X6_init Q 64 ls (x :: st) g = (cat1 x ∧ WP m_X6_init Q 65 ls (x :: x :: st) g) := E_dup lo_X6_init rfl
theorem e_X6_init_65 {Q : mQ} {ls st : List Value} {g : mG} {b : Nat} : WP m_X6_init Q 65 ls (.ref b :: st) g = (st.length ≤ 4 ∧ gK g b = 6 ∧ stbs g ls ∧ stbs g st ∧ w_X5_init [.ref b] g (fun v g' => WP m_X6_init Q 68 ls (v.toList ++ st) g')) := E_CV (ar := [.ref b]) lo_X6_init rfl rfl rfl (by decide)
theorem e_X6_init_68 {Q : mQ} {ls st : List Value} {g : mG} {a v : Nat} {i : Int32} : WP m_X6_init Q 68 ls (.ref v :: .int i :: .ref a :: st) g = ((gK g a = 17 ∧ vp_in i (gN g a) ∧ gK g v = 6 ∧ v ≠ 0) ∧ WP m_X6_init Q 69 ls st (pR g a i.toNatClampNeg v)) := E_aast lo_X6_init rfl
theorem e_X6_init_69 {Q : mQ} {l0 : Value} {st : List Value} {g : mG} {x : Int32} : WP m_X6_init Q 69 [l0, .int x] st g = (nl1 l0 ∧ WP m_X6_init Q 72 [l0, .int (x + nI 1)] st g) := E_inc (i := 1) (d := nI 1) lo_X6_init rfl rfl
theorem e_X6_init_72 {Q : mQ} {ls st : List Value} {g : mG} : WP m_X6_init Q 72 ls st g = WP m_X6_init Q 47 ls st g := E_goto lo_X6_init rfl
theorem e_X6_init_75 {Q : mQ} {l1 : Value} {st : List Value} {g : mG} {x : Nat} : WP m_X6_init Q 75 [.ref x, l1] st g = WP m_X6_init Q 76 [.ref x, l1] (.ref x :: st) g := E_al (i := 0) (n := 1) lo_X6_init rfl rfl
theorem e_X6_init_76 {Q : mQ} {ls st : List Value} {g : mG} : WP m_X6_init Q 76 ls st g = ∃ a : Nat, (frsh g a ∧ (4 = 5 → gK g (a + 1) = 0) ∧ alv g ls ∧ alv g st) ∧ WP m_X6_init Q 79 ls (.ref a :: st) (nw g a 4 0 (xn 4) (fun _ => 0)) := E_new lo_X6_init rfl
theorem e_X6_init_79 {Q : mQ} {ls st : List Value} {g : mG} {x : Value} : WP m_X6_init Q 79 ls (x :: st) g = (cat1 x ∧ WP m_X6_init Q 80 ls (x :: x :: st) g) := E_dup lo_X6_init rfl
theorem e_X6_init_80 {Q : mQ} {ls st : List Value} {g : mG} {b : Nat} : WP m_X6_init Q 80 ls (.ref b :: st) g = (st.length ≤ 4 ∧ gK g b = 4 ∧ stbs g ls ∧ stbs g st ∧ w_X3_init [.ref b] g (fun v g' => WP m_X6_init Q 83 ls (v.toList ++ st) g')) := E_CV (ar := [.ref b]) lo_X6_init rfl rfl rfl (by decide)
theorem e_X6_init_83 {Q : mQ} {ls st : List Value} {g : mG} {a v : Nat} : WP m_X6_init Q 83 ls (.ref v :: .ref a :: st) g = ((gK g a = 7 ∧ ok1 g v ∧ v ≠ 0) ∧ WP m_X6_init Q 86 ls st (pR g a 6 v)) := E_pR lo_X6_init rfl
theorem e_X6_init_86 {Q : mQ} {ls : List Value} {g : mG} : WP m_X6_init Q 86 ls [] g = Q none g := E_ret lo_X6_init rfl
/-! KilnPermits.depth(ZI)I -/
def m_X6_depth : List (Nat × mT) := [(0, tD (f_il 2 1)),
  (1, tD (f_ic (nI 1) 1)),
  (2, tD (f_ic (nI 500) 3)),
  (5, tC w_X6_isWithin 0 3),
  (8, tI1 (fun x => ¬ x = 0) 14),
  (11, tD (f_ic ((-2)) 2)),
  (13, tR f_iret),
  (14, tD (f_ic (nI 0) 1)),
  (15, tD (f_is 3 1)),
  (16, tD (f_al 0 1)),
  (17, tD (f_gR 7 0)),
  (20, tD (f_gR 6 13)),
  (23, tD (f_as 4 2)),
  (25, tD (f_al 4 2)),
  (27, tD (f_alen)),
  (28, tD (f_is 5 2)),
  (30, tD (f_ic (nI 0) 1)),
  (31, tD (f_is 6 2)),
  (33, tD (f_il 6 2)),
  (35, tD (f_il 5 2)),
  (37, tI2 (fun x y => y ≤ x) 79),
  (40, tD (f_al 4 2)),
  (42, tD (f_il 6 2)),
  (44, tD (f_aald 15)),
  (45, tD (f_as 7 2)),
  (47, tD (f_al 7 2)),
  (49, tD (f_gI 3 1)),
  (52, tD (f_il 1 1)),
  (53, tI2 (fun x y => x = y) 73),
  (56, tD (f_al 7 2)),
  (58, tD (f_il 2 1)),
  (59, tC w_X2_isMetAt 3 2),
  (62, tI1 (fun x => x = 0) 73),
  (65, tD (f_il 3 1)),
  (66, tD (f_al 7 2)),
  (68, tD (f_gI 3 3)),
  (71, tD (f_b2 fun x y => x + y)),
  (72, tD (f_is 3 1)),
  (73, tD (f_inc 6 (nI 1))),
  (76, tD (f_goto 33)),
  (79, tD (f_il 3 1)),
  (80, tR f_iret)]
abbrev w_X6_depth : mS := wm m_X6_depth 3 5
set_option maxRecDepth 100000 in
theorem lo_X6_depth : locs_ok m_X6_depth := List.forall_mem_cons.mpr ⟨loc_D mo_il,
  List.forall_mem_cons.mpr ⟨loc_D mo_ic,
  List.forall_mem_cons.mpr ⟨loc_D mo_ic,
  List.forall_mem_cons.mpr ⟨loc_C sm_X6_isWithin.1,
  List.forall_mem_cons.mpr ⟨loc_I1,
  List.forall_mem_cons.mpr ⟨loc_D mo_ic,
  List.forall_mem_cons.mpr ⟨loc_R,
  List.forall_mem_cons.mpr ⟨loc_D mo_ic,
  List.forall_mem_cons.mpr ⟨loc_D mo_is,
  List.forall_mem_cons.mpr ⟨loc_D mo_al,
  List.forall_mem_cons.mpr ⟨loc_D mo_gR,
  List.forall_mem_cons.mpr ⟨loc_D mo_gR,
  List.forall_mem_cons.mpr ⟨loc_D mo_as,
  List.forall_mem_cons.mpr ⟨loc_D mo_al,
  List.forall_mem_cons.mpr ⟨loc_D mo_alen,
  List.forall_mem_cons.mpr ⟨loc_D mo_is,
  List.forall_mem_cons.mpr ⟨loc_D mo_ic,
  List.forall_mem_cons.mpr ⟨loc_D mo_is,
  List.forall_mem_cons.mpr ⟨loc_D mo_il,
  List.forall_mem_cons.mpr ⟨loc_D mo_il,
  List.forall_mem_cons.mpr ⟨loc_I2,
  List.forall_mem_cons.mpr ⟨loc_D mo_al,
  List.forall_mem_cons.mpr ⟨loc_D mo_il,
  List.forall_mem_cons.mpr ⟨loc_D mo_aald,
  List.forall_mem_cons.mpr ⟨loc_D mo_as,
  List.forall_mem_cons.mpr ⟨loc_D mo_al,
  List.forall_mem_cons.mpr ⟨loc_D mo_gI,
  List.forall_mem_cons.mpr ⟨loc_D mo_il,
  List.forall_mem_cons.mpr ⟨loc_I2,
  List.forall_mem_cons.mpr ⟨loc_D mo_al,
  List.forall_mem_cons.mpr ⟨loc_D mo_il,
  List.forall_mem_cons.mpr ⟨loc_C sm_X2_isMetAt.1,
  List.forall_mem_cons.mpr ⟨loc_I1,
  List.forall_mem_cons.mpr ⟨loc_D mo_il,
  List.forall_mem_cons.mpr ⟨loc_D mo_al,
  List.forall_mem_cons.mpr ⟨loc_D mo_gI,
  List.forall_mem_cons.mpr ⟨loc_D mo_b2,
  List.forall_mem_cons.mpr ⟨loc_D mo_is,
  List.forall_mem_cons.mpr ⟨loc_D mo_inc,
  List.forall_mem_cons.mpr ⟨loc_D mo_goto,
  List.forall_mem_cons.mpr ⟨loc_D mo_il,
  List.forall_mem_cons.mpr ⟨loc_R,
  fun _ h => absurd h List.not_mem_nil⟩⟩⟩⟩⟩⟩⟩⟩⟩⟩⟩⟩⟩⟩⟩⟩⟩⟩⟩⟩⟩⟩⟩⟩⟩⟩⟩⟩⟩⟩⟩⟩⟩⟩⟩⟩⟩⟩⟩⟩⟩⟩
set_option maxRecDepth 100000 in
theorem sm_X6_depth : SM yX6_depth cX6_depth 8 (some .int) 2 w_X6_depth := SM_of' RX6 "depth" rfl rfl (by decide) (by decide) (by decide) lo_X6_depth (List.forall_mem_cons.mpr ⟨STP.r mo_il (q_iload_n dX6_depth_0 rfl),
  List.forall_mem_cons.mpr ⟨STP.r mo_ic (q_iconst dX6_depth_1 (by decide)),
  List.forall_mem_cons.mpr ⟨STP.r mo_ic (q_sipush dX6_depth_2 (by decide)),
  List.forall_mem_cons.mpr ⟨(snd_CS sm_X6_isWithin km_X6_37 ks_X6_isWithin ki_X6 kx_X6_isWithin ⟨by decide, by decide, by decide +kernel⟩ (by decide) (by decide) dX6_depth_5).r,
  List.forall_mem_cons.mpr ⟨(q_if_ne dX6_depth_8 (by decide)).r,
  List.forall_mem_cons.mpr ⟨STP.r mo_ic (q_bipush dX6_depth_11 (by decide)),
  List.forall_mem_cons.mpr ⟨r_iret dX6_depth_13,
  List.forall_mem_cons.mpr ⟨STP.r mo_ic (q_iconst dX6_depth_14 (by decide)),
  List.forall_mem_cons.mpr ⟨STP.r mo_is (q_istore_n dX6_depth_15 rfl),
  List.forall_mem_cons.mpr ⟨STP.r mo_al (q_aload_n dX6_depth_16 rfl),
  List.forall_mem_cons.mpr ⟨STP.r mo_gR (q_gR ⟨by decide, by decide⟩ (by decide) rfl (by decide) kf_X6_12 dX6_depth_17),
  List.forall_mem_cons.mpr ⟨STP.r mo_gR (q_gR ⟨by decide, by decide⟩ (by decide) rfl (by decide) kf_X6_198 dX6_depth_20),
  List.forall_mem_cons.mpr ⟨STP.r mo_as (q_astore dX6_depth_23),
  List.forall_mem_cons.mpr ⟨STP.r mo_al (q_aload dX6_depth_25),
  List.forall_mem_cons.mpr ⟨STP.r mo_alen (q_alen dX6_depth_27),
  List.forall_mem_cons.mpr ⟨STP.r mo_is (q_istore dX6_depth_28),
  List.forall_mem_cons.mpr ⟨STP.r mo_ic (q_iconst dX6_depth_30 (by decide)),
  List.forall_mem_cons.mpr ⟨STP.r mo_is (q_istore dX6_depth_31),
  List.forall_mem_cons.mpr ⟨STP.r mo_il (q_iload dX6_depth_33),
  List.forall_mem_cons.mpr ⟨STP.r mo_il (q_iload dX6_depth_35),
  List.forall_mem_cons.mpr ⟨(q_ic_ge dX6_depth_37 (by decide)).r,
  List.forall_mem_cons.mpr ⟨STP.r mo_al (q_aload dX6_depth_40),
  List.forall_mem_cons.mpr ⟨STP.r mo_il (q_iload dX6_depth_42),
  List.forall_mem_cons.mpr ⟨STP.r mo_aald (q_aald ⟨by decide, by decide⟩ dX6_depth_44),
  List.forall_mem_cons.mpr ⟨STP.r mo_as (q_astore dX6_depth_45),
  List.forall_mem_cons.mpr ⟨STP.r mo_al (q_aload dX6_depth_47),
  List.forall_mem_cons.mpr ⟨STP.r mo_gI (q_gI ⟨by decide, by decide⟩ (by decide) rfl kf_X6_202 dX6_depth_49),
  List.forall_mem_cons.mpr ⟨STP.r mo_il (q_iload_n dX6_depth_52 rfl),
  List.forall_mem_cons.mpr ⟨(q_ic_eq dX6_depth_53 (by decide)).r,
  List.forall_mem_cons.mpr ⟨STP.r mo_al (q_aload dX6_depth_56),
  List.forall_mem_cons.mpr ⟨STP.r mo_il (q_iload_n dX6_depth_58 rfl),
  List.forall_mem_cons.mpr ⟨(snd_CV sm_X2_isMetAt ⟨by decide, by decide⟩ rfl km_X6_203 kt_X2_isMetAt kv_X2_isMetAt rfl ki_X2 kx_X2_isMetAt ⟨by decide, by decide, by decide +kernel⟩ (by decide) (by decide) dX6_depth_59).r,
  List.forall_mem_cons.mpr ⟨(q_if_eq dX6_depth_62 (by decide)).r,
  List.forall_mem_cons.mpr ⟨STP.r mo_il (q_iload_n dX6_depth_65 rfl),
  List.forall_mem_cons.mpr ⟨STP.r mo_al (q_aload dX6_depth_66),
  List.forall_mem_cons.mpr ⟨STP.r mo_gI (q_gI ⟨by decide, by decide⟩ (by decide) rfl kf_X6_114 dX6_depth_68),
  List.forall_mem_cons.mpr ⟨STP.r mo_b2 (q_iadd dX6_depth_71),
  List.forall_mem_cons.mpr ⟨STP.r mo_is (q_istore_n dX6_depth_72 rfl),
  List.forall_mem_cons.mpr ⟨STP.r mo_inc (q_inc dX6_depth_73 (by decide)),
  List.forall_mem_cons.mpr ⟨STP.r mo_goto (q_goto dX6_depth_76 (by decide)),
  List.forall_mem_cons.mpr ⟨STP.r mo_il (q_iload_n dX6_depth_79 rfl),
  List.forall_mem_cons.mpr ⟨r_iret dX6_depth_80,
  fun _ h => absurd h List.not_mem_nil⟩⟩⟩⟩⟩⟩⟩⟩⟩⟩⟩⟩⟩⟩⟩⟩⟩⟩⟩⟩⟩⟩⟩⟩⟩⟩⟩⟩⟩⟩⟩⟩⟩⟩⟩⟩⟩⟩⟩⟩⟩⟩)
theorem e_X6_depth_0 {Q : mQ} {l0 l1 l3 l4 l5 l6 l7 : Value} {st : List Value} {g : mG} {x : Int32} : WP m_X6_depth Q 0 [l0, l1, .int x, l3, l4, l5, l6, l7] st g = WP m_X6_depth Q 1 [l0, l1, .int x, l3, l4, l5, l6, l7] (.int x :: st) g := E_il (i := 2) (n := 1) lo_X6_depth rfl rfl
theorem e_X6_depth_1 {Q : mQ} {ls st : List Value} {g : mG} : WP m_X6_depth Q 1 ls st g = WP m_X6_depth Q 2 ls (.int (nI 1) :: st) g := E_ic (v := nI 1) (n := 1) lo_X6_depth rfl
theorem e_X6_depth_2 {Q : mQ} {ls st : List Value} {g : mG} : WP m_X6_depth Q 2 ls st g = WP m_X6_depth Q 5 ls (.int (nI 500) :: st) g := E_ic (v := nI 500) (n := 3) lo_X6_depth rfl
theorem e_X6_depth_5 {Q : mQ} {ls st : List Value} {g : mG} {a0 a1 a2 : Value} : WP m_X6_depth Q 5 ls (a2 :: a1 :: a0 :: st) g = (st.length ≤ 4 ∧ stbs g ls ∧ stbs g st ∧ w_X6_isWithin [a0, a1, a2] g (fun v g' => WP m_X6_depth Q 8 ls (v.toList ++ st) g')) := E_CS (ar := [a2, a1, a0]) lo_X6_depth rfl rfl rfl
theorem e_X6_depth_8 {Q : mQ} {ls st : List Value} {g : mG} {x : Int32} : WP m_X6_depth Q 8 ls (.int x :: st) g = ((¬ x = 0 → WP m_X6_depth Q 14 ls st g) ∧ (¬ (¬ x = 0) → WP m_X6_depth Q 11 ls st g)) := E_I1 (c := fun x => ¬ x = 0) (t := 14) lo_X6_depth rfl
theorem e_X6_depth_11 {Q : mQ} {ls st : List Value} {g : mG} : WP m_X6_depth Q 11 ls st g = WP m_X6_depth Q 13 ls (.int ((-2)) :: st) g := E_ic (v := (-2)) (n := 2) lo_X6_depth rfl
theorem e_X6_depth_13 {Q : mQ} {ls : List Value} {g : mG} {v : Int32} : WP m_X6_depth Q 13 ls [.int v] g = Q (some (.int v)) g := E_iret lo_X6_depth rfl
theorem e_X6_depth_14 {Q : mQ} {ls st : List Value} {g : mG} : WP m_X6_depth Q 14 ls st g = WP m_X6_depth Q 15 ls (.int (nI 0) :: st) g := E_ic (v := nI 0) (n := 1) lo_X6_depth rfl
theorem e_X6_depth_15 {Q : mQ} {l0 l1 l2 l3 l4 l5 l6 l7 : Value} {st : List Value} {g : mG} {x : Int32} : WP m_X6_depth Q 15 [l0, l1, l2, l3, l4, l5, l6, l7] (.int x :: st) g = (nl1 l2 ∧ WP m_X6_depth Q 16 [l0, l1, l2, .int x, l4, l5, l6, l7] st g) := E_is (i := 3) (n := 1) lo_X6_depth rfl (Nat.le_of_ble_eq_true rfl)
theorem e_X6_depth_16 {Q : mQ} {l1 l2 l3 l4 l5 l6 l7 : Value} {st : List Value} {g : mG} {x : Nat} : WP m_X6_depth Q 16 [.ref x, l1, l2, l3, l4, l5, l6, l7] st g = WP m_X6_depth Q 17 [.ref x, l1, l2, l3, l4, l5, l6, l7] (.ref x :: st) g := E_al (i := 0) (n := 1) lo_X6_depth rfl rfl
theorem e_X6_depth_17 {Q : mQ} {ls st : List Value} {g : mG} {a : Nat} : WP m_X6_depth Q 17 ls (.ref a :: st) g = ((gK g a = 7 ∧ gR g a 0 ≠ 0) ∧ WP m_X6_depth Q 20 ls (.ref (gR g a 0) :: st) g) := E_gR lo_X6_depth rfl
theorem e_X6_depth_20 {Q : mQ} {ls st : List Value} {g : mG} {a : Nat} : WP m_X6_depth Q 20 ls (.ref a :: st) g = ((gK g a = 6 ∧ gR g a 13 ≠ 0) ∧ WP m_X6_depth Q 23 ls (.ref (gR g a 13) :: st) g) := E_gR lo_X6_depth rfl
theorem e_X6_depth_23 {Q : mQ} {l0 l1 l2 l3 l4 l5 l6 l7 : Value} {st : List Value} {g : mG} {x : Nat} : WP m_X6_depth Q 23 [l0, l1, l2, l3, l4, l5, l6, l7] (.ref x :: st) g = (nl1 l3 ∧ WP m_X6_depth Q 25 [l0, l1, l2, l3, .ref x, l5, l6, l7] st g) := E_as (i := 4) (n := 2) lo_X6_depth rfl (Nat.le_of_ble_eq_true rfl)
theorem e_X6_depth_23n {Q : mQ} {l0 l1 l2 l3 l4 l5 l6 l7 : Value} {st : List Value} {g : mG} : WP m_X6_depth Q 23 [l0, l1, l2, l3, l4, l5, l6, l7] (.null :: st) g = (nl1 l3 ∧ WP m_X6_depth Q 25 [l0, l1, l2, l3, .null, l5, l6, l7] st g) := E_asn (i := 4) (n := 2) lo_X6_depth rfl (Nat.le_of_ble_eq_true rfl)
theorem e_X6_depth_25 {Q : mQ} {l0 l1 l2 l3 l5 l6 l7 : Value} {st : List Value} {g : mG} {x : Nat} : WP m_X6_depth Q 25 [l0, l1, l2, l3, .ref x, l5, l6, l7] st g = WP m_X6_depth Q 27 [l0, l1, l2, l3, .ref x, l5, l6, l7] (.ref x :: st) g := E_al (i := 4) (n := 2) lo_X6_depth rfl rfl
theorem e_X6_depth_25n {Q : mQ} {l0 l1 l2 l3 l5 l6 l7 : Value} {st : List Value} {g : mG} : WP m_X6_depth Q 25 [l0, l1, l2, l3, .null, l5, l6, l7] st g = WP m_X6_depth Q 27 [l0, l1, l2, l3, .null, l5, l6, l7] (.null :: st) g := E_aln (i := 4) (n := 2) lo_X6_depth rfl rfl
theorem e_X6_depth_27 {Q : mQ} {ls st : List Value} {g : mG} {a : Nat} : WP m_X6_depth Q 27 ls (.ref a :: st) g = ((10 ≤ gK g a ∧ gK g a ≤ 17) ∧ WP m_X6_depth Q 28 ls (.int (nI (gN g a)) :: st) g) := E_alen lo_X6_depth rfl
theorem e_X6_depth_28 {Q : mQ} {l0 l1 l2 l3 l4 l5 l6 l7 : Value} {st : List Value} {g : mG} {x : Int32} : WP m_X6_depth Q 28 [l0, l1, l2, l3, l4, l5, l6, l7] (.int x :: st) g = (nl1 l4 ∧ WP m_X6_depth Q 30 [l0, l1, l2, l3, l4, .int x, l6, l7] st g) := E_is (i := 5) (n := 2) lo_X6_depth rfl (Nat.le_of_ble_eq_true rfl)
theorem e_X6_depth_30 {Q : mQ} {ls st : List Value} {g : mG} : WP m_X6_depth Q 30 ls st g = WP m_X6_depth Q 31 ls (.int (nI 0) :: st) g := E_ic (v := nI 0) (n := 1) lo_X6_depth rfl
theorem e_X6_depth_31 {Q : mQ} {l0 l1 l2 l3 l4 l5 l6 l7 : Value} {st : List Value} {g : mG} {x : Int32} : WP m_X6_depth Q 31 [l0, l1, l2, l3, l4, l5, l6, l7] (.int x :: st) g = (nl1 l5 ∧ WP m_X6_depth Q 33 [l0, l1, l2, l3, l4, l5, .int x, l7] st g) := E_is (i := 6) (n := 2) lo_X6_depth rfl (Nat.le_of_ble_eq_true rfl)
theorem e_X6_depth_33 {Q : mQ} {l0 l1 l2 l3 l4 l5 l7 : Value} {st : List Value} {g : mG} {x : Int32} : WP m_X6_depth Q 33 [l0, l1, l2, l3, l4, l5, .int x, l7] st g = WP m_X6_depth Q 35 [l0, l1, l2, l3, l4, l5, .int x, l7] (.int x :: st) g := E_il (i := 6) (n := 2) lo_X6_depth rfl rfl
theorem e_X6_depth_35 {Q : mQ} {l0 l1 l2 l3 l4 l6 l7 : Value} {st : List Value} {g : mG} {x : Int32} : WP m_X6_depth Q 35 [l0, l1, l2, l3, l4, .int x, l6, l7] st g = WP m_X6_depth Q 37 [l0, l1, l2, l3, l4, .int x, l6, l7] (.int x :: st) g := E_il (i := 5) (n := 2) lo_X6_depth rfl rfl
theorem e_X6_depth_37 {Q : mQ} {ls st : List Value} {g : mG} {x y : Int32} : WP m_X6_depth Q 37 ls (.int y :: .int x :: st) g = ((y ≤ x → WP m_X6_depth Q 79 ls st g) ∧ (¬ (y ≤ x) → WP m_X6_depth Q 40 ls st g)) := E_I2 (c := fun x y => y ≤ x) (t := 79) lo_X6_depth rfl
theorem e_X6_depth_40 {Q : mQ} {l0 l1 l2 l3 l5 l6 l7 : Value} {st : List Value} {g : mG} {x : Nat} : WP m_X6_depth Q 40 [l0, l1, l2, l3, .ref x, l5, l6, l7] st g = WP m_X6_depth Q 42 [l0, l1, l2, l3, .ref x, l5, l6, l7] (.ref x :: st) g := E_al (i := 4) (n := 2) lo_X6_depth rfl rfl
theorem e_X6_depth_40n {Q : mQ} {l0 l1 l2 l3 l5 l6 l7 : Value} {st : List Value} {g : mG} : WP m_X6_depth Q 40 [l0, l1, l2, l3, .null, l5, l6, l7] st g = WP m_X6_depth Q 42 [l0, l1, l2, l3, .null, l5, l6, l7] (.null :: st) g := E_aln (i := 4) (n := 2) lo_X6_depth rfl rfl
theorem e_X6_depth_42 {Q : mQ} {l0 l1 l2 l3 l4 l5 l7 : Value} {st : List Value} {g : mG} {x : Int32} : WP m_X6_depth Q 42 [l0, l1, l2, l3, l4, l5, .int x, l7] st g = WP m_X6_depth Q 44 [l0, l1, l2, l3, l4, l5, .int x, l7] (.int x :: st) g := E_il (i := 6) (n := 2) lo_X6_depth rfl rfl
theorem e_X6_depth_44 {Q : mQ} {ls st : List Value} {g : mG} {a : Nat} {i : Int32} : WP m_X6_depth Q 44 ls (.int i :: .ref a :: st) g = ((gK g a = 15 ∧ vp_in i (gN g a) ∧ gR g a i.toNatClampNeg ≠ 0) ∧ WP m_X6_depth Q 45 ls (.ref (gR g a i.toNatClampNeg) :: st) g) := E_aald lo_X6_depth rfl
theorem e_X6_depth_45 {Q : mQ} {l0 l1 l2 l3 l4 l5 l6 l7 : Value} {st : List Value} {g : mG} {x : Nat} : WP m_X6_depth Q 45 [l0, l1, l2, l3, l4, l5, l6, l7] (.ref x :: st) g = (nl1 l6 ∧ WP m_X6_depth Q 47 [l0, l1, l2, l3, l4, l5, l6, .ref x] st g) := E_as (i := 7) (n := 2) lo_X6_depth rfl (Nat.le_of_ble_eq_true rfl)
theorem e_X6_depth_45n {Q : mQ} {l0 l1 l2 l3 l4 l5 l6 l7 : Value} {st : List Value} {g : mG} : WP m_X6_depth Q 45 [l0, l1, l2, l3, l4, l5, l6, l7] (.null :: st) g = (nl1 l6 ∧ WP m_X6_depth Q 47 [l0, l1, l2, l3, l4, l5, l6, .null] st g) := E_asn (i := 7) (n := 2) lo_X6_depth rfl (Nat.le_of_ble_eq_true rfl)
theorem e_X6_depth_47 {Q : mQ} {l0 l1 l2 l3 l4 l5 l6 : Value} {st : List Value} {g : mG} {x : Nat} : WP m_X6_depth Q 47 [l0, l1, l2, l3, l4, l5, l6, .ref x] st g = WP m_X6_depth Q 49 [l0, l1, l2, l3, l4, l5, l6, .ref x] (.ref x :: st) g := E_al (i := 7) (n := 2) lo_X6_depth rfl rfl
theorem e_X6_depth_47n {Q : mQ} {l0 l1 l2 l3 l4 l5 l6 : Value} {st : List Value} {g : mG} : WP m_X6_depth Q 47 [l0, l1, l2, l3, l4, l5, l6, .null] st g = WP m_X6_depth Q 49 [l0, l1, l2, l3, l4, l5, l6, .null] (.null :: st) g := E_aln (i := 7) (n := 2) lo_X6_depth rfl rfl
theorem e_X6_depth_49 {Q : mQ} {ls st : List Value} {g : mG} {a : Nat} : WP m_X6_depth Q 49 ls (.ref a :: st) g = (gK g a = 3 ∧ WP m_X6_depth Q 52 ls (.int (gI g a 1) :: st) g) := E_gI lo_X6_depth rfl
theorem e_X6_depth_52 {Q : mQ} {l0 l2 l3 l4 l5 l6 l7 : Value} {st : List Value} {g : mG} {x : Int32} : WP m_X6_depth Q 52 [l0, .int x, l2, l3, l4, l5, l6, l7] st g = WP m_X6_depth Q 53 [l0, .int x, l2, l3, l4, l5, l6, l7] (.int x :: st) g := E_il (i := 1) (n := 1) lo_X6_depth rfl rfl
theorem e_X6_depth_53 {Q : mQ} {ls st : List Value} {g : mG} {x y : Int32} : WP m_X6_depth Q 53 ls (.int y :: .int x :: st) g = ((x = y → WP m_X6_depth Q 73 ls st g) ∧ (¬ (x = y) → WP m_X6_depth Q 56 ls st g)) := E_I2 (c := fun x y => x = y) (t := 73) lo_X6_depth rfl
theorem e_X6_depth_56 {Q : mQ} {l0 l1 l2 l3 l4 l5 l6 : Value} {st : List Value} {g : mG} {x : Nat} : WP m_X6_depth Q 56 [l0, l1, l2, l3, l4, l5, l6, .ref x] st g = WP m_X6_depth Q 58 [l0, l1, l2, l3, l4, l5, l6, .ref x] (.ref x :: st) g := E_al (i := 7) (n := 2) lo_X6_depth rfl rfl
theorem e_X6_depth_56n {Q : mQ} {l0 l1 l2 l3 l4 l5 l6 : Value} {st : List Value} {g : mG} : WP m_X6_depth Q 56 [l0, l1, l2, l3, l4, l5, l6, .null] st g = WP m_X6_depth Q 58 [l0, l1, l2, l3, l4, l5, l6, .null] (.null :: st) g := E_aln (i := 7) (n := 2) lo_X6_depth rfl rfl
theorem e_X6_depth_58 {Q : mQ} {l0 l1 l3 l4 l5 l6 l7 : Value} {st : List Value} {g : mG} {x : Int32} : WP m_X6_depth Q 58 [l0, l1, .int x, l3, l4, l5, l6, l7] st g = WP m_X6_depth Q 59 [l0, l1, .int x, l3, l4, l5, l6, l7] (.int x :: st) g := E_il (i := 2) (n := 1) lo_X6_depth rfl rfl
theorem e_X6_depth_59 {Q : mQ} {ls st : List Value} {g : mG} {b : Nat} {a0 : Value} : WP m_X6_depth Q 59 ls (a0 :: .ref b :: st) g = (st.length ≤ 4 ∧ gK g b = 3 ∧ stbs g ls ∧ stbs g st ∧ w_X2_isMetAt [.ref b, a0] g (fun v g' => WP m_X6_depth Q 62 ls (v.toList ++ st) g')) := E_CV (ar := [a0, .ref b]) lo_X6_depth rfl rfl rfl (by decide)
theorem e_X6_depth_62 {Q : mQ} {ls st : List Value} {g : mG} {x : Int32} : WP m_X6_depth Q 62 ls (.int x :: st) g = ((x = 0 → WP m_X6_depth Q 73 ls st g) ∧ (¬ (x = 0) → WP m_X6_depth Q 65 ls st g)) := E_I1 (c := fun x => x = 0) (t := 73) lo_X6_depth rfl
theorem e_X6_depth_65 {Q : mQ} {l0 l1 l2 l4 l5 l6 l7 : Value} {st : List Value} {g : mG} {x : Int32} : WP m_X6_depth Q 65 [l0, l1, l2, .int x, l4, l5, l6, l7] st g = WP m_X6_depth Q 66 [l0, l1, l2, .int x, l4, l5, l6, l7] (.int x :: st) g := E_il (i := 3) (n := 1) lo_X6_depth rfl rfl
theorem e_X6_depth_66 {Q : mQ} {l0 l1 l2 l3 l4 l5 l6 : Value} {st : List Value} {g : mG} {x : Nat} : WP m_X6_depth Q 66 [l0, l1, l2, l3, l4, l5, l6, .ref x] st g = WP m_X6_depth Q 68 [l0, l1, l2, l3, l4, l5, l6, .ref x] (.ref x :: st) g := E_al (i := 7) (n := 2) lo_X6_depth rfl rfl
theorem e_X6_depth_66n {Q : mQ} {l0 l1 l2 l3 l4 l5 l6 : Value} {st : List Value} {g : mG} : WP m_X6_depth Q 66 [l0, l1, l2, l3, l4, l5, l6, .null] st g = WP m_X6_depth Q 68 [l0, l1, l2, l3, l4, l5, l6, .null] (.null :: st) g := E_aln (i := 7) (n := 2) lo_X6_depth rfl rfl
theorem e_X6_depth_68 {Q : mQ} {ls st : List Value} {g : mG} {a : Nat} : WP m_X6_depth Q 68 ls (.ref a :: st) g = (gK g a = 3 ∧ WP m_X6_depth Q 71 ls (.int (gI g a 3) :: st) g) := E_gI lo_X6_depth rfl
theorem e_X6_depth_71 {Q : mQ} {ls st : List Value} {g : mG} {x y : Int32} : WP m_X6_depth Q 71 ls (.int y :: .int x :: st) g = WP m_X6_depth Q 72 ls (.int (x + y) :: st) g := E_b2 (f := fun x y => x + y) lo_X6_depth rfl
theorem e_X6_depth_72 {Q : mQ} {l0 l1 l2 l3 l4 l5 l6 l7 : Value} {st : List Value} {g : mG} {x : Int32} : WP m_X6_depth Q 72 [l0, l1, l2, l3, l4, l5, l6, l7] (.int x :: st) g = (nl1 l2 ∧ WP m_X6_depth Q 73 [l0, l1, l2, .int x, l4, l5, l6, l7] st g) := E_is (i := 3) (n := 1) lo_X6_depth rfl (Nat.le_of_ble_eq_true rfl)
theorem e_X6_depth_73 {Q : mQ} {l0 l1 l2 l3 l4 l5 l7 : Value} {st : List Value} {g : mG} {x : Int32} : WP m_X6_depth Q 73 [l0, l1, l2, l3, l4, l5, .int x, l7] st g = (nl1 l5 ∧ WP m_X6_depth Q 76 [l0, l1, l2, l3, l4, l5, .int (x + nI 1), l7] st g) := E_inc (i := 6) (d := nI 1) lo_X6_depth rfl rfl
theorem e_X6_depth_76 {Q : mQ} {ls st : List Value} {g : mG} : WP m_X6_depth Q 76 ls st g = WP m_X6_depth Q 33 ls st g := E_goto lo_X6_depth rfl
theorem e_X6_depth_79 {Q : mQ} {l0 l1 l2 l4 l5 l6 l7 : Value} {st : List Value} {g : mG} {x : Int32} : WP m_X6_depth Q 79 [l0, l1, l2, .int x, l4, l5, l6, l7] st g = WP m_X6_depth Q 80 [l0, l1, l2, .int x, l4, l5, l6, l7] (.int x :: st) g := E_il (i := 3) (n := 1) lo_X6_depth rfl rfl
theorem e_X6_depth_80 {Q : mQ} {ls : List Value} {g : mG} {v : Int32} : WP m_X6_depth Q 80 ls [.int v] g = Q (some (.int v)) g := E_iret lo_X6_depth rfl
/-! KilnPermits.undo()I -/
def m_X6_undo : List (Nat × mT) := [(0, tD (f_al 0 1)),
  (1, tD (f_gI 7 5)),
  (4, tI1 (fun x => ¬ x = 0) 10),
  (7, tD (f_ic ((-5)) 2)),
  (9, tR f_iret),
  (10, tD (f_al 0 1)),
  (11, tD (f_gR 7 4)),
  (14, tD (f_ic (nI 0) 1)),
  (15, tD (f_aald 17)),
  (16, tD (f_as 1 1)),
  (17, tD (f_ic (nI 1) 1)),
  (18, tD (f_is 2 1)),
  (19, tD (f_il 2 1)),
  (20, tD (f_al 0 1)),
  (21, tD (f_gR 7 4)),
  (24, tD (f_alen)),
  (25, tI2 (fun x y => y ≤ x) 48),
  (28, tD (f_al 0 1)),
  (29, tD (f_gR 7 4)),
  (32, tD (f_il 2 1)),
  (33, tD (f_ic (nI 1) 1)),
  (34, tD (f_b2 fun x y => x - y)),
  (35, tD (f_al 0 1)),
  (36, tD (f_gR 7 4)),
  (39, tD (f_il 2 1)),
  (40, tD (f_aald 17)),
  (41, tD (f_aast 17 (ekd 17))),
  (42, tD (f_inc 2 (nI 1))),
  (45, tD (f_goto 19)),
  (48, tD (f_al 0 1)),
  (49, tD (f_gR 7 4)),
  (52, tD (f_al 0 1)),
  (53, tD (f_gR 7 4)),
  (56, tD (f_alen)),
  (57, tD (f_ic (nI 1) 1)),
  (58, tD (f_b2 fun x y => x - y)),
  (59, tD (f_al 0 1)),
  (60, tD (f_gR 7 0)),
  (63, tD (f_aast 17 (ekd 17))),
  (64, tD (f_al 0 1)),
  (65, tD (f_al 1 1)),
  (66, tD (f_pR 7 0)),
  (69, tD (f_al 0 1)),
  (70, tD (f_dup)),
  (71, tD (f_gI 7 5)),
  (74, tD (f_ic (nI 1) 1)),
  (75, tD (f_b2 fun x y => x - y)),
  (76, tD (f_pI 7 5)),
  (79, tD (f_al 0 1)),
  (80, tD (f_gI 7 5)),
  (83, tR f_iret)]
abbrev w_X6_undo : mS := wm m_X6_undo 1 2
set_option maxRecDepth 100000 in
theorem lo_X6_undo : locs_ok m_X6_undo := List.forall_mem_cons.mpr ⟨loc_D mo_al,
  List.forall_mem_cons.mpr ⟨loc_D mo_gI,
  List.forall_mem_cons.mpr ⟨loc_I1,
  List.forall_mem_cons.mpr ⟨loc_D mo_ic,
  List.forall_mem_cons.mpr ⟨loc_R,
  List.forall_mem_cons.mpr ⟨loc_D mo_al,
  List.forall_mem_cons.mpr ⟨loc_D mo_gR,
  List.forall_mem_cons.mpr ⟨loc_D mo_ic,
  List.forall_mem_cons.mpr ⟨loc_D mo_aald,
  List.forall_mem_cons.mpr ⟨loc_D mo_as,
  List.forall_mem_cons.mpr ⟨loc_D mo_ic,
  List.forall_mem_cons.mpr ⟨loc_D mo_is,
  List.forall_mem_cons.mpr ⟨loc_D mo_il,
  List.forall_mem_cons.mpr ⟨loc_D mo_al,
  List.forall_mem_cons.mpr ⟨loc_D mo_gR,
  List.forall_mem_cons.mpr ⟨loc_D mo_alen,
  List.forall_mem_cons.mpr ⟨loc_I2,
  List.forall_mem_cons.mpr ⟨loc_D mo_al,
  List.forall_mem_cons.mpr ⟨loc_D mo_gR,
  List.forall_mem_cons.mpr ⟨loc_D mo_il,
  List.forall_mem_cons.mpr ⟨loc_D mo_ic,
  List.forall_mem_cons.mpr ⟨loc_D mo_b2,
  List.forall_mem_cons.mpr ⟨loc_D mo_al,
  List.forall_mem_cons.mpr ⟨loc_D mo_gR,
  List.forall_mem_cons.mpr ⟨loc_D mo_il,
  List.forall_mem_cons.mpr ⟨loc_D mo_aald,
  List.forall_mem_cons.mpr ⟨loc_D mo_aast,
  List.forall_mem_cons.mpr ⟨loc_D mo_inc,
  List.forall_mem_cons.mpr ⟨loc_D mo_goto,
  List.forall_mem_cons.mpr ⟨loc_D mo_al,
  List.forall_mem_cons.mpr ⟨loc_D mo_gR,
  List.forall_mem_cons.mpr ⟨loc_D mo_al,
  List.forall_mem_cons.mpr ⟨loc_D mo_gR,
  List.forall_mem_cons.mpr ⟨loc_D mo_alen,
  List.forall_mem_cons.mpr ⟨loc_D mo_ic,
  List.forall_mem_cons.mpr ⟨loc_D mo_b2,
  List.forall_mem_cons.mpr ⟨loc_D mo_al,
  List.forall_mem_cons.mpr ⟨loc_D mo_gR,
  List.forall_mem_cons.mpr ⟨loc_D mo_aast,
  List.forall_mem_cons.mpr ⟨loc_D mo_al,
  List.forall_mem_cons.mpr ⟨loc_D mo_al,
  List.forall_mem_cons.mpr ⟨loc_D mo_pR,
  List.forall_mem_cons.mpr ⟨loc_D mo_al,
  List.forall_mem_cons.mpr ⟨loc_D mo_dup,
  List.forall_mem_cons.mpr ⟨loc_D mo_gI,
  List.forall_mem_cons.mpr ⟨loc_D mo_ic,
  List.forall_mem_cons.mpr ⟨loc_D mo_b2,
  List.forall_mem_cons.mpr ⟨loc_D mo_pI,
  List.forall_mem_cons.mpr ⟨loc_D mo_al,
  List.forall_mem_cons.mpr ⟨loc_D mo_gI,
  List.forall_mem_cons.mpr ⟨loc_R,
  fun _ h => absurd h List.not_mem_nil⟩⟩⟩⟩⟩⟩⟩⟩⟩⟩⟩⟩⟩⟩⟩⟩⟩⟩⟩⟩⟩⟩⟩⟩⟩⟩⟩⟩⟩⟩⟩⟩⟩⟩⟩⟩⟩⟩⟩⟩⟩⟩⟩⟩⟩⟩⟩⟩⟩⟩⟩
set_option maxRecDepth 100000 in
theorem sm_X6_undo : SM yX6_undo cX6_undo 3 (some .int) 1 w_X6_undo := SM_of' RX6 "undo" rfl rfl (by decide) (by decide) (by decide) lo_X6_undo (List.forall_mem_cons.mpr ⟨STP.r mo_al (q_aload_n dX6_undo_0 rfl),
  List.forall_mem_cons.mpr ⟨STP.r mo_gI (q_gI ⟨by decide, by decide⟩ (by decide) rfl kf_X6_153 dX6_undo_1),
  List.forall_mem_cons.mpr ⟨(q_if_ne dX6_undo_4 (by decide)).r,
  List.forall_mem_cons.mpr ⟨STP.r mo_ic (q_bipush dX6_undo_7 (by decide)),
  List.forall_mem_cons.mpr ⟨r_iret dX6_undo_9,
  List.forall_mem_cons.mpr ⟨STP.r mo_al (q_aload_n dX6_undo_10 rfl),
  List.forall_mem_cons.mpr ⟨STP.r mo_gR (q_gR ⟨by decide, by decide⟩ (by decide) rfl (by decide) kf_X6_22 dX6_undo_11),
  List.forall_mem_cons.mpr ⟨STP.r mo_ic (q_iconst dX6_undo_14 (by decide)),
  List.forall_mem_cons.mpr ⟨STP.r mo_aald (q_aald ⟨by decide, by decide⟩ dX6_undo_15),
  List.forall_mem_cons.mpr ⟨STP.r mo_as (q_astore_n dX6_undo_16 rfl),
  List.forall_mem_cons.mpr ⟨STP.r mo_ic (q_iconst dX6_undo_17 (by decide)),
  List.forall_mem_cons.mpr ⟨STP.r mo_is (q_istore_n dX6_undo_18 rfl),
  List.forall_mem_cons.mpr ⟨STP.r mo_il (q_iload_n dX6_undo_19 rfl),
  List.forall_mem_cons.mpr ⟨STP.r mo_al (q_aload_n dX6_undo_20 rfl),
  List.forall_mem_cons.mpr ⟨STP.r mo_gR (q_gR ⟨by decide, by decide⟩ (by decide) rfl (by decide) kf_X6_22 dX6_undo_21),
  List.forall_mem_cons.mpr ⟨STP.r mo_alen (q_alen dX6_undo_24),
  List.forall_mem_cons.mpr ⟨(q_ic_ge dX6_undo_25 (by decide)).r,
  List.forall_mem_cons.mpr ⟨STP.r mo_al (q_aload_n dX6_undo_28 rfl),
  List.forall_mem_cons.mpr ⟨STP.r mo_gR (q_gR ⟨by decide, by decide⟩ (by decide) rfl (by decide) kf_X6_22 dX6_undo_29),
  List.forall_mem_cons.mpr ⟨STP.r mo_il (q_iload_n dX6_undo_32 rfl),
  List.forall_mem_cons.mpr ⟨STP.r mo_ic (q_iconst dX6_undo_33 (by decide)),
  List.forall_mem_cons.mpr ⟨STP.r mo_b2 (q_isub dX6_undo_34),
  List.forall_mem_cons.mpr ⟨STP.r mo_al (q_aload_n dX6_undo_35 rfl),
  List.forall_mem_cons.mpr ⟨STP.r mo_gR (q_gR ⟨by decide, by decide⟩ (by decide) rfl (by decide) kf_X6_22 dX6_undo_36),
  List.forall_mem_cons.mpr ⟨STP.r mo_il (q_iload_n dX6_undo_39 rfl),
  List.forall_mem_cons.mpr ⟨STP.r mo_aald (q_aald ⟨by decide, by decide⟩ dX6_undo_40),
  List.forall_mem_cons.mpr ⟨STP.r mo_aast (q_aast ⟨by decide, by decide⟩ dX6_undo_41),
  List.forall_mem_cons.mpr ⟨STP.r mo_inc (q_inc dX6_undo_42 (by decide)),
  List.forall_mem_cons.mpr ⟨STP.r mo_goto (q_goto dX6_undo_45 (by decide)),
  List.forall_mem_cons.mpr ⟨STP.r mo_al (q_aload_n dX6_undo_48 rfl),
  List.forall_mem_cons.mpr ⟨STP.r mo_gR (q_gR ⟨by decide, by decide⟩ (by decide) rfl (by decide) kf_X6_22 dX6_undo_49),
  List.forall_mem_cons.mpr ⟨STP.r mo_al (q_aload_n dX6_undo_52 rfl),
  List.forall_mem_cons.mpr ⟨STP.r mo_gR (q_gR ⟨by decide, by decide⟩ (by decide) rfl (by decide) kf_X6_22 dX6_undo_53),
  List.forall_mem_cons.mpr ⟨STP.r mo_alen (q_alen dX6_undo_56),
  List.forall_mem_cons.mpr ⟨STP.r mo_ic (q_iconst dX6_undo_57 (by decide)),
  List.forall_mem_cons.mpr ⟨STP.r mo_b2 (q_isub dX6_undo_58),
  List.forall_mem_cons.mpr ⟨STP.r mo_al (q_aload_n dX6_undo_59 rfl),
  List.forall_mem_cons.mpr ⟨STP.r mo_gR (q_gR ⟨by decide, by decide⟩ (by decide) rfl (by decide) kf_X6_12 dX6_undo_60),
  List.forall_mem_cons.mpr ⟨STP.r mo_aast (q_aast ⟨by decide, by decide⟩ dX6_undo_63),
  List.forall_mem_cons.mpr ⟨STP.r mo_al (q_aload_n dX6_undo_64 rfl),
  List.forall_mem_cons.mpr ⟨STP.r mo_al (q_aload_n dX6_undo_65 rfl),
  List.forall_mem_cons.mpr ⟨STP.r mo_pR (q_pR ⟨by decide, by decide⟩ (by decide) rfl (by decide) (Or.inl rfl) (fun h => absurd h (by decide)) kf_X6_12 dX6_undo_66),
  List.forall_mem_cons.mpr ⟨STP.r mo_al (q_aload_n dX6_undo_69 rfl),
  List.forall_mem_cons.mpr ⟨STP.r mo_dup (q_dup dX6_undo_70),
  List.forall_mem_cons.mpr ⟨STP.r mo_gI (q_gI ⟨by decide, by decide⟩ (by decide) rfl kf_X6_153 dX6_undo_71),
  List.forall_mem_cons.mpr ⟨STP.r mo_ic (q_iconst dX6_undo_74 (by decide)),
  List.forall_mem_cons.mpr ⟨STP.r mo_b2 (q_isub dX6_undo_75),
  List.forall_mem_cons.mpr ⟨STP.r mo_pI (q_pI ⟨by decide, by decide⟩ (by decide) rfl rfl kf_X6_153 dX6_undo_76),
  List.forall_mem_cons.mpr ⟨STP.r mo_al (q_aload_n dX6_undo_79 rfl),
  List.forall_mem_cons.mpr ⟨STP.r mo_gI (q_gI ⟨by decide, by decide⟩ (by decide) rfl kf_X6_153 dX6_undo_80),
  List.forall_mem_cons.mpr ⟨r_iret dX6_undo_83,
  fun _ h => absurd h List.not_mem_nil⟩⟩⟩⟩⟩⟩⟩⟩⟩⟩⟩⟩⟩⟩⟩⟩⟩⟩⟩⟩⟩⟩⟩⟩⟩⟩⟩⟩⟩⟩⟩⟩⟩⟩⟩⟩⟩⟩⟩⟩⟩⟩⟩⟩⟩⟩⟩⟩⟩⟩⟩)
theorem e_X6_undo_0 {Q : mQ} {l1 l2 : Value} {st : List Value} {g : mG} {x : Nat} : WP m_X6_undo Q 0 [.ref x, l1, l2] st g = WP m_X6_undo Q 1 [.ref x, l1, l2] (.ref x :: st) g := E_al (i := 0) (n := 1) lo_X6_undo rfl rfl
theorem e_X6_undo_1 {Q : mQ} {ls st : List Value} {g : mG} {a : Nat} : WP m_X6_undo Q 1 ls (.ref a :: st) g = (gK g a = 7 ∧ WP m_X6_undo Q 4 ls (.int (gI g a 5) :: st) g) := E_gI lo_X6_undo rfl
theorem e_X6_undo_4 {Q : mQ} {ls st : List Value} {g : mG} {x : Int32} : WP m_X6_undo Q 4 ls (.int x :: st) g = ((¬ x = 0 → WP m_X6_undo Q 10 ls st g) ∧ (¬ (¬ x = 0) → WP m_X6_undo Q 7 ls st g)) := E_I1 (c := fun x => ¬ x = 0) (t := 10) lo_X6_undo rfl
theorem e_X6_undo_7 {Q : mQ} {ls st : List Value} {g : mG} : WP m_X6_undo Q 7 ls st g = WP m_X6_undo Q 9 ls (.int ((-5)) :: st) g := E_ic (v := (-5)) (n := 2) lo_X6_undo rfl
theorem e_X6_undo_9 {Q : mQ} {ls : List Value} {g : mG} {v : Int32} : WP m_X6_undo Q 9 ls [.int v] g = Q (some (.int v)) g := E_iret lo_X6_undo rfl
theorem e_X6_undo_10 {Q : mQ} {l1 l2 : Value} {st : List Value} {g : mG} {x : Nat} : WP m_X6_undo Q 10 [.ref x, l1, l2] st g = WP m_X6_undo Q 11 [.ref x, l1, l2] (.ref x :: st) g := E_al (i := 0) (n := 1) lo_X6_undo rfl rfl
theorem e_X6_undo_11 {Q : mQ} {ls st : List Value} {g : mG} {a : Nat} : WP m_X6_undo Q 11 ls (.ref a :: st) g = ((gK g a = 7 ∧ gR g a 4 ≠ 0) ∧ WP m_X6_undo Q 14 ls (.ref (gR g a 4) :: st) g) := E_gR lo_X6_undo rfl
theorem e_X6_undo_14 {Q : mQ} {ls st : List Value} {g : mG} : WP m_X6_undo Q 14 ls st g = WP m_X6_undo Q 15 ls (.int (nI 0) :: st) g := E_ic (v := nI 0) (n := 1) lo_X6_undo rfl
theorem e_X6_undo_15 {Q : mQ} {ls st : List Value} {g : mG} {a : Nat} {i : Int32} : WP m_X6_undo Q 15 ls (.int i :: .ref a :: st) g = ((gK g a = 17 ∧ vp_in i (gN g a) ∧ gR g a i.toNatClampNeg ≠ 0) ∧ WP m_X6_undo Q 16 ls (.ref (gR g a i.toNatClampNeg) :: st) g) := E_aald lo_X6_undo rfl
theorem e_X6_undo_16 {Q : mQ} {l0 l1 l2 : Value} {st : List Value} {g : mG} {x : Nat} : WP m_X6_undo Q 16 [l0, l1, l2] (.ref x :: st) g = (nl1 l0 ∧ WP m_X6_undo Q 17 [l0, .ref x, l2] st g) := E_as (i := 1) (n := 1) lo_X6_undo rfl (Nat.le_of_ble_eq_true rfl)
theorem e_X6_undo_16n {Q : mQ} {l0 l1 l2 : Value} {st : List Value} {g : mG} : WP m_X6_undo Q 16 [l0, l1, l2] (.null :: st) g = (nl1 l0 ∧ WP m_X6_undo Q 17 [l0, .null, l2] st g) := E_asn (i := 1) (n := 1) lo_X6_undo rfl (Nat.le_of_ble_eq_true rfl)
theorem e_X6_undo_17 {Q : mQ} {ls st : List Value} {g : mG} : WP m_X6_undo Q 17 ls st g = WP m_X6_undo Q 18 ls (.int (nI 1) :: st) g := E_ic (v := nI 1) (n := 1) lo_X6_undo rfl
theorem e_X6_undo_18 {Q : mQ} {l0 l1 l2 : Value} {st : List Value} {g : mG} {x : Int32} : WP m_X6_undo Q 18 [l0, l1, l2] (.int x :: st) g = (nl1 l1 ∧ WP m_X6_undo Q 19 [l0, l1, .int x] st g) := E_is (i := 2) (n := 1) lo_X6_undo rfl (Nat.le_of_ble_eq_true rfl)
theorem e_X6_undo_19 {Q : mQ} {l0 l1 : Value} {st : List Value} {g : mG} {x : Int32} : WP m_X6_undo Q 19 [l0, l1, .int x] st g = WP m_X6_undo Q 20 [l0, l1, .int x] (.int x :: st) g := E_il (i := 2) (n := 1) lo_X6_undo rfl rfl
theorem e_X6_undo_20 {Q : mQ} {l1 l2 : Value} {st : List Value} {g : mG} {x : Nat} : WP m_X6_undo Q 20 [.ref x, l1, l2] st g = WP m_X6_undo Q 21 [.ref x, l1, l2] (.ref x :: st) g := E_al (i := 0) (n := 1) lo_X6_undo rfl rfl
theorem e_X6_undo_21 {Q : mQ} {ls st : List Value} {g : mG} {a : Nat} : WP m_X6_undo Q 21 ls (.ref a :: st) g = ((gK g a = 7 ∧ gR g a 4 ≠ 0) ∧ WP m_X6_undo Q 24 ls (.ref (gR g a 4) :: st) g) := E_gR lo_X6_undo rfl
theorem e_X6_undo_24 {Q : mQ} {ls st : List Value} {g : mG} {a : Nat} : WP m_X6_undo Q 24 ls (.ref a :: st) g = ((10 ≤ gK g a ∧ gK g a ≤ 17) ∧ WP m_X6_undo Q 25 ls (.int (nI (gN g a)) :: st) g) := E_alen lo_X6_undo rfl
theorem e_X6_undo_25 {Q : mQ} {ls st : List Value} {g : mG} {x y : Int32} : WP m_X6_undo Q 25 ls (.int y :: .int x :: st) g = ((y ≤ x → WP m_X6_undo Q 48 ls st g) ∧ (¬ (y ≤ x) → WP m_X6_undo Q 28 ls st g)) := E_I2 (c := fun x y => y ≤ x) (t := 48) lo_X6_undo rfl
theorem e_X6_undo_28 {Q : mQ} {l1 l2 : Value} {st : List Value} {g : mG} {x : Nat} : WP m_X6_undo Q 28 [.ref x, l1, l2] st g = WP m_X6_undo Q 29 [.ref x, l1, l2] (.ref x :: st) g := E_al (i := 0) (n := 1) lo_X6_undo rfl rfl
theorem e_X6_undo_29 {Q : mQ} {ls st : List Value} {g : mG} {a : Nat} : WP m_X6_undo Q 29 ls (.ref a :: st) g = ((gK g a = 7 ∧ gR g a 4 ≠ 0) ∧ WP m_X6_undo Q 32 ls (.ref (gR g a 4) :: st) g) := E_gR lo_X6_undo rfl
theorem e_X6_undo_32 {Q : mQ} {l0 l1 : Value} {st : List Value} {g : mG} {x : Int32} : WP m_X6_undo Q 32 [l0, l1, .int x] st g = WP m_X6_undo Q 33 [l0, l1, .int x] (.int x :: st) g := E_il (i := 2) (n := 1) lo_X6_undo rfl rfl
theorem e_X6_undo_33 {Q : mQ} {ls st : List Value} {g : mG} : WP m_X6_undo Q 33 ls st g = WP m_X6_undo Q 34 ls (.int (nI 1) :: st) g := E_ic (v := nI 1) (n := 1) lo_X6_undo rfl
theorem e_X6_undo_34 {Q : mQ} {ls st : List Value} {g : mG} {x y : Int32} : WP m_X6_undo Q 34 ls (.int y :: .int x :: st) g = WP m_X6_undo Q 35 ls (.int (x - y) :: st) g := E_b2 (f := fun x y => x - y) lo_X6_undo rfl
theorem e_X6_undo_35 {Q : mQ} {l1 l2 : Value} {st : List Value} {g : mG} {x : Nat} : WP m_X6_undo Q 35 [.ref x, l1, l2] st g = WP m_X6_undo Q 36 [.ref x, l1, l2] (.ref x :: st) g := E_al (i := 0) (n := 1) lo_X6_undo rfl rfl
theorem e_X6_undo_36 {Q : mQ} {ls st : List Value} {g : mG} {a : Nat} : WP m_X6_undo Q 36 ls (.ref a :: st) g = ((gK g a = 7 ∧ gR g a 4 ≠ 0) ∧ WP m_X6_undo Q 39 ls (.ref (gR g a 4) :: st) g) := E_gR lo_X6_undo rfl
theorem e_X6_undo_39 {Q : mQ} {l0 l1 : Value} {st : List Value} {g : mG} {x : Int32} : WP m_X6_undo Q 39 [l0, l1, .int x] st g = WP m_X6_undo Q 40 [l0, l1, .int x] (.int x :: st) g := E_il (i := 2) (n := 1) lo_X6_undo rfl rfl
theorem e_X6_undo_40 {Q : mQ} {ls st : List Value} {g : mG} {a : Nat} {i : Int32} : WP m_X6_undo Q 40 ls (.int i :: .ref a :: st) g = ((gK g a = 17 ∧ vp_in i (gN g a) ∧ gR g a i.toNatClampNeg ≠ 0) ∧ WP m_X6_undo Q 41 ls (.ref (gR g a i.toNatClampNeg) :: st) g) := E_aald lo_X6_undo rfl
theorem e_X6_undo_41 {Q : mQ} {ls st : List Value} {g : mG} {a v : Nat} {i : Int32} : WP m_X6_undo Q 41 ls (.ref v :: .int i :: .ref a :: st) g = ((gK g a = 17 ∧ vp_in i (gN g a) ∧ gK g v = 6 ∧ v ≠ 0) ∧ WP m_X6_undo Q 42 ls st (pR g a i.toNatClampNeg v)) := E_aast lo_X6_undo rfl
theorem e_X6_undo_42 {Q : mQ} {l0 l1 : Value} {st : List Value} {g : mG} {x : Int32} : WP m_X6_undo Q 42 [l0, l1, .int x] st g = (nl1 l1 ∧ WP m_X6_undo Q 45 [l0, l1, .int (x + nI 1)] st g) := E_inc (i := 2) (d := nI 1) lo_X6_undo rfl rfl
theorem e_X6_undo_45 {Q : mQ} {ls st : List Value} {g : mG} : WP m_X6_undo Q 45 ls st g = WP m_X6_undo Q 19 ls st g := E_goto lo_X6_undo rfl
theorem e_X6_undo_48 {Q : mQ} {l1 l2 : Value} {st : List Value} {g : mG} {x : Nat} : WP m_X6_undo Q 48 [.ref x, l1, l2] st g = WP m_X6_undo Q 49 [.ref x, l1, l2] (.ref x :: st) g := E_al (i := 0) (n := 1) lo_X6_undo rfl rfl
theorem e_X6_undo_49 {Q : mQ} {ls st : List Value} {g : mG} {a : Nat} : WP m_X6_undo Q 49 ls (.ref a :: st) g = ((gK g a = 7 ∧ gR g a 4 ≠ 0) ∧ WP m_X6_undo Q 52 ls (.ref (gR g a 4) :: st) g) := E_gR lo_X6_undo rfl
theorem e_X6_undo_52 {Q : mQ} {l1 l2 : Value} {st : List Value} {g : mG} {x : Nat} : WP m_X6_undo Q 52 [.ref x, l1, l2] st g = WP m_X6_undo Q 53 [.ref x, l1, l2] (.ref x :: st) g := E_al (i := 0) (n := 1) lo_X6_undo rfl rfl
theorem e_X6_undo_53 {Q : mQ} {ls st : List Value} {g : mG} {a : Nat} : WP m_X6_undo Q 53 ls (.ref a :: st) g = ((gK g a = 7 ∧ gR g a 4 ≠ 0) ∧ WP m_X6_undo Q 56 ls (.ref (gR g a 4) :: st) g) := E_gR lo_X6_undo rfl
theorem e_X6_undo_56 {Q : mQ} {ls st : List Value} {g : mG} {a : Nat} : WP m_X6_undo Q 56 ls (.ref a :: st) g = ((10 ≤ gK g a ∧ gK g a ≤ 17) ∧ WP m_X6_undo Q 57 ls (.int (nI (gN g a)) :: st) g) := E_alen lo_X6_undo rfl
theorem e_X6_undo_57 {Q : mQ} {ls st : List Value} {g : mG} : WP m_X6_undo Q 57 ls st g = WP m_X6_undo Q 58 ls (.int (nI 1) :: st) g := E_ic (v := nI 1) (n := 1) lo_X6_undo rfl
theorem e_X6_undo_58 {Q : mQ} {ls st : List Value} {g : mG} {x y : Int32} : WP m_X6_undo Q 58 ls (.int y :: .int x :: st) g = WP m_X6_undo Q 59 ls (.int (x - y) :: st) g := E_b2 (f := fun x y => x - y) lo_X6_undo rfl
theorem e_X6_undo_59 {Q : mQ} {l1 l2 : Value} {st : List Value} {g : mG} {x : Nat} : WP m_X6_undo Q 59 [.ref x, l1, l2] st g = WP m_X6_undo Q 60 [.ref x, l1, l2] (.ref x :: st) g := E_al (i := 0) (n := 1) lo_X6_undo rfl rfl
theorem e_X6_undo_60 {Q : mQ} {ls st : List Value} {g : mG} {a : Nat} : WP m_X6_undo Q 60 ls (.ref a :: st) g = ((gK g a = 7 ∧ gR g a 0 ≠ 0) ∧ WP m_X6_undo Q 63 ls (.ref (gR g a 0) :: st) g) := E_gR lo_X6_undo rfl
theorem e_X6_undo_63 {Q : mQ} {ls st : List Value} {g : mG} {a v : Nat} {i : Int32} : WP m_X6_undo Q 63 ls (.ref v :: .int i :: .ref a :: st) g = ((gK g a = 17 ∧ vp_in i (gN g a) ∧ gK g v = 6 ∧ v ≠ 0) ∧ WP m_X6_undo Q 64 ls st (pR g a i.toNatClampNeg v)) := E_aast lo_X6_undo rfl
theorem e_X6_undo_64 {Q : mQ} {l1 l2 : Value} {st : List Value} {g : mG} {x : Nat} : WP m_X6_undo Q 64 [.ref x, l1, l2] st g = WP m_X6_undo Q 65 [.ref x, l1, l2] (.ref x :: st) g := E_al (i := 0) (n := 1) lo_X6_undo rfl rfl
theorem e_X6_undo_65 {Q : mQ} {l0 l2 : Value} {st : List Value} {g : mG} {x : Nat} : WP m_X6_undo Q 65 [l0, .ref x, l2] st g = WP m_X6_undo Q 66 [l0, .ref x, l2] (.ref x :: st) g := E_al (i := 1) (n := 1) lo_X6_undo rfl rfl
theorem e_X6_undo_65n {Q : mQ} {l0 l2 : Value} {st : List Value} {g : mG} : WP m_X6_undo Q 65 [l0, .null, l2] st g = WP m_X6_undo Q 66 [l0, .null, l2] (.null :: st) g := E_aln (i := 1) (n := 1) lo_X6_undo rfl rfl
theorem e_X6_undo_66 {Q : mQ} {ls st : List Value} {g : mG} {a v : Nat} : WP m_X6_undo Q 66 ls (.ref v :: .ref a :: st) g = ((gK g a = 7 ∧ ok1 g v ∧ v ≠ 0) ∧ WP m_X6_undo Q 69 ls st (pR g a 0 v)) := E_pR lo_X6_undo rfl
theorem e_X6_undo_69 {Q : mQ} {l1 l2 : Value} {st : List Value} {g : mG} {x : Nat} : WP m_X6_undo Q 69 [.ref x, l1, l2] st g = WP m_X6_undo Q 70 [.ref x, l1, l2] (.ref x :: st) g := E_al (i := 0) (n := 1) lo_X6_undo rfl rfl
theorem e_X6_undo_70 {Q : mQ} {ls st : List Value} {g : mG} {x : Value} : WP m_X6_undo Q 70 ls (x :: st) g = (cat1 x ∧ WP m_X6_undo Q 71 ls (x :: x :: st) g) := E_dup lo_X6_undo rfl
theorem e_X6_undo_71 {Q : mQ} {ls st : List Value} {g : mG} {a : Nat} : WP m_X6_undo Q 71 ls (.ref a :: st) g = (gK g a = 7 ∧ WP m_X6_undo Q 74 ls (.int (gI g a 5) :: st) g) := E_gI lo_X6_undo rfl
theorem e_X6_undo_74 {Q : mQ} {ls st : List Value} {g : mG} : WP m_X6_undo Q 74 ls st g = WP m_X6_undo Q 75 ls (.int (nI 1) :: st) g := E_ic (v := nI 1) (n := 1) lo_X6_undo rfl
theorem e_X6_undo_75 {Q : mQ} {ls st : List Value} {g : mG} {x y : Int32} : WP m_X6_undo Q 75 ls (.int y :: .int x :: st) g = WP m_X6_undo Q 76 ls (.int (x - y) :: st) g := E_b2 (f := fun x y => x - y) lo_X6_undo rfl
theorem e_X6_undo_76 {Q : mQ} {ls st : List Value} {g : mG} {a : Nat} {v : Int32} : WP m_X6_undo Q 76 ls (.int v :: .ref a :: st) g = (gK g a = 7 ∧ WP m_X6_undo Q 79 ls st (pI g a 5 v)) := E_pI lo_X6_undo rfl
theorem e_X6_undo_79 {Q : mQ} {l1 l2 : Value} {st : List Value} {g : mG} {x : Nat} : WP m_X6_undo Q 79 [.ref x, l1, l2] st g = WP m_X6_undo Q 80 [.ref x, l1, l2] (.ref x :: st) g := E_al (i := 0) (n := 1) lo_X6_undo rfl rfl
theorem e_X6_undo_80 {Q : mQ} {ls st : List Value} {g : mG} {a : Nat} : WP m_X6_undo Q 80 ls (.ref a :: st) g = (gK g a = 7 ∧ WP m_X6_undo Q 83 ls (.int (gI g a 5) :: st) g) := E_gI lo_X6_undo rfl
theorem e_X6_undo_83 {Q : mQ} {ls : List Value} {g : mG} {v : Int32} : WP m_X6_undo Q 83 ls [.int v] g = Q (some (.int v)) g := E_iret lo_X6_undo rfl
