/-! ===== programs ===== -/
/-! KilnPermits.isWithin(III)Z -/
def m_X6_isWithin : List (Nat × mT) := [(0, tD (f_il 0 1)),
  (1, tD (f_il 1 1)),
  (2, tI2 (fun x y => x < y) 14),
  (5, tD (f_il 0 1)),
  (6, tD (f_il 2 1)),
  (7, tI2 (fun x y => y < x) 14),
  (10, tD (f_ic (nI 1) 1)),
  (11, tD (f_goto 15)),
  (14, tD (f_ic (nI 0) 1)),
  (15, tR f_zret)]
abbrev w_X6_isWithin : mS := wm m_X6_isWithin 3 0
set_option maxRecDepth 100000 in
theorem lo_X6_isWithin : locs_ok m_X6_isWithin := List.forall_mem_cons.mpr ⟨loc_D mo_il,
  List.forall_mem_cons.mpr ⟨loc_D mo_il,
  List.forall_mem_cons.mpr ⟨loc_I2,
  List.forall_mem_cons.mpr ⟨loc_D mo_il,
  List.forall_mem_cons.mpr ⟨loc_D mo_il,
  List.forall_mem_cons.mpr ⟨loc_I2,
  List.forall_mem_cons.mpr ⟨loc_D mo_ic,
  List.forall_mem_cons.mpr ⟨loc_D mo_goto,
  List.forall_mem_cons.mpr ⟨loc_D mo_ic,
  List.forall_mem_cons.mpr ⟨loc_R,
  fun _ h => absurd h List.not_mem_nil⟩⟩⟩⟩⟩⟩⟩⟩⟩⟩
set_option maxRecDepth 100000 in
theorem sm_X6_isWithin : SM yX6_isWithin cX6_isWithin 3 (some .boolean) 1 w_X6_isWithin := SM_of' RX6 "isWithin" rfl rfl (by decide) (by decide) (by decide) lo_X6_isWithin (List.forall_mem_cons.mpr ⟨STP.r mo_il (q_iload_n dX6_isWithin_0 rfl),
  List.forall_mem_cons.mpr ⟨STP.r mo_il (q_iload_n dX6_isWithin_1 rfl),
  List.forall_mem_cons.mpr ⟨(q_ic_lt dX6_isWithin_2 (by decide)).r,
  List.forall_mem_cons.mpr ⟨STP.r mo_il (q_iload_n dX6_isWithin_5 rfl),
  List.forall_mem_cons.mpr ⟨STP.r mo_il (q_iload_n dX6_isWithin_6 rfl),
  List.forall_mem_cons.mpr ⟨(q_ic_gt dX6_isWithin_7 (by decide)).r,
  List.forall_mem_cons.mpr ⟨STP.r mo_ic (q_iconst dX6_isWithin_10 (by decide)),
  List.forall_mem_cons.mpr ⟨STP.r mo_goto (q_goto dX6_isWithin_11 (by decide)),
  List.forall_mem_cons.mpr ⟨STP.r mo_ic (q_iconst dX6_isWithin_14 (by decide)),
  List.forall_mem_cons.mpr ⟨r_zret dX6_isWithin_15,
  fun _ h => absurd h List.not_mem_nil⟩⟩⟩⟩⟩⟩⟩⟩⟩⟩)
theorem e_X6_isWithin_0 {Q : mQ} {l1 l2 : Value} {st : List Value} {g : mG} {x : Int32} : WP m_X6_isWithin Q 0 [.int x, l1, l2] st g = WP m_X6_isWithin Q 1 [.int x, l1, l2] (.int x :: st) g := E_il (i := 0) (n := 1) lo_X6_isWithin rfl rfl
theorem e_X6_isWithin_1 {Q : mQ} {l0 l2 : Value} {st : List Value} {g : mG} {x : Int32} : WP m_X6_isWithin Q 1 [l0, .int x, l2] st g = WP m_X6_isWithin Q 2 [l0, .int x, l2] (.int x :: st) g := E_il (i := 1) (n := 1) lo_X6_isWithin rfl rfl
theorem e_X6_isWithin_2 {Q : mQ} {ls st : List Value} {g : mG} {x y : Int32} : WP m_X6_isWithin Q 2 ls (.int y :: .int x :: st) g = ((x < y → WP m_X6_isWithin Q 14 ls st g) ∧ (¬ (x < y) → WP m_X6_isWithin Q 5 ls st g)) := E_I2 (c := fun x y => x < y) (t := 14) lo_X6_isWithin rfl
theorem e_X6_isWithin_5 {Q : mQ} {l1 l2 : Value} {st : List Value} {g : mG} {x : Int32} : WP m_X6_isWithin Q 5 [.int x, l1, l2] st g = WP m_X6_isWithin Q 6 [.int x, l1, l2] (.int x :: st) g := E_il (i := 0) (n := 1) lo_X6_isWithin rfl rfl
theorem e_X6_isWithin_6 {Q : mQ} {l0 l1 : Value} {st : List Value} {g : mG} {x : Int32} : WP m_X6_isWithin Q 6 [l0, l1, .int x] st g = WP m_X6_isWithin Q 7 [l0, l1, .int x] (.int x :: st) g := E_il (i := 2) (n := 1) lo_X6_isWithin rfl rfl
theorem e_X6_isWithin_7 {Q : mQ} {ls st : List Value} {g : mG} {x y : Int32} : WP m_X6_isWithin Q 7 ls (.int y :: .int x :: st) g = ((y < x → WP m_X6_isWithin Q 14 ls st g) ∧ (¬ (y < x) → WP m_X6_isWithin Q 10 ls st g)) := E_I2 (c := fun x y => y < x) (t := 14) lo_X6_isWithin rfl
theorem e_X6_isWithin_10 {Q : mQ} {ls st : List Value} {g : mG} : WP m_X6_isWithin Q 10 ls st g = WP m_X6_isWithin Q 11 ls (.int (nI 1) :: st) g := E_ic (v := nI 1) (n := 1) lo_X6_isWithin rfl
theorem e_X6_isWithin_11 {Q : mQ} {ls st : List Value} {g : mG} : WP m_X6_isWithin Q 11 ls st g = WP m_X6_isWithin Q 15 ls st g := E_goto lo_X6_isWithin rfl
theorem e_X6_isWithin_14 {Q : mQ} {ls st : List Value} {g : mG} : WP m_X6_isWithin Q 14 ls st g = WP m_X6_isWithin Q 15 ls (.int (nI 0) :: st) g := E_ic (v := nI 0) (n := 1) lo_X6_isWithin rfl
theorem e_X6_isWithin_15 {Q : mQ} {ls : List Value} {g : mG} {v : Int32} : WP m_X6_isWithin Q 15 ls [.int v] g = ((v = 0 ∨ v = 1) ∧ Q (some (.int v)) g) := E_zret lo_X6_isWithin rfl
/-! KilnPermits$OrderText.<init>()V -/
def m_X3_init : List (Nat × mT) := [(0, tD (f_al 0 1)),
  (1, tD (f_obj)),
  (4, tD (f_al 0 1)),
  (5, tD (f_ic (nI 60) 2)),
  (7, tE (f_newa 13)),
  (9, tD (f_pR 4 0)),
  (12, tD (f_al 0 1)),
  (13, tD (f_ic (nI 9) 2)),
  (15, tE (f_newq 16)),
  (18, tD (f_pR 4 2)),
  (21, tD (f_ic (nI 0) 1)),
  (22, tD (f_is 1 1)),
  (23, tD (f_il 1 1)),
  (24, tD (f_al 0 1)),
  (25, tD (f_gR 4 2)),
  (28, tD (f_alen)),
  (29, tI2 (fun x y => y ≤ x) 51),
  (32, tD (f_al 0 1)),
  (33, tD (f_gR 4 2)),
  (36, tD (f_il 1 1)),
  (37, tE (f_new 2)),
  (40, tD (f_dup)),
  (41, tC w_X1_init 2 1),
  (44, tD (f_aast 16 (ekd 16))),
  (45, tD (f_inc 1 (nI 1))),
  (48, tD (f_goto 23)),
  (51, tR f_ret)]
abbrev w_X3_init : mS := wm m_X3_init 1 1
set_option maxRecDepth 100000 in
theorem lo_X3_init : locs_ok m_X3_init := List.forall_mem_cons.mpr ⟨loc_D mo_al,
  List.forall_mem_cons.mpr ⟨loc_D mo_obj,
  List.forall_mem_cons.mpr ⟨loc_D mo_al,
  List.forall_mem_cons.mpr ⟨loc_D mo_ic,
  List.forall_mem_cons.mpr ⟨loc_E (fun _ => mo_newa),
  List.forall_mem_cons.mpr ⟨loc_D mo_pR,
  List.forall_mem_cons.mpr ⟨loc_D mo_al,
  List.forall_mem_cons.mpr ⟨loc_D mo_ic,
  List.forall_mem_cons.mpr ⟨loc_E (fun _ => mo_newq),
  List.forall_mem_cons.mpr ⟨loc_D mo_pR,
  List.forall_mem_cons.mpr ⟨loc_D mo_ic,
  List.forall_mem_cons.mpr ⟨loc_D mo_is,
  List.forall_mem_cons.mpr ⟨loc_D mo_il,
  List.forall_mem_cons.mpr ⟨loc_D mo_al,
  List.forall_mem_cons.mpr ⟨loc_D mo_gR,
  List.forall_mem_cons.mpr ⟨loc_D mo_alen,
  List.forall_mem_cons.mpr ⟨loc_I2,
  List.forall_mem_cons.mpr ⟨loc_D mo_al,
  List.forall_mem_cons.mpr ⟨loc_D mo_gR,
  List.forall_mem_cons.mpr ⟨loc_D mo_il,
  List.forall_mem_cons.mpr ⟨loc_E (fun _ => mo_new),
  List.forall_mem_cons.mpr ⟨loc_D mo_dup,
  List.forall_mem_cons.mpr ⟨loc_C sm_X1_init.1,
  List.forall_mem_cons.mpr ⟨loc_D mo_aast,
  List.forall_mem_cons.mpr ⟨loc_D mo_inc,
  List.forall_mem_cons.mpr ⟨loc_D mo_goto,
  List.forall_mem_cons.mpr ⟨loc_R,
  fun _ h => absurd h List.not_mem_nil⟩⟩⟩⟩⟩⟩⟩⟩⟩⟩⟩⟩⟩⟩⟩⟩⟩⟩⟩⟩⟩⟩⟩⟩⟩⟩⟩
set_option maxRecDepth 100000 in
theorem sm_X3_init : SM yX3_init cX3_init 2 none 2 w_X3_init := SM_of' RX3 "<init>" rfl rfl (by decide) (by decide) (by decide) lo_X3_init (List.forall_mem_cons.mpr ⟨STP.r mo_al (q_aload_n dX3_init_0 rfl),
  List.forall_mem_cons.mpr ⟨STP.r mo_obj (q_obj km_X3_3 kz_oi kz_oc dX3_init_1),
  List.forall_mem_cons.mpr ⟨STP.r mo_al (q_aload_n dX3_init_4 rfl),
  List.forall_mem_cons.mpr ⟨STP.r mo_ic (q_bipush dX3_init_5 (by decide)),
  List.forall_mem_cons.mpr ⟨STE.r (fun _ => mo_newa) (q_newa (Or.inr ⟨rfl, rfl⟩) ka_char dX3_init_7),
  List.forall_mem_cons.mpr ⟨STP.r mo_pR (q_pR ⟨by decide, by decide⟩ (by decide) rfl (by decide) (Or.inr ⟨rfl, rfl⟩) (fun _ => rfl) kf_X3_9 dX3_init_9),
  List.forall_mem_cons.mpr ⟨STP.r mo_al (q_aload_n dX3_init_12 rfl),
  List.forall_mem_cons.mpr ⟨STP.r mo_ic (q_bipush dX3_init_13 (by decide)),
  List.forall_mem_cons.mpr ⟨STE.r (fun _ => mo_newq) (q_newq ⟨by decide, by decide⟩ kc_X3_15 ko_X1 dX3_init_15),
  List.forall_mem_cons.mpr ⟨STP.r mo_pR (q_pR ⟨by decide, by decide⟩ (by decide) rfl (by decide) (Or.inr ⟨rfl, rfl⟩) (fun _ => rfl) kf_X3_17 dX3_init_18),
  List.forall_mem_cons.mpr ⟨STP.r mo_ic (q_iconst dX3_init_21 (by decide)),
  List.forall_mem_cons.mpr ⟨STP.r mo_is (q_istore_n dX3_init_22 rfl),
  List.forall_mem_cons.mpr ⟨STP.r mo_il (q_iload_n dX3_init_23 rfl),
  List.forall_mem_cons.mpr ⟨STP.r mo_al (q_aload_n dX3_init_24 rfl),
  List.forall_mem_cons.mpr ⟨STP.r mo_gR (q_gR ⟨by decide, by decide⟩ (by decide) rfl (by decide) kf_X3_17 dX3_init_25),
  List.forall_mem_cons.mpr ⟨STP.r mo_alen (q_alen dX3_init_28),
  List.forall_mem_cons.mpr ⟨(q_ic_ge dX3_init_29 (by decide)).r,
  List.forall_mem_cons.mpr ⟨STP.r mo_al (q_aload_n dX3_init_32 rfl),
  List.forall_mem_cons.mpr ⟨STP.r mo_gR (q_gR ⟨by decide, by decide⟩ (by decide) rfl (by decide) kf_X3_17 dX3_init_33),
  List.forall_mem_cons.mpr ⟨STP.r mo_il (q_iload_n dX3_init_36 rfl),
  List.forall_mem_cons.mpr ⟨STE.r (fun _ => mo_new) (q_new ⟨by decide, by decide⟩ kc_X3_15 kn_X1 ki_X1 dX3_init_37),
  List.forall_mem_cons.mpr ⟨STP.r mo_dup (q_dup dX3_init_40),
  List.forall_mem_cons.mpr ⟨(snd_CIN sm_X1_init (by decide) rfl km_X3_21 kt_X1_init ki_X1 kx_X1_init ⟨by decide, by decide, by decide +kernel⟩ (by decide) (by decide) dX3_init_41).r,
  List.forall_mem_cons.mpr ⟨STP.r mo_aast (q_aast ⟨by decide, by decide⟩ dX3_init_44),
  List.forall_mem_cons.mpr ⟨STP.r mo_inc (q_inc dX3_init_45 (by decide)),
  List.forall_mem_cons.mpr ⟨STP.r mo_goto (q_goto dX3_init_48 (by decide)),
  List.forall_mem_cons.mpr ⟨r_ret dX3_init_51,
  fun _ h => absurd h List.not_mem_nil⟩⟩⟩⟩⟩⟩⟩⟩⟩⟩⟩⟩⟩⟩⟩⟩⟩⟩⟩⟩⟩⟩⟩⟩⟩⟩⟩)
theorem e_X3_init_0 {Q : mQ} {l1 : Value} {st : List Value} {g : mG} {x : Nat} : WP m_X3_init Q 0 [.ref x, l1] st g = WP m_X3_init Q 1 [.ref x, l1] (.ref x :: st) g := E_al (i := 0) (n := 1) lo_X3_init rfl rfl
theorem e_X3_init_1 {Q : mQ} {ls st : List Value} {g : mG} {x : Nat} : WP m_X3_init Q 1 ls (.ref x :: st) g = (st.length ≤ 4 ∧ WP m_X3_init Q 4 ls st g) := E_obj lo_X3_init rfl
theorem e_X3_init_4 {Q : mQ} {l1 : Value} {st : List Value} {g : mG} {x : Nat} : WP m_X3_init Q 4 [.ref x, l1] st g = WP m_X3_init Q 5 [.ref x, l1] (.ref x :: st) g := E_al (i := 0) (n := 1) lo_X3_init rfl rfl
theorem e_X3_init_5 {Q : mQ} {ls st : List Value} {g : mG} : WP m_X3_init Q 5 ls st g = WP m_X3_init Q 7 ls (.int (nI 60) :: st) g := E_ic (v := nI 60) (n := 2) lo_X3_init rfl
theorem e_X3_init_7 {Q : mQ} {ls st : List Value} {g : mG} {n : Int32} : WP m_X3_init Q 7 ls (.int n :: st) g = ∃ a : Nat, (frsh g a ∧ ¬ n < 0 ∧ n.toNatClampNeg ≤ 100000 ∧ alv g ls ∧ alv g st) ∧ WP m_X3_init Q 9 ls (.ref a :: st) (nw g a 13 n.toNatClampNeg n.toNatClampNeg (fun _ => 0)) := E_newa lo_X3_init rfl
theorem e_X3_init_9 {Q : mQ} {ls st : List Value} {g : mG} {a v : Nat} : WP m_X3_init Q 9 ls (.ref v :: .ref a :: st) g = ((gK g a = 4 ∧ ok1 g v ∧ v ≠ 0) ∧ WP m_X3_init Q 12 ls st (pR g a 0 v)) := E_pR lo_X3_init rfl
theorem e_X3_init_12 {Q : mQ} {l1 : Value} {st : List Value} {g : mG} {x : Nat} : WP m_X3_init Q 12 [.ref x, l1] st g = WP m_X3_init Q 13 [.ref x, l1] (.ref x :: st) g := E_al (i := 0) (n := 1) lo_X3_init rfl rfl
theorem e_X3_init_13 {Q : mQ} {ls st : List Value} {g : mG} : WP m_X3_init Q 13 ls st g = WP m_X3_init Q 15 ls (.int (nI 9) :: st) g := E_ic (v := nI 9) (n := 2) lo_X3_init rfl
theorem e_X3_init_15 {Q : mQ} {ls st : List Value} {g : mG} {n : Int32} : WP m_X3_init Q 15 ls (.int n :: st) g = ∃ a : Nat, (frsh g a ∧ ¬ n < 0 ∧ n.toNatClampNeg ≤ 100000 ∧ alv g ls ∧ alv g st) ∧ WP m_X3_init Q 18 ls (.ref a :: st) (nw g a 16 n.toNatClampNeg n.toNatClampNeg (fun _ => 0)) := E_newq lo_X3_init rfl
theorem e_X3_init_18 {Q : mQ} {ls st : List Value} {g : mG} {a v : Nat} : WP m_X3_init Q 18 ls (.ref v :: .ref a :: st) g = ((gK g a = 4 ∧ ok1 g v ∧ v ≠ 0) ∧ WP m_X3_init Q 21 ls st (pR g a 2 v)) := E_pR lo_X3_init rfl
theorem e_X3_init_21 {Q : mQ} {ls st : List Value} {g : mG} : WP m_X3_init Q 21 ls st g = WP m_X3_init Q 22 ls (.int (nI 0) :: st) g := E_ic (v := nI 0) (n := 1) lo_X3_init rfl
theorem e_X3_init_22 {Q : mQ} {l0 l1 : Value} {st : List Value} {g : mG} {x : Int32} : WP m_X3_init Q 22 [l0, l1] (.int x :: st) g = (nl1 l0 ∧ WP m_X3_init Q 23 [l0, .int x] st g) := E_is (i := 1) (n := 1) lo_X3_init rfl (Nat.le_of_ble_eq_true rfl)
theorem e_X3_init_23 {Q : mQ} {l0 : Value} {st : List Value} {g : mG} {x : Int32} : WP m_X3_init Q 23 [l0, .int x] st g = WP m_X3_init Q 24 [l0, .int x] (.int x :: st) g := E_il (i := 1) (n := 1) lo_X3_init rfl rfl
theorem e_X3_init_24 {Q : mQ} {l1 : Value} {st : List Value} {g : mG} {x : Nat} : WP m_X3_init Q 24 [.ref x, l1] st g = WP m_X3_init Q 25 [.ref x, l1] (.ref x :: st) g := E_al (i := 0) (n := 1) lo_X3_init rfl rfl
theorem e_X3_init_25 {Q : mQ} {ls st : List Value} {g : mG} {a : Nat} : WP m_X3_init Q 25 ls (.ref a :: st) g = ((gK g a = 4 ∧ gR g a 2 ≠ 0) ∧ WP m_X3_init Q 28 ls (.ref (gR g a 2) :: st) g) := E_gR lo_X3_init rfl
theorem e_X3_init_28 {Q : mQ} {ls st : List Value} {g : mG} {a : Nat} : WP m_X3_init Q 28 ls (.ref a :: st) g = ((10 ≤ gK g a ∧ gK g a ≤ 17) ∧ WP m_X3_init Q 29 ls (.int (nI (gN g a)) :: st) g) := E_alen lo_X3_init rfl
theorem e_X3_init_29 {Q : mQ} {ls st : List Value} {g : mG} {x y : Int32} : WP m_X3_init Q 29 ls (.int y :: .int x :: st) g = ((y ≤ x → WP m_X3_init Q 51 ls st g) ∧ (¬ (y ≤ x) → WP m_X3_init Q 32 ls st g)) := E_I2 (c := fun x y => y ≤ x) (t := 51) lo_X3_init rfl
theorem e_X3_init_32 {Q : mQ} {l1 : Value} {st : List Value} {g : mG} {x : Nat} : WP m_X3_init Q 32 [.ref x, l1] st g = WP m_X3_init Q 33 [.ref x, l1] (.ref x :: st) g := E_al (i := 0) (n := 1) lo_X3_init rfl rfl
theorem e_X3_init_33 {Q : mQ} {ls st : List Value} {g : mG} {a : Nat} : WP m_X3_init Q 33 ls (.ref a :: st) g = ((gK g a = 4 ∧ gR g a 2 ≠ 0) ∧ WP m_X3_init Q 36 ls (.ref (gR g a 2) :: st) g) := E_gR lo_X3_init rfl
theorem e_X3_init_36 {Q : mQ} {l0 : Value} {st : List Value} {g : mG} {x : Int32} : WP m_X3_init Q 36 [l0, .int x] st g = WP m_X3_init Q 37 [l0, .int x] (.int x :: st) g := E_il (i := 1) (n := 1) lo_X3_init rfl rfl
theorem e_X3_init_37 {Q : mQ} {ls st : List Value} {g : mG} : WP m_X3_init Q 37 ls st g = ∃ a : Nat, (frsh g a ∧ (2 = 5 → gK g (a + 1) = 0) ∧ alv g ls ∧ alv g st) ∧ WP m_X3_init Q 40 ls (.ref a :: st) (nw g a 2 0 (xn 2) (fun _ => 0)) := E_new lo_X3_init rfl
theorem e_X3_init_40 {Q : mQ} {ls st : List Value} {g : mG} {x : Value} : WP m_X3_init Q 40 ls (x :: st) g = (cat1 x ∧ WP m_X3_init Q 41 ls (x :: x :: st) g) := E_dup lo_X3_init rfl
theorem e_X3_init_41 {Q : mQ} {ls st : List Value} {g : mG} {b : Nat} : WP m_X3_init Q 41 ls (.ref b :: st) g = (st.length ≤ 4 ∧ gK g b = 2 ∧ stbs g ls ∧ stbs g st ∧ w_X1_init [.ref b] g (fun v g' => WP m_X3_init Q 44 ls (v.toList ++ st) g')) := E_CV (ar := [.ref b]) lo_X3_init rfl rfl rfl (by decide)
theorem e_X3_init_44 {Q : mQ} {ls st : List Value} {g : mG} {a v : Nat} {i : Int32} : WP m_X3_init Q 44 ls (.ref v :: .int i :: .ref a :: st) g = ((gK g a = 16 ∧ vp_in i (gN g a) ∧ gK g v = 2 ∧ v ≠ 0) ∧ WP m_X3_init Q 45 ls st (pR g a i.toNatClampNeg v)) := E_aast lo_X3_init rfl
theorem e_X3_init_45 {Q : mQ} {l0 : Value} {st : List Value} {g : mG} {x : Int32} : WP m_X3_init Q 45 [l0, .int x] st g = (nl1 l0 ∧ WP m_X3_init Q 48 [l0, .int (x + nI 1)] st g) := E_inc (i := 1) (d := nI 1) lo_X3_init rfl rfl
theorem e_X3_init_48 {Q : mQ} {ls st : List Value} {g : mG} : WP m_X3_init Q 48 ls st g = WP m_X3_init Q 23 ls st g := E_goto lo_X3_init rfl
theorem e_X3_init_51 {Q : mQ} {ls : List Value} {g : mG} : WP m_X3_init Q 51 ls [] g = Q none g := E_ret lo_X3_init rfl
