/-! ===== programs ===== -/
/-! KilnPermits.isWithin(III)Z -/
def m_X6_isWithin : List (Nat × mT) := [(0, tD (f_il 0 1)),
  (1, tD (f_il 1 1)),
  (2, tI2 (fun x y => x < y) 14),
  (5, tD (f_il 0 1)),
  (6, tD (f_il 2 1)),
  (7, tI2 (fun x y => y < x) 14),
  (10, tD (f_ic (nI 1) 1)),
  (11, tD (f_goto 15)),
  (14, tD (f_ic (nI 0) 1)),
  (15, tR f_zret)]
abbrev w_X6_isWithin : mS := wm m_X6_isWithin 3 0
set_option maxRecDepth 100000 in
theorem lo_X6_isWithin : locs_ok m_X6_isWithin := List.forall_mem_cons.mpr ⟨loc_D mo_il,
  List.forall_mem_cons.mpr ⟨loc_D mo_il,
  List.forall_mem_cons.mpr ⟨loc_I2,
  List.forall_mem_cons.mpr ⟨loc_D mo_il,
  List.forall_mem_cons.mpr ⟨loc_D mo_il,
  List.forall_mem_cons.mpr ⟨loc_I2,
  List.forall_mem_cons.mpr ⟨loc_D mo_ic,
  List.forall_mem_cons.mpr ⟨loc_D mo_goto,
  List.forall_mem_cons.mpr ⟨loc_D mo_ic,
  List.forall_mem_cons.mpr ⟨loc_R,
  fun _ h => absurd h List.not_mem_nil⟩⟩⟩⟩⟩⟩⟩⟩⟩⟩
set_option maxRecDepth 100000 in
theorem sm_X6_isWithin : SM yX6_isWithin cX6_isWithin 3 (some .boolean) 1 w_X6_isWithin := SM_of' RX6 "isWithin" rfl rfl (by decide) (by decide) (by decide) lo_X6_isWithin (List.forall_mem_cons.mpr ⟨STP.r mo_il (q_iload_n dX6_isWithin_0 rfl),
  List.forall_mem_cons.mpr ⟨STP.r mo_il (q_iload_n dX6_isWithin_1 rfl),
  List.forall_mem_cons.mpr ⟨(q_ic_lt dX6_isWithin_2 (by decide)).r,
  List.forall_mem_cons.mpr ⟨STP.r mo_il (q_iload_n dX6_isWithin_5 rfl),
  List.forall_mem_cons.mpr ⟨STP.r mo_il (q_iload_n dX6_isWithin_6 rfl),
  List.forall_mem_cons.mpr ⟨(q_ic_gt dX6_isWithin_7 (by decide)).r,
  List.forall_mem_cons.mpr ⟨STP.r mo_ic (q_iconst dX6_isWithin_10 (by decide)),
  List.forall_mem_cons.mpr ⟨STP.r mo_goto (q_goto dX6_isWithin_11 (by decide)),
  List.forall_mem_cons.mpr ⟨STP.r mo_ic (q_iconst dX6_isWithin_14 (by decide)),
  List.forall_mem_cons.mpr ⟨r_zret dX6_isWithin_15,
  fun _ h => absurd h List.not_mem_nil⟩⟩⟩⟩⟩⟩⟩⟩⟩⟩)
theorem e_X6_isWithin_0 {Q : mQ} {l1 l2 : Value} {st : List Value} {g : mG} {x : Int32} : WP m_X6_isWithin Q 0 [.int x, l1, l2] st g = WP m_X6_isWithin Q 1 [.int x, l1, l2] (.int x :: st) g := E_il (i := 0) (n := 1) lo_X6_isWithin rfl rfl
theorem e_X6_isWithin_1 {Q : mQ} {l0 l2 : Value} {st : List Value} {g : mG} {x : Int32} : WP m_X6_isWithin Q 1 [l0, .int x, l2] st g = WP m_X6_isWithin Q 2 [l0, .int x, l2] (.int x :: st) g := E_il (i := 1) (n := 1) lo_X6_isWithin rfl rfl
theorem e_X6_isWithin_2 {Q : mQ} {ls st : List Value} {g : mG} {x y : Int32} : WP m_X6_isWithin Q 2 ls (.int y :: .int x :: st) g = ((x < y → WP m_X6_isWithin Q 14 ls st g) ∧ (¬ (x < y) → WP m_X6_isWithin Q 5 ls st g)) := E_I2 (c := fun x y => x < y) (t := 14) lo_X6_isWithin rfl
theorem e_X6_isWithin_5 {Q : mQ} {l1 l2 : Value} {st : List Value} {g : mG} {x : Int32} : WP m_X6_isWithin Q 5 [.int x, l1, l2] st g = WP m_X6_isWithin Q 6 [.int x, l1, l2] (.int x :: st) g := E_il (i := 0) (n := 1) lo_X6_isWithin rfl rfl
theorem e_X6_isWithin_6 {Q : mQ} {l0 l1 : Value} {st : List Value} {g : mG} {x : Int32} : WP m_X6_isWithin Q 6 [l0, l1, .int x] st g = WP m_X6_isWithin Q 7 [l0, l1, .int x] (.int x :: st) g := E_il (i := 2) (n := 1) lo_X6_isWithin rfl rfl
theorem e_X6_isWithin_7 {Q : mQ} {ls st : List Value} {g : mG} {x y : Int32} : WP m_X6_isWithin Q 7 ls (.int y :: .int x :: st) g = ((y < x → WP m_X6_isWithin Q 14 ls st g) ∧ (¬ (y < x) → WP m_X6_isWithin Q 10 ls st g)) := E_I2 (c := fun x y => y < x) (t := 14) lo_X6_isWithin rfl
theorem e_X6_isWithin_10 {Q : mQ} {ls st : List Value} {g : mG} : WP m_X6_isWithin Q 10 ls st g = WP m_X6_isWithin Q 11 ls (.int (nI 1) :: st) g := E_ic (v := nI 1) (n := 1) lo_X6_isWithin rfl
theorem e_X6_isWithin_11 {Q : mQ} {ls st : List Value} {g : mG} : WP m_X6_isWithin Q 11 ls st g = WP m_X6_isWithin Q 15 ls st g := E_goto lo_X6_isWithin rfl
theorem e_X6_isWithin_14 {Q : mQ} {ls st : List Value} {g : mG} : WP m_X6_isWithin Q 14 ls st g = WP m_X6_isWithin Q 15 ls (.int (nI 0) :: st) g := E_ic (v := nI 0) (n := 1) lo_X6_isWithin rfl
theorem e_X6_isWithin_15 {Q : mQ} {ls : List Value} {g : mG} {v : Int32} : WP m_X6_isWithin Q 15 ls [.int v] g = ((v = 0 ∨ v = 1) ∧ Q (some (.int v)) g) := E_zret lo_X6_isWithin rfl
/-! KilnPermits$OrderText.<init>()V -/
def m_X3_init : List (Nat × mT) := [(0, tD (f_al 0 1)),
  (1, tD (f_obj)),
  (4, tD (f_al 0 1)),
  (5, tD (f_ic (nI 60) 2)),
  (7, tE (f_newa 13)),
  (9, tD (f_pR 4 0)),
  (12, tD (f_al 0 1)),
  (13, tD (f_ic (nI 9) 2)),
  (15, tE (f_newq 16)),
  (18, tD (f_pR 4 2)),
  (21, tD (f_ic (nI 0) 1)),
  (22, tD (f_is 1 1)),
  (23, tD (f_il 1 1)),
  (24, tD (f_al 0 1)),
  (25, tD (f_gR 4 2)),
  (28, tD (f_alen)),
  (29, tI2 (fun x y => y ≤ x) 51),
  (32, tD (f_al 0 1)),
  (33, tD (f_gR 4 2)),
  (36, tD (f_il 1 1)),
  (37, tE (f_new 2)),
  (40, tD (f_dup)),
  (41, tC w_X1_init 2 1),
  (44, tD (f_aast 16 (ekd 16))),
  (45, tD (f_inc 1 (nI 1))),
  (48, tD (f_goto 23)),
  (51, tR f_ret)]
abbrev w_X3_init : mS := wm m_X3_init 1 1
set_option maxRecDepth 100000 in
theorem lo_X3_init : locs_ok m_X3_init := List.forall_mem_cons.mpr ⟨loc_D mo_al,
  List.forall_mem_cons.mpr ⟨loc_D mo_obj,
  List.forall_mem_cons.mpr ⟨loc_D mo_al,
  List.forall_mem_cons.mpr ⟨loc_D mo_ic,
  List.forall_mem_cons.mpr ⟨loc_E (fun _ => mo_newa),
  List.forall_mem_cons.mpr ⟨loc_D mo_pR,
  List.forall_mem_cons.mpr ⟨loc_D mo_al,
  List.forall_mem_cons.mpr ⟨loc_D mo_ic,
  List.forall_mem_cons.mpr ⟨loc_E (fun _ => mo_newq),
  List.forall_mem_cons.mpr ⟨loc_D mo_pR,
  List.forall_mem_cons.mpr ⟨loc_D mo_ic,
  List.forall_mem_cons.mpr ⟨loc_D mo_is,
  List.forall_mem_cons.mpr ⟨loc_D mo_il,
  List.forall_mem_cons.mpr ⟨loc_D mo_al,
  List.forall_mem_cons.mpr ⟨loc_D mo_gR,
  List.forall_mem_cons.mpr ⟨loc_D mo_alen,
  List.forall_mem_cons.mpr ⟨loc_I2,
  List.forall_mem_cons.mpr ⟨loc_D mo_al,
  List.forall_mem_cons.mpr ⟨loc_D mo_gR,
  List.forall_mem_cons.mpr ⟨loc_D mo_il,
  List.forall_mem_cons.mpr ⟨loc_E (fun _ => mo_new),
  List.forall_mem_cons.mpr ⟨loc_D mo_dup,
  List.forall_mem_cons.mpr ⟨loc_C sm_X1_init.1,
  List.forall_mem_cons.mpr ⟨loc_D mo_aast,
  List.forall_mem_cons.mpr ⟨loc_D mo_inc,
  List.forall_mem_cons.mpr ⟨loc_D mo_goto,
  List.forall_mem_cons.mpr ⟨loc_R,
  fun _ h => absurd h List.not_mem_nil⟩⟩⟩⟩⟩⟩⟩⟩⟩⟩⟩⟩⟩⟩⟩⟩⟩⟩⟩⟩⟩⟩⟩⟩⟩⟩⟩
set_option maxRecDepth 100000 in
theorem sm_X3_init : SM yX3_init cX3_init 2 none 2 w_X3_init := SM_of' RX3 "<init>" rfl rfl (by decide) (by decide) (by decide) lo_X3_init (List.forall_mem_cons.mpr ⟨STP.r mo_al (q_aload_n dX3_init_0 rfl),
  List.forall_mem_cons.mpr ⟨STP.r mo_obj (q_obj km_X3_3 kz_oi kz_oc dX3_init_1),
  List.forall_mem_cons.mpr ⟨STP.r mo_al (q_aload_n dX3_init_4 rfl),
  List.forall_mem_cons.mpr ⟨STP.r mo_ic (q_bipush dX3_init_5 (by decide)),
  List.forall_mem_cons.mpr ⟨STE.r (fun _ => mo_newa) (q_newa (Or.inr ⟨rfl, rfl⟩) ka_char dX3_init_7),
  List.forall_mem_cons.mpr ⟨STP.r mo_pR (q_pR ⟨by decide, by decide⟩ (by decide) rfl (by decide) (Or.inr ⟨rfl, rfl⟩) (fun _ => rfl) kf_X3_9 dX3_init_9),
  List.forall_mem_cons.mpr ⟨STP.r mo_al (q_aload_n dX3_init_12 rfl),
  List.forall_mem_cons.mpr ⟨STP.r mo_ic (q_bipush dX3_init_13 (by decide)),
  List.forall_mem_cons.mpr ⟨STE.r (fun _ => mo_newq) (q_newq ⟨by decide, by decide⟩ kc_X3_15 ko_X1 dX3_init_15),
  List.forall_mem_cons.mpr ⟨STP.r mo_pR (q_pR ⟨by decide, by decide⟩ (by decide) rfl (by decide) (Or.inr ⟨rfl, rfl⟩) (fun _ => rfl) kf_X3_17 dX3_init_18),
  List.forall_mem_cons.mpr ⟨STP.r mo_ic (q_iconst dX3_init_21 (by decide)),
  List.forall_mem_cons.mpr ⟨STP.r mo_is (q_istore_n dX3_init_22 rfl),
  List.forall_mem_cons.mpr ⟨STP.r mo_il (q_iload_n dX3_init_23 rfl),
  List.forall_mem_cons.mpr ⟨STP.r mo_al (q_aload_n dX3_init_24 rfl),
  List.forall_mem_cons.mpr ⟨STP.r mo_gR (q_gR ⟨by decide, by decide⟩ (by decide) rfl (by decide) kf_X3_17 dX3_init_25),
  List.forall_mem_cons.mpr ⟨STP.r mo_alen (q_alen dX3_init_28),
  List.forall_mem_cons.mpr ⟨(q_ic_ge dX3_init_29 (by decide)).r,
  List.forall_mem_cons.mpr ⟨STP.r mo_al (q_aload_n dX3_init_32 rfl),
  List.forall_mem_cons.mpr ⟨STP.r mo_gR (q_gR ⟨by decide, by decide⟩ (by decide) rfl (by decide) kf_X3_17 dX3_init_33),
  List.forall_mem_cons.mpr ⟨STP.r mo_il (q_iload_n dX3_init_36 rfl),
  List.forall_mem_cons.mpr ⟨STE.r (fun _ => mo_new) (q_new ⟨by decide, by decide⟩ kc_X3_15 kn_X1 ki_X1 dX3_init_37),
  List.forall_mem_cons.mpr ⟨STP.r mo_dup (q_dup dX3_init_40),
  List.forall_mem_cons.mpr ⟨(snd_CIN sm_X1_init (by decide) rfl km_X3_21 kt_X1_init ki_X1 kx_X1_init ⟨by decide, by decide, by decide +kernel⟩ (by decide) (by decide) dX3_init_41).r,
  List.forall_mem_cons.mpr ⟨STP.r mo_aast (q_aast ⟨by decide, by decide⟩ dX3_init_44),
  List.forall_mem_cons.mpr ⟨STP.r mo_inc (q_inc dX3_init_45 (by decide)),
  List.forall_mem_cons.mpr ⟨STP.r mo_goto (q_goto dX3_init_48 (by decide)),
  List.forall_mem_cons.mpr ⟨r_ret dX3_init_51,
  fun _ h => absurd h List.not_mem_nil⟩⟩⟩⟩⟩⟩⟩⟩⟩⟩⟩⟩⟩⟩⟩⟩⟩⟩⟩⟩⟩⟩⟩⟩⟩⟩⟩)
theorem e_X3_init_0 {Q : mQ} {l1 : Value} {st : List Value} {g : mG} {x : Nat} : WP m_X3_init Q 0 [.ref x, l1] st g = WP m_X3_init Q 1 [.ref x, l1] (.ref x :: st) g := E_al (i := 0) (n := 1) lo_X3_init rfl rfl
theorem e_X3_init_1 {Q : mQ} {ls st : List Value} {g : mG} {x : Nat} : WP m_X3_init Q 1 ls (.ref x :: st) g = (st.length ≤ 4 ∧ WP m_X3_init Q 4 ls st g) := E_obj lo_X3_init rfl
theorem e_X3_init_4 {Q : mQ} {l1 : Value} {st : List Value} {g : mG} {x : Nat} : WP m_X3_init Q 4 [.ref x, l1] st g = WP m_X3_init Q 5 [.ref x, l1] (.ref x :: st) g := E_al (i := 0) (n := 1) lo_X3_init rfl rfl
theorem e_X3_init_5 {Q : mQ} {ls st : List Value} {g : mG} : WP m_X3_init Q 5 ls st g = WP m_X3_init Q 7 ls (.int (nI 60) :: st) g := E_ic (v := nI 60) (n := 2) lo_X3_init rfl
theorem e_X3_init_7 {Q : mQ} {ls st : List Value} {g : mG} {n : Int32} : WP m_X3_init Q 7 ls (.int n :: st) g = ∃ a : Nat, (frsh g a ∧ ¬ n < 0 ∧ n.toNatClampNeg ≤ 100000 ∧ alv g ls ∧ alv g st) ∧ WP m_X3_init Q 9 ls (.ref a :: st) (nw g a 13 n.toNatClampNeg n.toNatClampNeg (fun _ => 0)) := E_newa lo_X3_init rfl
theorem e_X3_init_9 {Q : mQ} {ls st : List Value} {g : mG} {a v : Nat} : WP m_X3_init Q 9 ls (.ref v :: .ref a :: st) g = ((gK g a = 4 ∧ ok1 g v ∧ v ≠ 0) ∧ WP m_X3_init Q 12 ls st (pR g a 0 v)) := E_pR lo_X3_init rfl
theorem e_X3_init_12 {Q : mQ} {l1 : Value} {st : List Value} {g : mG} {x : Nat} : WP m_X3_init Q 12 [.ref x, l1] st g = WP m_X3_init Q 13 [.ref x, l1] (.ref x :: st) g := E_al (i := 0) (n := 1) lo_X3_init rfl rfl
theorem e_X3_init_13 {Q : mQ} {ls st : List Value} {g : mG} : WP m_X3_init Q 13 ls st g = WP m_X3_init Q 15 ls (.int (nI 9) :: st) g := E_ic (v := nI 9) (n := 2) lo_X3_init rfl
theorem e_X3_init_15 {Q : mQ} {ls st : List Value} {g : mG} {n : Int32} : WP m_X3_init Q 15 ls (.int n :: st) g = ∃ a : Nat, (frsh g a ∧ ¬ n < 0 ∧ n.toNatClampNeg ≤ 100000 ∧ alv g ls ∧ alv g st) ∧ WP m_X3_init Q 18 ls (.ref a :: st) (nw g a 16 n.toNatClampNeg n.toNatClampNeg (fun _ => 0)) := E_newq lo_X3_init rfl
theorem e_X3_init_18 {Q : mQ} {ls st : List Value} {g : mG} {a v : Nat} : WP m_X3_init Q 18 ls (.ref v :: .ref a :: st) g = ((gK g a = 4 ∧ ok1 g v ∧ v ≠ 0) ∧ WP m_X3_init Q 21 ls st (pR g a 2 v)) := E_pR lo_X3_init rfl
theorem e_X3_init_21 {Q : mQ} {ls st : List Value} {g : mG} : WP m_X3_init Q 21 ls st g = WP m_X3_init Q 22 ls (.int (nI 0) :: st) g := E_ic (v := nI 0) (n := 1) lo_X3_init rfl
theorem e_X3_init_22 {Q : mQ} {l0 l1 : Value} {st : List Value} {g : mG} {x : Int32} : WP m_X3_init Q 22 [l0, l1] (.int x :: st) g = (nl1 l0 ∧ WP m_X3_init Q 23 [l0, .int x] st g) := E_is (i := 1) (n := 1) lo_X3_init rfl (Nat.le_of_ble_eq_true rfl)
theorem e_X3_init_23 {Q : mQ} {l0 : Value} {st : List Value} {g : mG} {x : Int32} : WP m_X3_init Q 23 [l0, .int x] st g = WP m_X3_init Q 24 [l0, .int x] (.int x :: st) g := E_il (i := 1) (n := 1) lo_X3_init rfl rfl
theorem e_X3_init_24 {Q : mQ} {l1 : Value} {st : List Value} {g : mG} {x : Nat} : WP m_X3_init Q 24 [.ref x, l1] st g = WP m_X3_init Q 25 [.ref x, l1] (.ref x :: st) g := E_al (i := 0) (n := 1) lo_X3_init rfl rfl
theorem e_X3_init_25 {Q : mQ} {ls st : List Value} {g : mG} {a : Nat} : WP m_X3_init Q 25 ls (.ref a :: st) g = ((gK g a = 4 ∧ gR g a 2 ≠ 0) ∧ WP m_X3_init Q 28 ls (.ref (gR g a 2) :: st) g) := E_gR lo_X3_init rfl
theorem e_X3_init_28 {Q : mQ} {ls st : List Value} {g : mG} {a : Nat} : WP m_X3_init Q 28 ls (.ref a :: st) g = ((10 ≤ gK g a ∧ gK g a ≤ 17) ∧ WP m_X3_init Q 29 ls (.int (nI (gN g a)) :: st) g) := E_alen lo_X3_init rfl
theorem e_X3_init_29 {Q : mQ} {ls st : List Value} {g : mG} {x y : Int32} : WP m_X3_init Q 29 ls (.int y :: .int x :: st) g = ((y ≤ x → WP m_X3_init Q 51 ls st g) ∧ (¬ (y ≤ x) → WP m_X3_init Q 32 ls st g)) := E_I2 (c := fun x y => y ≤ x) (t := 51) lo_X3_init rfl
theorem e_X3_init_32 {Q : mQ} {l1 : Value} {st : List Value} {g : mG} {x : Nat} : WP m_X3_init Q 32 [.ref x, l1] st g = WP m_X3_init Q 33 [.ref x, l1] (.ref x :: st) g := E_al (i := 0) (n := 1) lo_X3_init rfl rfl
theorem e_X3_init_33 {Q : mQ} {ls st : List Value} {g : mG} {a : Nat} : WP m_X3_init Q 33 ls (.ref a :: st) g = ((gK g a = 4 ∧ gR g a 2 ≠ 0) ∧ WP m_X3_init Q 36 ls (.ref (gR g a 2) :: st) g) := E_gR lo_X3_init rfl
theorem e_X3_init_36 {Q : mQ} {l0 : Value} {st : List Value} {g : mG} {x : Int32} : WP m_X3_init Q 36 [l0, .int x] st g = WP m_X3_init Q 37 [l0, .int x] (.int x :: st) g := E_il (i := 1) (n := 1) lo_X3_init rfl rfl
theorem e_X3_init_37 {Q : mQ} {ls st : List Value} {g : mG} : WP m_X3_init Q 37 ls st g = ∃ a : Nat, (frsh g a ∧ (2 = 5 → gK g (a + 1) = 0) ∧ alv g ls ∧ alv g st) ∧ WP m_X3_init Q 40 ls (.ref a :: st) (nw g a 2 0 (xn 2) (fun _ => 0)) := E_new lo_X3_init rfl
theorem e_X3_init_40 {Q : mQ} {ls st : List Value} {g : mG} {x : Value} : WP m_X3_init Q 40 ls (x :: st) g = (cat1 x ∧ WP m_X3_init Q 41 ls (x :: x :: st) g) := E_dup lo_X3_init rfl
theorem e_X3_init_41 {Q : mQ} {ls st : List Value} {g : mG} {b : Nat} : WP m_X3_init Q 41 ls (.ref b :: st) g = (st.length ≤ 4 ∧ gK g b = 2 ∧ stbs g ls ∧ stbs g st ∧ w_X1_init [.ref b] g (fun v g' => WP m_X3_init Q 44 ls (v.toList ++ st) g')) := E_CV (ar := [.ref b]) lo_X3_init rfl rfl rfl (by decide)
theorem e_X3_init_44 {Q : mQ} {ls st : List Value} {g : mG} {a v : Nat} {i : Int32} : WP m_X3_init Q 44 ls (.ref v :: .int i :: .ref a :: st) g = ((gK g a = 16 ∧ vp_in i (gN g a) ∧ gK g v = 2 ∧ v ≠ 0) ∧ WP m_X3_init Q 45 ls st (pR g a i.toNatClampNeg v)) := E_aast lo_X3_init rfl
theorem e_X3_init_45 {Q : mQ} {l0 : Value} {st : List Value} {g : mG} {x : Int32} : WP m_X3_init Q 45 [l0, .int x] st g = (nl1 l0 ∧ WP m_X3_init Q 48 [l0, .int (x + nI 1)] st g) := E_inc (i := 1) (d := nI 1) lo_X3_init rfl rfl
theorem e_X3_init_48 {Q : mQ} {ls st : List Value} {g : mG} : WP m_X3_init Q 48 ls st g = WP m_X3_init Q 23 ls st g := E_goto lo_X3_init rfl
theorem e_X3_init_51 {Q : mQ} {ls : List Value} {g : mG} : WP m_X3_init Q 51 ls [] g = Q none g := E_ret lo_X3_init rfl
/-! KilnPermits$OrderText.append(C)Z -/
def m_X3_append : List (Nat × mT) := [(0, tD (f_al 0 1)),
  (1, tD (f_gI 4 1)),
  (4, tI1 (fun x => x < 0) 19),
  (7, tD (f_al 0 1)),
  (8, tD (f_gI 4 1)),
  (11, tD (f_al 0 1)),
  (12, tD (f_gR 4 0)),
  (15, tD (f_alen)),
  (16, tI2 (fun x y => x < y) 21),
  (19, tD (f_ic (nI 0) 1)),
  (20, tR f_zret),
  (21, tD (f_al 0 1)),
  (22, tD (f_gR 4 0)),
  (25, tD (f_al 0 1)),
  (26, tD (f_gI 4 1)),
  (29, tD (f_il 1 1)),
  (30, tD (f_cast)),
  (31, tD (f_al 0 1)),
  (32, tD (f_dup)),
  (33, tD (f_gI 4 1)),
  (36, tD (f_ic (nI 1) 1)),
  (37, tD (f_b2 fun x y => x + y)),
  (38, tD (f_pI 4 1)),
  (41, tD (f_ic (nI 1) 1)),
  (42, tR f_zret)]
abbrev w_X3_append : mS := wm m_X3_append 2 0
set_option maxRecDepth 100000 in
theorem lo_X3_append : locs_ok m_X3_append := List.forall_mem_cons.mpr ⟨loc_D mo_al,
  List.forall_mem_cons.mpr ⟨loc_D mo_gI,
  List.forall_mem_cons.mpr ⟨loc_I1,
  List.forall_mem_cons.mpr ⟨loc_D mo_al,
  List.forall_mem_cons.mpr ⟨loc_D mo_gI,
  List.forall_mem_cons.mpr ⟨loc_D mo_al,
  List.forall_mem_cons.mpr ⟨loc_D mo_gR,
  List.forall_mem_cons.mpr ⟨loc_D mo_alen,
  List.forall_mem_cons.mpr ⟨loc_I2,
  List.forall_mem_cons.mpr ⟨loc_D mo_ic,
  List.forall_mem_cons.mpr ⟨loc_R,
  List.forall_mem_cons.mpr ⟨loc_D mo_al,
  List.forall_mem_cons.mpr ⟨loc_D mo_gR,
  List.forall_mem_cons.mpr ⟨loc_D mo_al,
  List.forall_mem_cons.mpr ⟨loc_D mo_gI,
  List.forall_mem_cons.mpr ⟨loc_D mo_il,
  List.forall_mem_cons.mpr ⟨loc_D mo_cast,
  List.forall_mem_cons.mpr ⟨loc_D mo_al,
  List.forall_mem_cons.mpr ⟨loc_D mo_dup,
  List.forall_mem_cons.mpr ⟨loc_D mo_gI,
  List.forall_mem_cons.mpr ⟨loc_D mo_ic,
  List.forall_mem_cons.mpr ⟨loc_D mo_b2,
  List.forall_mem_cons.mpr ⟨loc_D mo_pI,
  List.forall_mem_cons.mpr ⟨loc_D mo_ic,
  List.forall_mem_cons.mpr ⟨loc_R,
  fun _ h => absurd h List.not_mem_nil⟩⟩⟩⟩⟩⟩⟩⟩⟩⟩⟩⟩⟩⟩⟩⟩⟩⟩⟩⟩⟩⟩⟩⟩⟩
set_option maxRecDepth 100000 in
theorem sm_X3_append : SM yX3_append cX3_append 2 (some .boolean) 1 w_X3_append := SM_of' RX3 "append" rfl rfl (by decide) (by decide) (by decide) lo_X3_append (List.forall_mem_cons.mpr ⟨STP.r mo_al (q_aload_n dX3_append_0 rfl),
  List.forall_mem_cons.mpr ⟨STP.r mo_gI (q_gI ⟨by decide, by decide⟩ (by decide) rfl kf_X3_22 dX3_append_1),
  List.forall_mem_cons.mpr ⟨(q_if_lt dX3_append_4 (by decide)).r,
  List.forall_mem_cons.mpr ⟨STP.r mo_al (q_aload_n dX3_append_7 rfl),
  List.forall_mem_cons.mpr ⟨STP.r mo_gI (q_gI ⟨by decide, by decide⟩ (by decide) rfl kf_X3_22 dX3_append_8),
  List.forall_mem_cons.mpr ⟨STP.r mo_al (q_aload_n dX3_append_11 rfl),
  List.forall_mem_cons.mpr ⟨STP.r mo_gR (q_gR ⟨by decide, by decide⟩ (by decide) rfl (by decide) kf_X3_9 dX3_append_12),
  List.forall_mem_cons.mpr ⟨STP.r mo_alen (q_alen dX3_append_15),
  List.forall_mem_cons.mpr ⟨(q_ic_lt dX3_append_16 (by decide)).r,
  List.forall_mem_cons.mpr ⟨STP.r mo_ic (q_iconst dX3_append_19 (by decide)),
  List.forall_mem_cons.mpr ⟨r_zret dX3_append_20,
  List.forall_mem_cons.mpr ⟨STP.r mo_al (q_aload_n dX3_append_21 rfl),
  List.forall_mem_cons.mpr ⟨STP.r mo_gR (q_gR ⟨by decide, by decide⟩ (by decide) rfl (by decide) kf_X3_9 dX3_append_22),
  List.forall_mem_cons.mpr ⟨STP.r mo_al (q_aload_n dX3_append_25 rfl),
  List.forall_mem_cons.mpr ⟨STP.r mo_gI (q_gI ⟨by decide, by decide⟩ (by decide) rfl kf_X3_22 dX3_append_26),
  List.forall_mem_cons.mpr ⟨STP.r mo_il (q_iload_n dX3_append_29 rfl),
  List.forall_mem_cons.mpr ⟨STP.r mo_cast (q_cast dX3_append_30),
  List.forall_mem_cons.mpr ⟨STP.r mo_al (q_aload_n dX3_append_31 rfl),
  List.forall_mem_cons.mpr ⟨STP.r mo_dup (q_dup dX3_append_32),
  List.forall_mem_cons.mpr ⟨STP.r mo_gI (q_gI ⟨by decide, by decide⟩ (by decide) rfl kf_X3_22 dX3_append_33),
  List.forall_mem_cons.mpr ⟨STP.r mo_ic (q_iconst dX3_append_36 (by decide)),
  List.forall_mem_cons.mpr ⟨STP.r mo_b2 (q_iadd dX3_append_37),
  List.forall_mem_cons.mpr ⟨STP.r mo_pI (q_pI ⟨by decide, by decide⟩ (by decide) rfl rfl kf_X3_22 dX3_append_38),
  List.forall_mem_cons.mpr ⟨STP.r mo_ic (q_iconst dX3_append_41 (by decide)),
  List.forall_mem_cons.mpr ⟨r_zret dX3_append_42,
  fun _ h => absurd h List.not_mem_nil⟩⟩⟩⟩⟩⟩⟩⟩⟩⟩⟩⟩⟩⟩⟩⟩⟩⟩⟩⟩⟩⟩⟩⟩⟩)
theorem e_X3_append_0 {Q : mQ} {l1 : Value} {st : List Value} {g : mG} {x : Nat} : WP m_X3_append Q 0 [.ref x, l1] st g = WP m_X3_append Q 1 [.ref x, l1] (.ref x :: st) g := E_al (i := 0) (n := 1) lo_X3_append rfl rfl
theorem e_X3_append_1 {Q : mQ} {ls st : List Value} {g : mG} {a : Nat} : WP m_X3_append Q 1 ls (.ref a :: st) g = (gK g a = 4 ∧ WP m_X3_append Q 4 ls (.int (gI g a 1) :: st) g) := E_gI lo_X3_append rfl
theorem e_X3_append_4 {Q : mQ} {ls st : List Value} {g : mG} {x : Int32} : WP m_X3_append Q 4 ls (.int x :: st) g = ((x < 0 → WP m_X3_append Q 19 ls st g) ∧ (¬ (x < 0) → WP m_X3_append Q 7 ls st g)) := E_I1 (c := fun x => x < 0) (t := 19) lo_X3_append rfl
theorem e_X3_append_7 {Q : mQ} {l1 : Value} {st : List Value} {g : mG} {x : Nat} : WP m_X3_append Q 7 [.ref x, l1] st g = WP m_X3_append Q 8 [.ref x, l1] (.ref x :: st) g := E_al (i := 0) (n := 1) lo_X3_append rfl rfl
theorem e_X3_append_8 {Q : mQ} {ls st : List Value} {g : mG} {a : Nat} : WP m_X3_append Q 8 ls (.ref a :: st) g = (gK g a = 4 ∧ WP m_X3_append Q 11 ls (.int (gI g a 1) :: st) g) := E_gI lo_X3_append rfl
theorem e_X3_append_11 {Q : mQ} {l1 : Value} {st : List Value} {g : mG} {x : Nat} : WP m_X3_append Q 11 [.ref x, l1] st g = WP m_X3_append Q 12 [.ref x, l1] (.ref x :: st) g := E_al (i := 0) (n := 1) lo_X3_append rfl rfl
theorem e_X3_append_12 {Q : mQ} {ls st : List Value} {g : mG} {a : Nat} : WP m_X3_append Q 12 ls (.ref a :: st) g = ((gK g a = 4 ∧ gR g a 0 ≠ 0) ∧ WP m_X3_append Q 15 ls (.ref (gR g a 0) :: st) g) := E_gR lo_X3_append rfl
theorem e_X3_append_15 {Q : mQ} {ls st : List Value} {g : mG} {a : Nat} : WP m_X3_append Q 15 ls (.ref a :: st) g = ((10 ≤ gK g a ∧ gK g a ≤ 17) ∧ WP m_X3_append Q 16 ls (.int (nI (gN g a)) :: st) g) := E_alen lo_X3_append rfl
theorem e_X3_append_16 {Q : mQ} {ls st : List Value} {g : mG} {x y : Int32} : WP m_X3_append Q 16 ls (.int y :: .int x :: st) g = ((x < y → WP m_X3_append Q 21 ls st g) ∧ (¬ (x < y) → WP m_X3_append Q 19 ls st g)) := E_I2 (c := fun x y => x < y) (t := 21) lo_X3_append rfl
theorem e_X3_append_19 {Q : mQ} {ls st : List Value} {g : mG} : WP m_X3_append Q 19 ls st g = WP m_X3_append Q 20 ls (.int (nI 0) :: st) g := E_ic (v := nI 0) (n := 1) lo_X3_append rfl
theorem e_X3_append_20 {Q : mQ} {ls : List Value} {g : mG} {v : Int32} : WP m_X3_append Q 20 ls [.int v] g = ((v = 0 ∨ v = 1) ∧ Q (some (.int v)) g) := E_zret lo_X3_append rfl
theorem e_X3_append_21 {Q : mQ} {l1 : Value} {st : List Value} {g : mG} {x : Nat} : WP m_X3_append Q 21 [.ref x, l1] st g = WP m_X3_append Q 22 [.ref x, l1] (.ref x :: st) g := E_al (i := 0) (n := 1) lo_X3_append rfl rfl
theorem e_X3_append_22 {Q : mQ} {ls st : List Value} {g : mG} {a : Nat} : WP m_X3_append Q 22 ls (.ref a :: st) g = ((gK g a = 4 ∧ gR g a 0 ≠ 0) ∧ WP m_X3_append Q 25 ls (.ref (gR g a 0) :: st) g) := E_gR lo_X3_append rfl
theorem e_X3_append_25 {Q : mQ} {l1 : Value} {st : List Value} {g : mG} {x : Nat} : WP m_X3_append Q 25 [.ref x, l1] st g = WP m_X3_append Q 26 [.ref x, l1] (.ref x :: st) g := E_al (i := 0) (n := 1) lo_X3_append rfl rfl
theorem e_X3_append_26 {Q : mQ} {ls st : List Value} {g : mG} {a : Nat} : WP m_X3_append Q 26 ls (.ref a :: st) g = (gK g a = 4 ∧ WP m_X3_append Q 29 ls (.int (gI g a 1) :: st) g) := E_gI lo_X3_append rfl
theorem e_X3_append_29 {Q : mQ} {l0 : Value} {st : List Value} {g : mG} {x : Int32} : WP m_X3_append Q 29 [l0, .int x] st g = WP m_X3_append Q 30 [l0, .int x] (.int x :: st) g := E_il (i := 1) (n := 1) lo_X3_append rfl rfl
theorem e_X3_append_30 {Q : mQ} {ls st : List Value} {g : mG} {a : Nat} {i v : Int32} : WP m_X3_append Q 30 ls (.int v :: .int i :: .ref a :: st) g = ((gK g a = 13 ∧ vp_in i (gN g a) ∧ narrow .char (.int v) = .int v) ∧ WP m_X3_append Q 31 ls st (pI g a i.toNatClampNeg v)) := E_cast lo_X3_append rfl
theorem e_X3_append_31 {Q : mQ} {l1 : Value} {st : List Value} {g : mG} {x : Nat} : WP m_X3_append Q 31 [.ref x, l1] st g = WP m_X3_append Q 32 [.ref x, l1] (.ref x :: st) g := E_al (i := 0) (n := 1) lo_X3_append rfl rfl
theorem e_X3_append_32 {Q : mQ} {ls st : List Value} {g : mG} {x : Value} : WP m_X3_append Q 32 ls (x :: st) g = (cat1 x ∧ WP m_X3_append Q 33 ls (x :: x :: st) g) := E_dup lo_X3_append rfl
theorem e_X3_append_33 {Q : mQ} {ls st : List Value} {g : mG} {a : Nat} : WP m_X3_append Q 33 ls (.ref a :: st) g = (gK g a = 4 ∧ WP m_X3_append Q 36 ls (.int (gI g a 1) :: st) g) := E_gI lo_X3_append rfl
theorem e_X3_append_36 {Q : mQ} {ls st : List Value} {g : mG} : WP m_X3_append Q 36 ls st g = WP m_X3_append Q 37 ls (.int (nI 1) :: st) g := E_ic (v := nI 1) (n := 1) lo_X3_append rfl
theorem e_X3_append_37 {Q : mQ} {ls st : List Value} {g : mG} {x y : Int32} : WP m_X3_append Q 37 ls (.int y :: .int x :: st) g = WP m_X3_append Q 38 ls (.int (x + y) :: st) g := E_b2 (f := fun x y => x + y) lo_X3_append rfl
theorem e_X3_append_38 {Q : mQ} {ls st : List Value} {g : mG} {a : Nat} {v : Int32} : WP m_X3_append Q 38 ls (.int v :: .ref a :: st) g = (gK g a = 4 ∧ WP m_X3_append Q 41 ls st (pI g a 1 v)) := E_pI lo_X3_append rfl
theorem e_X3_append_41 {Q : mQ} {ls st : List Value} {g : mG} : WP m_X3_append Q 41 ls st g = WP m_X3_append Q 42 ls (.int (nI 1) :: st) g := E_ic (v := nI 1) (n := 1) lo_X3_append rfl
theorem e_X3_append_42 {Q : mQ} {ls : List Value} {g : mG} {v : Int32} : WP m_X3_append Q 42 ls [.int v] g = ((v = 0 ∨ v = 1) ∧ Q (some (.int v)) g) := E_zret lo_X3_append rfl
/-! KilnPermits$OrderText.isNext(C)Z -/
def m_X3_isNext : List (Nat × mT) := [(0, tD (f_al 0 1)),
  (1, tD (f_gI 4 4)),
  (4, tI1 (fun x => x < 0) 47),
  (7, tD (f_al 0 1)),
  (8, tD (f_gI 4 4)),
  (11, tD (f_al 0 1)),
  (12, tD (f_gI 4 1)),
  (15, tI2 (fun x y => y ≤ x) 47),
  (18, tD (f_al 0 1)),
  (19, tD (f_gI 4 4)),
  (22, tD (f_al 0 1)),
  (23, tD (f_gR 4 0)),
  (26, tD (f_alen)),
  (27, tI2 (fun x y => y ≤ x) 47),
  (30, tD (f_al 0 1)),
  (31, tD (f_gR 4 0)),
  (34, tD (f_al 0 1)),
  (35, tD (f_gI 4 4)),
  (38, tD (f_cald)),
  (39, tD (f_il 1 1)),
  (40, tI2 (fun x y => ¬ x = y) 47),
  (43, tD (f_ic (nI 1) 1)),
  (44, tD (f_goto 48)),
  (47, tD (f_ic (nI 0) 1)),
  (48, tR f_zret)]
abbrev w_X3_isNext : mS := wm m_X3_isNext 2 0
set_option maxRecDepth 100000 in
theorem lo_X3_isNext : locs_ok m_X3_isNext := List.forall_mem_cons.mpr ⟨loc_D mo_al,
  List.forall_mem_cons.mpr ⟨loc_D mo_gI,
  List.forall_mem_cons.mpr ⟨loc_I1,
  List.forall_mem_cons.mpr ⟨loc_D mo_al,
  List.forall_mem_cons.mpr ⟨loc_D mo_gI,
  List.forall_mem_cons.mpr ⟨loc_D mo_al,
  List.forall_mem_cons.mpr ⟨loc_D mo_gI,
  List.forall_mem_cons.mpr ⟨loc_I2,
  List.forall_mem_cons.mpr ⟨loc_D mo_al,
  List.forall_mem_cons.mpr ⟨loc_D mo_gI,
  List.forall_mem_cons.mpr ⟨loc_D mo_al,
  List.forall_mem_cons.mpr ⟨loc_D mo_gR,
  List.forall_mem_cons.mpr ⟨loc_D mo_alen,
  List.forall_mem_cons.mpr ⟨loc_I2,
  List.forall_mem_cons.mpr ⟨loc_D mo_al,
  List.forall_mem_cons.mpr ⟨loc_D mo_gR,
  List.forall_mem_cons.mpr ⟨loc_D mo_al,
  List.forall_mem_cons.mpr ⟨loc_D mo_gI,
  List.forall_mem_cons.mpr ⟨loc_D mo_cald,
  List.forall_mem_cons.mpr ⟨loc_D mo_il,
  List.forall_mem_cons.mpr ⟨loc_I2,
  List.forall_mem_cons.mpr ⟨loc_D mo_ic,
  List.forall_mem_cons.mpr ⟨loc_D mo_goto,
  List.forall_mem_cons.mpr ⟨loc_D mo_ic,
  List.forall_mem_cons.mpr ⟨loc_R,
  fun _ h => absurd h List.not_mem_nil⟩⟩⟩⟩⟩⟩⟩⟩⟩⟩⟩⟩⟩⟩⟩⟩⟩⟩⟩⟩⟩⟩⟩⟩⟩
set_option maxRecDepth 100000 in
theorem sm_X3_isNext : SM yX3_isNext cX3_isNext 2 (some .boolean) 1 w_X3_isNext := SM_of' RX3 "isNext" rfl rfl (by decide) (by decide) (by decide) lo_X3_isNext (List.forall_mem_cons.mpr ⟨STP.r mo_al (q_aload_n dX3_isNext_0 rfl),
  List.forall_mem_cons.mpr ⟨STP.r mo_gI (q_gI ⟨by decide, by decide⟩ (by decide) rfl kf_X3_26 dX3_isNext_1),
  List.forall_mem_cons.mpr ⟨(q_if_lt dX3_isNext_4 (by decide)).r,
  List.forall_mem_cons.mpr ⟨STP.r mo_al (q_aload_n dX3_isNext_7 rfl),
  List.forall_mem_cons.mpr ⟨STP.r mo_gI (q_gI ⟨by decide, by decide⟩ (by decide) rfl kf_X3_26 dX3_isNext_8),
  List.forall_mem_cons.mpr ⟨STP.r mo_al (q_aload_n dX3_isNext_11 rfl),
  List.forall_mem_cons.mpr ⟨STP.r mo_gI (q_gI ⟨by decide, by decide⟩ (by decide) rfl kf_X3_22 dX3_isNext_12),
  List.forall_mem_cons.mpr ⟨(q_ic_ge dX3_isNext_15 (by decide)).r,
  List.forall_mem_cons.mpr ⟨STP.r mo_al (q_aload_n dX3_isNext_18 rfl),
  List.forall_mem_cons.mpr ⟨STP.r mo_gI (q_gI ⟨by decide, by decide⟩ (by decide) rfl kf_X3_26 dX3_isNext_19),
  List.forall_mem_cons.mpr ⟨STP.r mo_al (q_aload_n dX3_isNext_22 rfl),
  List.forall_mem_cons.mpr ⟨STP.r mo_gR (q_gR ⟨by decide, by decide⟩ (by decide) rfl (by decide) kf_X3_9 dX3_isNext_23),
  List.forall_mem_cons.mpr ⟨STP.r mo_alen (q_alen dX3_isNext_26),
  List.forall_mem_cons.mpr ⟨(q_ic_ge dX3_isNext_27 (by decide)).r,
  List.forall_mem_cons.mpr ⟨STP.r mo_al (q_aload_n dX3_isNext_30 rfl),
  List.forall_mem_cons.mpr ⟨STP.r mo_gR (q_gR ⟨by decide, by decide⟩ (by decide) rfl (by decide) kf_X3_9 dX3_isNext_31),
  List.forall_mem_cons.mpr ⟨STP.r mo_al (q_aload_n dX3_isNext_34 rfl),
  List.forall_mem_cons.mpr ⟨STP.r mo_gI (q_gI ⟨by decide, by decide⟩ (by decide) rfl kf_X3_26 dX3_isNext_35),
  List.forall_mem_cons.mpr ⟨STP.r mo_cald (q_cald dX3_isNext_38),
  List.forall_mem_cons.mpr ⟨STP.r mo_il (q_iload_n dX3_isNext_39 rfl),
  List.forall_mem_cons.mpr ⟨(q_ic_ne dX3_isNext_40 (by decide)).r,
  List.forall_mem_cons.mpr ⟨STP.r mo_ic (q_iconst dX3_isNext_43 (by decide)),
  List.forall_mem_cons.mpr ⟨STP.r mo_goto (q_goto dX3_isNext_44 (by decide)),
  List.forall_mem_cons.mpr ⟨STP.r mo_ic (q_iconst dX3_isNext_47 (by decide)),
  List.forall_mem_cons.mpr ⟨r_zret dX3_isNext_48,
  fun _ h => absurd h List.not_mem_nil⟩⟩⟩⟩⟩⟩⟩⟩⟩⟩⟩⟩⟩⟩⟩⟩⟩⟩⟩⟩⟩⟩⟩⟩⟩)
theorem e_X3_isNext_0 {Q : mQ} {l1 : Value} {st : List Value} {g : mG} {x : Nat} : WP m_X3_isNext Q 0 [.ref x, l1] st g = WP m_X3_isNext Q 1 [.ref x, l1] (.ref x :: st) g := E_al (i := 0) (n := 1) lo_X3_isNext rfl rfl
theorem e_X3_isNext_1 {Q : mQ} {ls st : List Value} {g : mG} {a : Nat} : WP m_X3_isNext Q 1 ls (.ref a :: st) g = (gK g a = 4 ∧ WP m_X3_isNext Q 4 ls (.int (gI g a 4) :: st) g) := E_gI lo_X3_isNext rfl
theorem e_X3_isNext_4 {Q : mQ} {ls st : List Value} {g : mG} {x : Int32} : WP m_X3_isNext Q 4 ls (.int x :: st) g = ((x < 0 → WP m_X3_isNext Q 47 ls st g) ∧ (¬ (x < 0) → WP m_X3_isNext Q 7 ls st g)) := E_I1 (c := fun x => x < 0) (t := 47) lo_X3_isNext rfl
theorem e_X3_isNext_7 {Q : mQ} {l1 : Value} {st : List Value} {g : mG} {x : Nat} : WP m_X3_isNext Q 7 [.ref x, l1] st g = WP m_X3_isNext Q 8 [.ref x, l1] (.ref x :: st) g := E_al (i := 0) (n := 1) lo_X3_isNext rfl rfl
theorem e_X3_isNext_8 {Q : mQ} {ls st : List Value} {g : mG} {a : Nat} : WP m_X3_isNext Q 8 ls (.ref a :: st) g = (gK g a = 4 ∧ WP m_X3_isNext Q 11 ls (.int (gI g a 4) :: st) g) := E_gI lo_X3_isNext rfl
theorem e_X3_isNext_11 {Q : mQ} {l1 : Value} {st : List Value} {g : mG} {x : Nat} : WP m_X3_isNext Q 11 [.ref x, l1] st g = WP m_X3_isNext Q 12 [.ref x, l1] (.ref x :: st) g := E_al (i := 0) (n := 1) lo_X3_isNext rfl rfl
theorem e_X3_isNext_12 {Q : mQ} {ls st : List Value} {g : mG} {a : Nat} : WP m_X3_isNext Q 12 ls (.ref a :: st) g = (gK g a = 4 ∧ WP m_X3_isNext Q 15 ls (.int (gI g a 1) :: st) g) := E_gI lo_X3_isNext rfl
theorem e_X3_isNext_15 {Q : mQ} {ls st : List Value} {g : mG} {x y : Int32} : WP m_X3_isNext Q 15 ls (.int y :: .int x :: st) g = ((y ≤ x → WP m_X3_isNext Q 47 ls st g) ∧ (¬ (y ≤ x) → WP m_X3_isNext Q 18 ls st g)) := E_I2 (c := fun x y => y ≤ x) (t := 47) lo_X3_isNext rfl
theorem e_X3_isNext_18 {Q : mQ} {l1 : Value} {st : List Value} {g : mG} {x : Nat} : WP m_X3_isNext Q 18 [.ref x, l1] st g = WP m_X3_isNext Q 19 [.ref x, l1] (.ref x :: st) g := E_al (i := 0) (n := 1) lo_X3_isNext rfl rfl
theorem e_X3_isNext_19 {Q : mQ} {ls st : List Value} {g : mG} {a : Nat} : WP m_X3_isNext Q 19 ls (.ref a :: st) g = (gK g a = 4 ∧ WP m_X3_isNext Q 22 ls (.int (gI g a 4) :: st) g) := E_gI lo_X3_isNext rfl
theorem e_X3_isNext_22 {Q : mQ} {l1 : Value} {st : List Value} {g : mG} {x : Nat} : WP m_X3_isNext Q 22 [.ref x, l1] st g = WP m_X3_isNext Q 23 [.ref x, l1] (.ref x :: st) g := E_al (i := 0) (n := 1) lo_X3_isNext rfl rfl
theorem e_X3_isNext_23 {Q : mQ} {ls st : List Value} {g : mG} {a : Nat} : WP m_X3_isNext Q 23 ls (.ref a :: st) g = ((gK g a = 4 ∧ gR g a 0 ≠ 0) ∧ WP m_X3_isNext Q 26 ls (.ref (gR g a 0) :: st) g) := E_gR lo_X3_isNext rfl
theorem e_X3_isNext_26 {Q : mQ} {ls st : List Value} {g : mG} {a : Nat} : WP m_X3_isNext Q 26 ls (.ref a :: st) g = ((10 ≤ gK g a ∧ gK g a ≤ 17) ∧ WP m_X3_isNext Q 27 ls (.int (nI (gN g a)) :: st) g) := E_alen lo_X3_isNext rfl
theorem e_X3_isNext_27 {Q : mQ} {ls st : List Value} {g : mG} {x y : Int32} : WP m_X3_isNext Q 27 ls (.int y :: .int x :: st) g = ((y ≤ x → WP m_X3_isNext Q 47 ls st g) ∧ (¬ (y ≤ x) → WP m_X3_isNext Q 30 ls st g)) := E_I2 (c := fun x y => y ≤ x) (t := 47) lo_X3_isNext rfl
theorem e_X3_isNext_30 {Q : mQ} {l1 : Value} {st : List Value} {g : mG} {x : Nat} : WP m_X3_isNext Q 30 [.ref x, l1] st g = WP m_X3_isNext Q 31 [.ref x, l1] (.ref x :: st) g := E_al (i := 0) (n := 1) lo_X3_isNext rfl rfl
theorem e_X3_isNext_31 {Q : mQ} {ls st : List Value} {g : mG} {a : Nat} : WP m_X3_isNext Q 31 ls (.ref a :: st) g = ((gK g a = 4 ∧ gR g a 0 ≠ 0) ∧ WP m_X3_isNext Q 34 ls (.ref (gR g a 0) :: st) g) := E_gR lo_X3_isNext rfl
theorem e_X3_isNext_34 {Q : mQ} {l1 : Value} {st : List Value} {g : mG} {x : Nat} : WP m_X3_isNext Q 34 [.ref x, l1] st g = WP m_X3_isNext Q 35 [.ref x, l1] (.ref x :: st) g := E_al (i := 0) (n := 1) lo_X3_isNext rfl rfl
theorem e_X3_isNext_35 {Q : mQ} {ls st : List Value} {g : mG} {a : Nat} : WP m_X3_isNext Q 35 ls (.ref a :: st) g = (gK g a = 4 ∧ WP m_X3_isNext Q 38 ls (.int (gI g a 4) :: st) g) := E_gI lo_X3_isNext rfl
theorem e_X3_isNext_38 {Q : mQ} {ls st : List Value} {g : mG} {a : Nat} {i : Int32} : WP m_X3_isNext Q 38 ls (.int i :: .ref a :: st) g = ((gK g a = 13 ∧ vp_in i (gN g a)) ∧ WP m_X3_isNext Q 39 ls (.int (gI g a i.toNatClampNeg) :: st) g) := E_cald lo_X3_isNext rfl
theorem e_X3_isNext_39 {Q : mQ} {l0 : Value} {st : List Value} {g : mG} {x : Int32} : WP m_X3_isNext Q 39 [l0, .int x] st g = WP m_X3_isNext Q 40 [l0, .int x] (.int x :: st) g := E_il (i := 1) (n := 1) lo_X3_isNext rfl rfl
theorem e_X3_isNext_40 {Q : mQ} {ls st : List Value} {g : mG} {x y : Int32} : WP m_X3_isNext Q 40 ls (.int y :: .int x :: st) g = ((¬ x = y → WP m_X3_isNext Q 47 ls st g) ∧ (¬ (¬ x = y) → WP m_X3_isNext Q 43 ls st g)) := E_I2 (c := fun x y => ¬ x = y) (t := 47) lo_X3_isNext rfl
theorem e_X3_isNext_43 {Q : mQ} {ls st : List Value} {g : mG} : WP m_X3_isNext Q 43 ls st g = WP m_X3_isNext Q 44 ls (.int (nI 1) :: st) g := E_ic (v := nI 1) (n := 1) lo_X3_isNext rfl
theorem e_X3_isNext_44 {Q : mQ} {ls st : List Value} {g : mG} : WP m_X3_isNext Q 44 ls st g = WP m_X3_isNext Q 48 ls st g := E_goto lo_X3_isNext rfl
theorem e_X3_isNext_47 {Q : mQ} {ls st : List Value} {g : mG} : WP m_X3_isNext Q 47 ls st g = WP m_X3_isNext Q 48 ls (.int (nI 0) :: st) g := E_ic (v := nI 0) (n := 1) lo_X3_isNext rfl
theorem e_X3_isNext_48 {Q : mQ} {ls : List Value} {g : mG} {v : Int32} : WP m_X3_isNext Q 48 ls [.int v] g = ((v = 0 ∨ v = 1) ∧ Q (some (.int v)) g) := E_zret lo_X3_isNext rfl
/-! KilnPermits$OrderText.skip(C)Z -/
def m_X3_skip : List (Nat × mT) := [(0, tD (f_al 0 1)),
  (1, tD (f_il 1 1)),
  (2, tC w_X3_isNext 4 2),
  (5, tI1 (fun x => ¬ x = 0) 10),
  (8, tD (f_ic (nI 0) 1)),
  (9, tR f_zret),
  (10, tD (f_al 0 1)),
  (11, tD (f_dup)),
  (12, tD (f_gI 4 4)),
  (15, tD (f_ic (nI 1) 1)),
  (16, tD (f_b2 fun x y => x + y)),
  (17, tD (f_pI 4 4)),
  (20, tD (f_ic (nI 1) 1)),
  (21, tR f_zret)]
abbrev w_X3_skip : mS := wm m_X3_skip 2 0
set_option maxRecDepth 100000 in
theorem lo_X3_skip : locs_ok m_X3_skip := List.forall_mem_cons.mpr ⟨loc_D mo_al,
  List.forall_mem_cons.mpr ⟨loc_D mo_il,
  List.forall_mem_cons.mpr ⟨loc_C sm_X3_isNext.1,
  List.forall_mem_cons.mpr ⟨loc_I1,
  List.forall_mem_cons.mpr ⟨loc_D mo_ic,
  List.forall_mem_cons.mpr ⟨loc_R,
  List.forall_mem_cons.mpr ⟨loc_D mo_al,
  List.forall_mem_cons.mpr ⟨loc_D mo_dup,
  List.forall_mem_cons.mpr ⟨loc_D mo_gI,
  List.forall_mem_cons.mpr ⟨loc_D mo_ic,
  List.forall_mem_cons.mpr ⟨loc_D mo_b2,
  List.forall_mem_cons.mpr ⟨loc_D mo_pI,
  List.forall_mem_cons.mpr ⟨loc_D mo_ic,
  List.forall_mem_cons.mpr ⟨loc_R,
  fun _ h => absurd h List.not_mem_nil⟩⟩⟩⟩⟩⟩⟩⟩⟩⟩⟩⟩⟩⟩
set_option maxRecDepth 100000 in
theorem sm_X3_skip : SM yX3_skip cX3_skip 2 (some .boolean) 2 w_X3_skip := SM_of' RX3 "skip" rfl rfl (by decide) (by decide) (by decide) lo_X3_skip (List.forall_mem_cons.mpr ⟨STP.r mo_al (q_aload_n dX3_skip_0 rfl),
  List.forall_mem_cons.mpr ⟨STP.r mo_il (q_iload_n dX3_skip_1 rfl),
  List.forall_mem_cons.mpr ⟨(snd_CV sm_X3_isNext ⟨by decide, by decide⟩ rfl km_X3_40 kt_X3_isNext kv_X3_isNext rfl ki_X3 kx_X3_isNext ⟨by decide, by decide, by decide +kernel⟩ (by decide) (by decide) dX3_skip_2).r,
  List.forall_mem_cons.mpr ⟨(q_if_ne dX3_skip_5 (by decide)).r,
  List.forall_mem_cons.mpr ⟨STP.r mo_ic (q_iconst dX3_skip_8 (by decide)),
  List.forall_mem_cons.mpr ⟨r_zret dX3_skip_9,
  List.forall_mem_cons.mpr ⟨STP.r mo_al (q_aload_n dX3_skip_10 rfl),
  List.forall_mem_cons.mpr ⟨STP.r mo_dup (q_dup dX3_skip_11),
  List.forall_mem_cons.mpr ⟨STP.r mo_gI (q_gI ⟨by decide, by decide⟩ (by decide) rfl kf_X3_26 dX3_skip_12),
  List.forall_mem_cons.mpr ⟨STP.r mo_ic (q_iconst dX3_skip_15 (by decide)),
  List.forall_mem_cons.mpr ⟨STP.r mo_b2 (q_iadd dX3_skip_16),
  List.forall_mem_cons.mpr ⟨STP.r mo_pI (q_pI ⟨by decide, by decide⟩ (by decide) rfl rfl kf_X3_26 dX3_skip_17),
  List.forall_mem_cons.mpr ⟨STP.r mo_ic (q_iconst dX3_skip_20 (by decide)),
  List.forall_mem_cons.mpr ⟨r_zret dX3_skip_21,
  fun _ h => absurd h List.not_mem_nil⟩⟩⟩⟩⟩⟩⟩⟩⟩⟩⟩⟩⟩⟩)
theorem e_X3_skip_0 {Q : mQ} {l1 : Value} {st : List Value} {g : mG} {x : Nat} : WP m_X3_skip Q 0 [.ref x, l1] st g = WP m_X3_skip Q 1 [.ref x, l1] (.ref x :: st) g := E_al (i := 0) (n := 1) lo_X3_skip rfl rfl
theorem e_X3_skip_1 {Q : mQ} {l0 : Value} {st : List Value} {g : mG} {x : Int32} : WP m_X3_skip Q 1 [l0, .int x] st g = WP m_X3_skip Q 2 [l0, .int x] (.int x :: st) g := E_il (i := 1) (n := 1) lo_X3_skip rfl rfl
theorem e_X3_skip_2 {Q : mQ} {ls st : List Value} {g : mG} {b : Nat} {a0 : Value} : WP m_X3_skip Q 2 ls (a0 :: .ref b :: st) g = (st.length ≤ 4 ∧ gK g b = 4 ∧ stbs g ls ∧ stbs g st ∧ w_X3_isNext [.ref b, a0] g (fun v g' => WP m_X3_skip Q 5 ls (v.toList ++ st) g')) := E_CV (ar := [a0, .ref b]) lo_X3_skip rfl rfl rfl (by decide)
theorem e_X3_skip_5 {Q : mQ} {ls st : List Value} {g : mG} {x : Int32} : WP m_X3_skip Q 5 ls (.int x :: st) g = ((¬ x = 0 → WP m_X3_skip Q 10 ls st g) ∧ (¬ (¬ x = 0) → WP m_X3_skip Q 8 ls st g)) := E_I1 (c := fun x => ¬ x = 0) (t := 10) lo_X3_skip rfl
theorem e_X3_skip_8 {Q : mQ} {ls st : List Value} {g : mG} : WP m_X3_skip Q 8 ls st g = WP m_X3_skip Q 9 ls (.int (nI 0) :: st) g := E_ic (v := nI 0) (n := 1) lo_X3_skip rfl
theorem e_X3_skip_9 {Q : mQ} {ls : List Value} {g : mG} {v : Int32} : WP m_X3_skip Q 9 ls [.int v] g = ((v = 0 ∨ v = 1) ∧ Q (some (.int v)) g) := E_zret lo_X3_skip rfl
theorem e_X3_skip_10 {Q : mQ} {l1 : Value} {st : List Value} {g : mG} {x : Nat} : WP m_X3_skip Q 10 [.ref x, l1] st g = WP m_X3_skip Q 11 [.ref x, l1] (.ref x :: st) g := E_al (i := 0) (n := 1) lo_X3_skip rfl rfl
theorem e_X3_skip_11 {Q : mQ} {ls st : List Value} {g : mG} {x : Value} : WP m_X3_skip Q 11 ls (x :: st) g = (cat1 x ∧ WP m_X3_skip Q 12 ls (x :: x :: st) g) := E_dup lo_X3_skip rfl
theorem e_X3_skip_12 {Q : mQ} {ls st : List Value} {g : mG} {a : Nat} : WP m_X3_skip Q 12 ls (.ref a :: st) g = (gK g a = 4 ∧ WP m_X3_skip Q 15 ls (.int (gI g a 4) :: st) g) := E_gI lo_X3_skip rfl
theorem e_X3_skip_15 {Q : mQ} {ls st : List Value} {g : mG} : WP m_X3_skip Q 15 ls st g = WP m_X3_skip Q 16 ls (.int (nI 1) :: st) g := E_ic (v := nI 1) (n := 1) lo_X3_skip rfl
theorem e_X3_skip_16 {Q : mQ} {ls st : List Value} {g : mG} {x y : Int32} : WP m_X3_skip Q 16 ls (.int y :: .int x :: st) g = WP m_X3_skip Q 17 ls (.int (x + y) :: st) g := E_b2 (f := fun x y => x + y) lo_X3_skip rfl
theorem e_X3_skip_17 {Q : mQ} {ls st : List Value} {g : mG} {a : Nat} {v : Int32} : WP m_X3_skip Q 17 ls (.int v :: .ref a :: st) g = (gK g a = 4 ∧ WP m_X3_skip Q 20 ls st (pI g a 4 v)) := E_pI lo_X3_skip rfl
theorem e_X3_skip_20 {Q : mQ} {ls st : List Value} {g : mG} : WP m_X3_skip Q 20 ls st g = WP m_X3_skip Q 21 ls (.int (nI 1) :: st) g := E_ic (v := nI 1) (n := 1) lo_X3_skip rfl
theorem e_X3_skip_21 {Q : mQ} {ls : List Value} {g : mG} {v : Int32} : WP m_X3_skip Q 21 ls [.int v] g = ((v = 0 ∨ v = 1) ∧ Q (some (.int v)) g) := E_zret lo_X3_skip rfl
/-! KilnPermits$OrderText.digit()I -/
def m_X3_digit : List (Nat × mT) := [(0, tD (f_al 0 1)),
  (1, tD (f_gI 4 4)),
  (4, tI1 (fun x => x < 0) 30),
  (7, tD (f_al 0 1)),
  (8, tD (f_gI 4 4)),
  (11, tD (f_al 0 1)),
  (12, tD (f_gI 4 1)),
  (15, tI2 (fun x y => y ≤ x) 30),
  (18, tD (f_al 0 1)),
  (19, tD (f_gI 4 4)),
  (22, tD (f_al 0 1)),
  (23, tD (f_gR 4 0)),
  (26, tD (f_alen)),
  (27, tI2 (fun x y => x < y) 32),
  (30, tD (f_ic ((-1)) 1)),
  (31, tR f_iret),
  (32, tD (f_al 0 1)),
  (33, tD (f_gR 4 0)),
  (36, tD (f_al 0 1)),
  (37, tD (f_gI 4 4)),
  (40, tD (f_cald)),
  (41, tD (f_is 1 1)),
  (42, tD (f_il 1 1)),
  (43, tD (f_ic (nI 48) 2)),
  (45, tI2 (fun x y => x < y) 61),
  (48, tD (f_il 1 1)),
  (49, tD (f_ic (nI 57) 2)),
  (51, tI2 (fun x y => y < x) 61),
  (54, tD (f_il 1 1)),
  (55, tD (f_ic (nI 48) 2)),
  (57, tD (f_b2 fun x y => x - y)),
  (58, tD (f_goto 62)),
  (61, tD (f_ic ((-1)) 1)),
  (62, tR f_iret)]
abbrev w_X3_digit : mS := wm m_X3_digit 1 1
set_option maxRecDepth 100000 in
theorem lo_X3_digit : locs_ok m_X3_digit := List.forall_mem_cons.mpr ⟨loc_D mo_al,
  List.forall_mem_cons.mpr ⟨loc_D mo_gI,
  List.forall_mem_cons.mpr ⟨loc_I1,
  List.forall_mem_cons.mpr ⟨loc_D mo_al,
  List.forall_mem_cons.mpr ⟨loc_D mo_gI,
  List.forall_mem_cons.mpr ⟨loc_D mo_al,
  List.forall_mem_cons.mpr ⟨loc_D mo_gI,
  List.forall_mem_cons.mpr ⟨loc_I2,
  List.forall_mem_cons.mpr ⟨loc_D mo_al,
  List.forall_mem_cons.mpr ⟨loc_D mo_gI,
  List.forall_mem_cons.mpr ⟨loc_D mo_al,
  List.forall_mem_cons.mpr ⟨loc_D mo_gR,
  List.forall_mem_cons.mpr ⟨loc_D mo_alen,
  List.forall_mem_cons.mpr ⟨loc_I2,
  List.forall_mem_cons.mpr ⟨loc_D mo_ic,
  List.forall_mem_cons.mpr ⟨loc_R,
  List.forall_mem_cons.mpr ⟨loc_D mo_al,
  List.forall_mem_cons.mpr ⟨loc_D mo_gR,
  List.forall_mem_cons.mpr ⟨loc_D mo_al,
  List.forall_mem_cons.mpr ⟨loc_D mo_gI,
  List.forall_mem_cons.mpr ⟨loc_D mo_cald,
  List.forall_mem_cons.mpr ⟨loc_D mo_is,
  List.forall_mem_cons.mpr ⟨loc_D mo_il,
  List.forall_mem_cons.mpr ⟨loc_D mo_ic,
  List.forall_mem_cons.mpr ⟨loc_I2,
  List.forall_mem_cons.mpr ⟨loc_D mo_il,
  List.forall_mem_cons.mpr ⟨loc_D mo_ic,
  List.forall_mem_cons.mpr ⟨loc_I2,
  List.forall_mem_cons.mpr ⟨loc_D mo_il,
  List.forall_mem_cons.mpr ⟨loc_D mo_ic,
  List.forall_mem_cons.mpr ⟨loc_D mo_b2,
  List.forall_mem_cons.mpr ⟨loc_D mo_goto,
  List.forall_mem_cons.mpr ⟨loc_D mo_ic,
  List.forall_mem_cons.mpr ⟨loc_R,
  fun _ h => absurd h List.not_mem_nil⟩⟩⟩⟩⟩⟩⟩⟩⟩⟩⟩⟩⟩⟩⟩⟩⟩⟩⟩⟩⟩⟩⟩⟩⟩⟩⟩⟩⟩⟩⟩⟩⟩⟩
set_option maxRecDepth 100000 in
theorem sm_X3_digit : SM yX3_digit cX3_digit 2 (some .int) 1 w_X3_digit := SM_of' RX3 "digit" rfl rfl (by decide) (by decide) (by decide) lo_X3_digit (List.forall_mem_cons.mpr ⟨STP.r mo_al (q_aload_n dX3_digit_0 rfl),
  List.forall_mem_cons.mpr ⟨STP.r mo_gI (q_gI ⟨by decide, by decide⟩ (by decide) rfl kf_X3_26 dX3_digit_1),
  List.forall_mem_cons.mpr ⟨(q_if_lt dX3_digit_4 (by decide)).r,
  List.forall_mem_cons.mpr ⟨STP.r mo_al (q_aload_n dX3_digit_7 rfl),
  List.forall_mem_cons.mpr ⟨STP.r mo_gI (q_gI ⟨by decide, by decide⟩ (by decide) rfl kf_X3_26 dX3_digit_8),
  List.forall_mem_cons.mpr ⟨STP.r mo_al (q_aload_n dX3_digit_11 rfl),
  List.forall_mem_cons.mpr ⟨STP.r mo_gI (q_gI ⟨by decide, by decide⟩ (by decide) rfl kf_X3_22 dX3_digit_12),
  List.forall_mem_cons.mpr ⟨(q_ic_ge dX3_digit_15 (by decide)).r,
  List.forall_mem_cons.mpr ⟨STP.r mo_al (q_aload_n dX3_digit_18 rfl),
  List.forall_mem_cons.mpr ⟨STP.r mo_gI (q_gI ⟨by decide, by decide⟩ (by decide) rfl kf_X3_26 dX3_digit_19),
  List.forall_mem_cons.mpr ⟨STP.r mo_al (q_aload_n dX3_digit_22 rfl),
  List.forall_mem_cons.mpr ⟨STP.r mo_gR (q_gR ⟨by decide, by decide⟩ (by decide) rfl (by decide) kf_X3_9 dX3_digit_23),
  List.forall_mem_cons.mpr ⟨STP.r mo_alen (q_alen dX3_digit_26),
  List.forall_mem_cons.mpr ⟨(q_ic_lt dX3_digit_27 (by decide)).r,
  List.forall_mem_cons.mpr ⟨STP.r mo_ic (q_iconst dX3_digit_30 (by decide)),
  List.forall_mem_cons.mpr ⟨r_iret dX3_digit_31,
  List.forall_mem_cons.mpr ⟨STP.r mo_al (q_aload_n dX3_digit_32 rfl),
  List.forall_mem_cons.mpr ⟨STP.r mo_gR (q_gR ⟨by decide, by decide⟩ (by decide) rfl (by decide) kf_X3_9 dX3_digit_33),
  List.forall_mem_cons.mpr ⟨STP.r mo_al (q_aload_n dX3_digit_36 rfl),
  List.forall_mem_cons.mpr ⟨STP.r mo_gI (q_gI ⟨by decide, by decide⟩ (by decide) rfl kf_X3_26 dX3_digit_37),
  List.forall_mem_cons.mpr ⟨STP.r mo_cald (q_cald dX3_digit_40),
  List.forall_mem_cons.mpr ⟨STP.r mo_is (q_istore_n dX3_digit_41 rfl),
  List.forall_mem_cons.mpr ⟨STP.r mo_il (q_iload_n dX3_digit_42 rfl),
  List.forall_mem_cons.mpr ⟨STP.r mo_ic (q_bipush dX3_digit_43 (by decide)),
  List.forall_mem_cons.mpr ⟨(q_ic_lt dX3_digit_45 (by decide)).r,
  List.forall_mem_cons.mpr ⟨STP.r mo_il (q_iload_n dX3_digit_48 rfl),
  List.forall_mem_cons.mpr ⟨STP.r mo_ic (q_bipush dX3_digit_49 (by decide)),
  List.forall_mem_cons.mpr ⟨(q_ic_gt dX3_digit_51 (by decide)).r,
  List.forall_mem_cons.mpr ⟨STP.r mo_il (q_iload_n dX3_digit_54 rfl),
  List.forall_mem_cons.mpr ⟨STP.r mo_ic (q_bipush dX3_digit_55 (by decide)),
  List.forall_mem_cons.mpr ⟨STP.r mo_b2 (q_isub dX3_digit_57),
  List.forall_mem_cons.mpr ⟨STP.r mo_goto (q_goto dX3_digit_58 (by decide)),
  List.forall_mem_cons.mpr ⟨STP.r mo_ic (q_iconst dX3_digit_61 (by decide)),
  List.forall_mem_cons.mpr ⟨r_iret dX3_digit_62,
  fun _ h => absurd h List.not_mem_nil⟩⟩⟩⟩⟩⟩⟩⟩⟩⟩⟩⟩⟩⟩⟩⟩⟩⟩⟩⟩⟩⟩⟩⟩⟩⟩⟩⟩⟩⟩⟩⟩⟩⟩)
theorem e_X3_digit_0 {Q : mQ} {l1 : Value} {st : List Value} {g : mG} {x : Nat} : WP m_X3_digit Q 0 [.ref x, l1] st g = WP m_X3_digit Q 1 [.ref x, l1] (.ref x :: st) g := E_al (i := 0) (n := 1) lo_X3_digit rfl rfl
theorem e_X3_digit_1 {Q : mQ} {ls st : List Value} {g : mG} {a : Nat} : WP m_X3_digit Q 1 ls (.ref a :: st) g = (gK g a = 4 ∧ WP m_X3_digit Q 4 ls (.int (gI g a 4) :: st) g) := E_gI lo_X3_digit rfl
theorem e_X3_digit_4 {Q : mQ} {ls st : List Value} {g : mG} {x : Int32} : WP m_X3_digit Q 4 ls (.int x :: st) g = ((x < 0 → WP m_X3_digit Q 30 ls st g) ∧ (¬ (x < 0) → WP m_X3_digit Q 7 ls st g)) := E_I1 (c := fun x => x < 0) (t := 30) lo_X3_digit rfl
theorem e_X3_digit_7 {Q : mQ} {l1 : Value} {st : List Value} {g : mG} {x : Nat} : WP m_X3_digit Q 7 [.ref x, l1] st g = WP m_X3_digit Q 8 [.ref x, l1] (.ref x :: st) g := E_al (i := 0) (n := 1) lo_X3_digit rfl rfl
theorem e_X3_digit_8 {Q : mQ} {ls st : List Value} {g : mG} {a : Nat} : WP m_X3_digit Q 8 ls (.ref a :: st) g = (gK g a = 4 ∧ WP m_X3_digit Q 11 ls (.int (gI g a 4) :: st) g) := E_gI lo_X3_digit rfl
theorem e_X3_digit_11 {Q : mQ} {l1 : Value} {st : List Value} {g : mG} {x : Nat} : WP m_X3_digit Q 11 [.ref x, l1] st g = WP m_X3_digit Q 12 [.ref x, l1] (.ref x :: st) g := E_al (i := 0) (n := 1) lo_X3_digit rfl rfl
theorem e_X3_digit_12 {Q : mQ} {ls st : List Value} {g : mG} {a : Nat} : WP m_X3_digit Q 12 ls (.ref a :: st) g = (gK g a = 4 ∧ WP m_X3_digit Q 15 ls (.int (gI g a 1) :: st) g) := E_gI lo_X3_digit rfl
theorem e_X3_digit_15 {Q : mQ} {ls st : List Value} {g : mG} {x y : Int32} : WP m_X3_digit Q 15 ls (.int y :: .int x :: st) g = ((y ≤ x → WP m_X3_digit Q 30 ls st g) ∧ (¬ (y ≤ x) → WP m_X3_digit Q 18 ls st g)) := E_I2 (c := fun x y => y ≤ x) (t := 30) lo_X3_digit rfl
theorem e_X3_digit_18 {Q : mQ} {l1 : Value} {st : List Value} {g : mG} {x : Nat} : WP m_X3_digit Q 18 [.ref x, l1] st g = WP m_X3_digit Q 19 [.ref x, l1] (.ref x :: st) g := E_al (i := 0) (n := 1) lo_X3_digit rfl rfl
theorem e_X3_digit_19 {Q : mQ} {ls st : List Value} {g : mG} {a : Nat} : WP m_X3_digit Q 19 ls (.ref a :: st) g = (gK g a = 4 ∧ WP m_X3_digit Q 22 ls (.int (gI g a 4) :: st) g) := E_gI lo_X3_digit rfl
theorem e_X3_digit_22 {Q : mQ} {l1 : Value} {st : List Value} {g : mG} {x : Nat} : WP m_X3_digit Q 22 [.ref x, l1] st g = WP m_X3_digit Q 23 [.ref x, l1] (.ref x :: st) g := E_al (i := 0) (n := 1) lo_X3_digit rfl rfl
theorem e_X3_digit_23 {Q : mQ} {ls st : List Value} {g : mG} {a : Nat} : WP m_X3_digit Q 23 ls (.ref a :: st) g = ((gK g a = 4 ∧ gR g a 0 ≠ 0) ∧ WP m_X3_digit Q 26 ls (.ref (gR g a 0) :: st) g) := E_gR lo_X3_digit rfl
theorem e_X3_digit_26 {Q : mQ} {ls st : List Value} {g : mG} {a : Nat} : WP m_X3_digit Q 26 ls (.ref a :: st) g = ((10 ≤ gK g a ∧ gK g a ≤ 17) ∧ WP m_X3_digit Q 27 ls (.int (nI (gN g a)) :: st) g) := E_alen lo_X3_digit rfl
theorem e_X3_digit_27 {Q : mQ} {ls st : List Value} {g : mG} {x y : Int32} : WP m_X3_digit Q 27 ls (.int y :: .int x :: st) g = ((x < y → WP m_X3_digit Q 32 ls st g) ∧ (¬ (x < y) → WP m_X3_digit Q 30 ls st g)) := E_I2 (c := fun x y => x < y) (t := 32) lo_X3_digit rfl
theorem e_X3_digit_30 {Q : mQ} {ls st : List Value} {g : mG} : WP m_X3_digit Q 30 ls st g = WP m_X3_digit Q 31 ls (.int ((-1)) :: st) g := E_ic (v := (-1)) (n := 1) lo_X3_digit rfl
theorem e_X3_digit_31 {Q : mQ} {ls : List Value} {g : mG} {v : Int32} : WP m_X3_digit Q 31 ls [.int v] g = Q (some (.int v)) g := E_iret lo_X3_digit rfl
theorem e_X3_digit_32 {Q : mQ} {l1 : Value} {st : List Value} {g : mG} {x : Nat} : WP m_X3_digit Q 32 [.ref x, l1] st g = WP m_X3_digit Q 33 [.ref x, l1] (.ref x :: st) g := E_al (i := 0) (n := 1) lo_X3_digit rfl rfl
theorem e_X3_digit_33 {Q : mQ} {ls st : List Value} {g : mG} {a : Nat} : WP m_X3_digit Q 33 ls (.ref a :: st) g = ((gK g a = 4 ∧ gR g a 0 ≠ 0) ∧ WP m_X3_digit Q 36 ls (.ref (gR g a 0) :: st) g) := E_gR lo_X3_digit rfl
theorem e_X3_digit_36 {Q : mQ} {l1 : Value} {st : List Value} {g : mG} {x : Nat} : WP m_X3_digit Q 36 [.ref x, l1] st g = WP m_X3_digit Q 37 [.ref x, l1] (.ref x :: st) g := E_al (i := 0) (n := 1) lo_X3_digit rfl rfl
theorem e_X3_digit_37 {Q : mQ} {ls st : List Value} {g : mG} {a : Nat} : WP m_X3_digit Q 37 ls (.ref a :: st) g = (gK g a = 4 ∧ WP m_X3_digit Q 40 ls (.int (gI g a 4) :: st) g) := E_gI lo_X3_digit rfl
theorem e_X3_digit_40 {Q : mQ} {ls st : List Value} {g : mG} {a : Nat} {i : Int32} : WP m_X3_digit Q 40 ls (.int i :: .ref a :: st) g = ((gK g a = 13 ∧ vp_in i (gN g a)) ∧ WP m_X3_digit Q 41 ls (.int (gI g a i.toNatClampNeg) :: st) g) := E_cald lo_X3_digit rfl
theorem e_X3_digit_41 {Q : mQ} {l0 l1 : Value} {st : List Value} {g : mG} {x : Int32} : WP m_X3_digit Q 41 [l0, l1] (.int x :: st) g = (nl1 l0 ∧ WP m_X3_digit Q 42 [l0, .int x] st g) := E_is (i := 1) (n := 1) lo_X3_digit rfl (Nat.le_of_ble_eq_true rfl)
theorem e_X3_digit_42 {Q : mQ} {l0 : Value} {st : List Value} {g : mG} {x : Int32} : WP m_X3_digit Q 42 [l0, .int x] st g = WP m_X3_digit Q 43 [l0, .int x] (.int x :: st) g := E_il (i := 1) (n := 1) lo_X3_digit rfl rfl
theorem e_X3_digit_43 {Q : mQ} {ls st : List Value} {g : mG} : WP m_X3_digit Q 43 ls st g = WP m_X3_digit Q 45 ls (.int (nI 48) :: st) g := E_ic (v := nI 48) (n := 2) lo_X3_digit rfl
theorem e_X3_digit_45 {Q : mQ} {ls st : List Value} {g : mG} {x y : Int32} : WP m_X3_digit Q 45 ls (.int y :: .int x :: st) g = ((x < y → WP m_X3_digit Q 61 ls st g) ∧ (¬ (x < y) → WP m_X3_digit Q 48 ls st g)) := E_I2 (c := fun x y => x < y) (t := 61) lo_X3_digit rfl
theorem e_X3_digit_48 {Q : mQ} {l0 : Value} {st : List Value} {g : mG} {x : Int32} : WP m_X3_digit Q 48 [l0, .int x] st g = WP m_X3_digit Q 49 [l0, .int x] (.int x :: st) g := E_il (i := 1) (n := 1) lo_X3_digit rfl rfl
theorem e_X3_digit_49 {Q : mQ} {ls st : List Value} {g : mG} : WP m_X3_digit Q 49 ls st g = WP m_X3_digit Q 51 ls (.int (nI 57) :: st) g := E_ic (v := nI 57) (n := 2) lo_X3_digit rfl
theorem e_X3_digit_51 {Q : mQ} {ls st : List Value} {g : mG} {x y : Int32} : WP m_X3_digit Q 51 ls (.int y :: .int x :: st) g = ((y < x → WP m_X3_digit Q 61 ls st g) ∧ (¬ (y < x) → WP m_X3_digit Q 54 ls st g)) := E_I2 (c := fun x y => y < x) (t := 61) lo_X3_digit rfl
theorem e_X3_digit_54 {Q : mQ} {l0 : Value} {st : List Value} {g : mG} {x : Int32} : WP m_X3_digit Q 54 [l0, .int x] st g = WP m_X3_digit Q 55 [l0, .int x] (.int x :: st) g := E_il (i := 1) (n := 1) lo_X3_digit rfl rfl
theorem e_X3_digit_55 {Q : mQ} {ls st : List Value} {g : mG} : WP m_X3_digit Q 55 ls st g = WP m_X3_digit Q 57 ls (.int (nI 48) :: st) g := E_ic (v := nI 48) (n := 2) lo_X3_digit rfl
theorem e_X3_digit_57 {Q : mQ} {ls st : List Value} {g : mG} {x y : Int32} : WP m_X3_digit Q 57 ls (.int y :: .int x :: st) g = WP m_X3_digit Q 58 ls (.int (x - y) :: st) g := E_b2 (f := fun x y => x - y) lo_X3_digit rfl
theorem e_X3_digit_58 {Q : mQ} {ls st : List Value} {g : mG} : WP m_X3_digit Q 58 ls st g = WP m_X3_digit Q 62 ls st g := E_goto lo_X3_digit rfl
theorem e_X3_digit_61 {Q : mQ} {ls st : List Value} {g : mG} : WP m_X3_digit Q 61 ls st g = WP m_X3_digit Q 62 ls (.int ((-1)) :: st) g := E_ic (v := (-1)) (n := 1) lo_X3_digit rfl
theorem e_X3_digit_62 {Q : mQ} {ls : List Value} {g : mG} {v : Int32} : WP m_X3_digit Q 62 ls [.int v] g = Q (some (.int v)) g := E_iret lo_X3_digit rfl
/-! KilnPermits$OrderText.readNumber(I)I -/
def m_X3_readNumber : List (Nat × mT) := [(0, tD (f_ic (nI 0) 1)),
  (1, tD (f_is 2 1)),
  (2, tD (f_ic (nI 0) 1)),
  (3, tD (f_is 3 1)),
  (4, tD (f_il 3 1)),
  (5, tD (f_ic (nI 60) 2)),
  (7, tI2 (fun x y => y ≤ x) 79),
  (10, tD (f_al 0 1)),
  (11, tC w_X3_digit 4 1),
  (14, tD (f_is 4 2)),
  (16, tD (f_il 2 1)),
  (17, tI1 (fun x => ¬ x = 0) 29),
  (20, tD (f_il 4 2)),
  (22, tI1 (fun x => ¬ x = 0) 29),
  (25, tD (f_ic (nI 1) 1)),
  (26, tD (f_goto 30)),
  (29, tD (f_ic (nI 0) 1)),
  (30, tD (f_is 5 2)),
  (32, tD (f_il 4 2)),
  (34, tI1 (fun x => x < 0) 53),
  (37, tD (f_il 5 2)),
  (39, tI1 (fun x => ¬ x = 0) 53),
  (42, tD (f_il 2 1)),
  (43, tD (f_ic (nI 10) 2)),
  (45, tD (f_b2 fun x y => x * y)),
  (46, tD (f_il 4 2)),
  (48, tD (f_b2 fun x y => x + y)),
  (49, tD (f_il 1 1)),
  (50, tI2 (fun x y => x ≤ y) 55),
  (53, tD (f_il 2 1)),
  (54, tR f_iret),
  (55, tD (f_il 2 1)),
  (56, tD (f_ic (nI 10) 2)),
  (58, tD (f_b2 fun x y => x * y)),
  (59, tD (f_il 4 2)),
  (61, tD (f_b2 fun x y => x + y)),
  (62, tD (f_is 2 1)),
  (63, tD (f_al 0 1)),
  (64, tD (f_dup)),
  (65, tD (f_gI 4 4)),
  (68, tD (f_ic (nI 1) 1)),
  (69, tD (f_b2 fun x y => x + y)),
  (70, tD (f_pI 4 4)),
  (73, tD (f_inc 3 (nI 1))),
  (76, tD (f_goto 4)),
  (79, tD (f_il 2 1)),
  (80, tR f_iret)]
abbrev w_X3_readNumber : mS := wm m_X3_readNumber 2 4
set_option maxRecDepth 100000 in
theorem lo_X3_readNumber : locs_ok m_X3_readNumber := List.forall_mem_cons.mpr ⟨loc_D mo_ic,
  List.forall_mem_cons.mpr ⟨loc_D mo_is,
  List.forall_mem_cons.mpr ⟨loc_D mo_ic,
  List.forall_mem_cons.mpr ⟨loc_D mo_is,
  List.forall_mem_cons.mpr ⟨loc_D mo_il,
  List.forall_mem_cons.mpr ⟨loc_D mo_ic,
  List.forall_mem_cons.mpr ⟨loc_I2,
  List.forall_mem_cons.mpr ⟨loc_D mo_al,
  List.forall_mem_cons.mpr ⟨loc_C sm_X3_digit.1,
  List.forall_mem_cons.mpr ⟨loc_D mo_is,
  List.forall_mem_cons.mpr ⟨loc_D mo_il,
  List.forall_mem_cons.mpr ⟨loc_I1,
  List.forall_mem_cons.mpr ⟨loc_D mo_il,
  List.forall_mem_cons.mpr ⟨loc_I1,
  List.forall_mem_cons.mpr ⟨loc_D mo_ic,
  List.forall_mem_cons.mpr ⟨loc_D mo_goto,
  List.forall_mem_cons.mpr ⟨loc_D mo_ic,
  List.forall_mem_cons.mpr ⟨loc_D mo_is,
  List.forall_mem_cons.mpr ⟨loc_D mo_il,
  List.forall_mem_cons.mpr ⟨loc_I1,
  List.forall_mem_cons.mpr ⟨loc_D mo_il,
  List.forall_mem_cons.mpr ⟨loc_I1,
  List.forall_mem_cons.mpr ⟨loc_D mo_il,
  List.forall_mem_cons.mpr ⟨loc_D mo_ic,
  List.forall_mem_cons.mpr ⟨loc_D mo_b2,
  List.forall_mem_cons.mpr ⟨loc_D mo_il,
  List.forall_mem_cons.mpr ⟨loc_D mo_b2,
  List.forall_mem_cons.mpr ⟨loc_D mo_il,
  List.forall_mem_cons.mpr ⟨loc_I2,
  List.forall_mem_cons.mpr ⟨loc_D mo_il,
  List.forall_mem_cons.mpr ⟨loc_R,
  List.forall_mem_cons.mpr ⟨loc_D mo_il,
  List.forall_mem_cons.mpr ⟨loc_D mo_ic,
  List.forall_mem_cons.mpr ⟨loc_D mo_b2,
  List.forall_mem_cons.mpr ⟨loc_D mo_il,
  List.forall_mem_cons.mpr ⟨loc_D mo_b2,
  List.forall_mem_cons.mpr ⟨loc_D mo_is,
  List.forall_mem_cons.mpr ⟨loc_D mo_al,
  List.forall_mem_cons.mpr ⟨loc_D mo_dup,
  List.forall_mem_cons.mpr ⟨loc_D mo_gI,
  List.forall_mem_cons.mpr ⟨loc_D mo_ic,
  List.forall_mem_cons.mpr ⟨loc_D mo_b2,
  List.forall_mem_cons.mpr ⟨loc_D mo_pI,
  List.forall_mem_cons.mpr ⟨loc_D mo_inc,
  List.forall_mem_cons.mpr ⟨loc_D mo_goto,
  List.forall_mem_cons.mpr ⟨loc_D mo_il,
  List.forall_mem_cons.mpr ⟨loc_R,
  fun _ h => absurd h List.not_mem_nil⟩⟩⟩⟩⟩⟩⟩⟩⟩⟩⟩⟩⟩⟩⟩⟩⟩⟩⟩⟩⟩⟩⟩⟩⟩⟩⟩⟩⟩⟩⟩⟩⟩⟩⟩⟩⟩⟩⟩⟩⟩⟩⟩⟩⟩⟩⟩
set_option maxRecDepth 100000 in
theorem sm_X3_readNumber : SM yX3_readNumber cX3_readNumber 6 (some .int) 2 w_X3_readNumber := SM_of' RX3 "readNumber" rfl rfl (by decide) (by decide) (by decide) lo_X3_readNumber (List.forall_mem_cons.mpr ⟨STP.r mo_ic (q_iconst dX3_readNumber_0 (by decide)),
  List.forall_mem_cons.mpr ⟨STP.r mo_is (q_istore_n dX3_readNumber_1 rfl),
  List.forall_mem_cons.mpr ⟨STP.r mo_ic (q_iconst dX3_readNumber_2 (by decide)),
  List.forall_mem_cons.mpr ⟨STP.r mo_is (q_istore_n dX3_readNumber_3 rfl),
  List.forall_mem_cons.mpr ⟨STP.r mo_il (q_iload_n dX3_readNumber_4 rfl),
  List.forall_mem_cons.mpr ⟨STP.r mo_ic (q_bipush dX3_readNumber_5 (by decide)),
  List.forall_mem_cons.mpr ⟨(q_ic_ge dX3_readNumber_7 (by decide)).r,
  List.forall_mem_cons.mpr ⟨STP.r mo_al (q_aload_n dX3_readNumber_10 rfl),
  List.forall_mem_cons.mpr ⟨(snd_CV sm_X3_digit ⟨by decide, by decide⟩ rfl km_X3_47 kt_X3_digit kv_X3_digit rfl ki_X3 kx_X3_digit ⟨by decide, by decide, by decide +kernel⟩ (by decide) (by decide) dX3_readNumber_11).r,
  List.forall_mem_cons.mpr ⟨STP.r mo_is (q_istore dX3_readNumber_14),
  List.forall_mem_cons.mpr ⟨STP.r mo_il (q_iload_n dX3_readNumber_16 rfl),
  List.forall_mem_cons.mpr ⟨(q_if_ne dX3_readNumber_17 (by decide)).r,
  List.forall_mem_cons.mpr ⟨STP.r mo_il (q_iload dX3_readNumber_20),
  List.forall_mem_cons.mpr ⟨(q_if_ne dX3_readNumber_22 (by decide)).r,
  List.forall_mem_cons.mpr ⟨STP.r mo_ic (q_iconst dX3_readNumber_25 (by decide)),
  List.forall_mem_cons.mpr ⟨STP.r mo_goto (q_goto dX3_readNumber_26 (by decide)),
  List.forall_mem_cons.mpr ⟨STP.r mo_ic (q_iconst dX3_readNumber_29 (by decide)),
  List.forall_mem_cons.mpr ⟨STP.r mo_is (q_istore dX3_readNumber_30),
  List.forall_mem_cons.mpr ⟨STP.r mo_il (q_iload dX3_readNumber_32),
  List.forall_mem_cons.mpr ⟨(q_if_lt dX3_readNumber_34 (by decide)).r,
  List.forall_mem_cons.mpr ⟨STP.r mo_il (q_iload dX3_readNumber_37),
  List.forall_mem_cons.mpr ⟨(q_if_ne dX3_readNumber_39 (by decide)).r,
  List.forall_mem_cons.mpr ⟨STP.r mo_il (q_iload_n dX3_readNumber_42 rfl),
  List.forall_mem_cons.mpr ⟨STP.r mo_ic (q_bipush dX3_readNumber_43 (by decide)),
  List.forall_mem_cons.mpr ⟨STP.r mo_b2 (q_imul dX3_readNumber_45),
  List.forall_mem_cons.mpr ⟨STP.r mo_il (q_iload dX3_readNumber_46),
  List.forall_mem_cons.mpr ⟨STP.r mo_b2 (q_iadd dX3_readNumber_48),
  List.forall_mem_cons.mpr ⟨STP.r mo_il (q_iload_n dX3_readNumber_49 rfl),
  List.forall_mem_cons.mpr ⟨(q_ic_le dX3_readNumber_50 (by decide)).r,
  List.forall_mem_cons.mpr ⟨STP.r mo_il (q_iload_n dX3_readNumber_53 rfl),
  List.forall_mem_cons.mpr ⟨r_iret dX3_readNumber_54,
  List.forall_mem_cons.mpr ⟨STP.r mo_il (q_iload_n dX3_readNumber_55 rfl),
  List.forall_mem_cons.mpr ⟨STP.r mo_ic (q_bipush dX3_readNumber_56 (by decide)),
  List.forall_mem_cons.mpr ⟨STP.r mo_b2 (q_imul dX3_readNumber_58),
  List.forall_mem_cons.mpr ⟨STP.r mo_il (q_iload dX3_readNumber_59),
  List.forall_mem_cons.mpr ⟨STP.r mo_b2 (q_iadd dX3_readNumber_61),
  List.forall_mem_cons.mpr ⟨STP.r mo_is (q_istore_n dX3_readNumber_62 rfl),
  List.forall_mem_cons.mpr ⟨STP.r mo_al (q_aload_n dX3_readNumber_63 rfl),
  List.forall_mem_cons.mpr ⟨STP.r mo_dup (q_dup dX3_readNumber_64),
  List.forall_mem_cons.mpr ⟨STP.r mo_gI (q_gI ⟨by decide, by decide⟩ (by decide) rfl kf_X3_26 dX3_readNumber_65),
  List.forall_mem_cons.mpr ⟨STP.r mo_ic (q_iconst dX3_readNumber_68 (by decide)),
  List.forall_mem_cons.mpr ⟨STP.r mo_b2 (q_iadd dX3_readNumber_69),
  List.forall_mem_cons.mpr ⟨STP.r mo_pI (q_pI ⟨by decide, by decide⟩ (by decide) rfl rfl kf_X3_26 dX3_readNumber_70),
  List.forall_mem_cons.mpr ⟨STP.r mo_inc (q_inc dX3_readNumber_73 (by decide)),
  List.forall_mem_cons.mpr ⟨STP.r mo_goto (q_goto dX3_readNumber_76 (by decide)),
  List.forall_mem_cons.mpr ⟨STP.r mo_il (q_iload_n dX3_readNumber_79 rfl),
  List.forall_mem_cons.mpr ⟨r_iret dX3_readNumber_80,
  fun _ h => absurd h List.not_mem_nil⟩⟩⟩⟩⟩⟩⟩⟩⟩⟩⟩⟩⟩⟩⟩⟩⟩⟩⟩⟩⟩⟩⟩⟩⟩⟩⟩⟩⟩⟩⟩⟩⟩⟩⟩⟩⟩⟩⟩⟩⟩⟩⟩⟩⟩⟩⟩)
theorem e_X3_readNumber_0 {Q : mQ} {ls st : List Value} {g : mG} : WP m_X3_readNumber Q 0 ls st g = WP m_X3_readNumber Q 1 ls (.int (nI 0) :: st) g := E_ic (v := nI 0) (n := 1) lo_X3_readNumber rfl
theorem e_X3_readNumber_1 {Q : mQ} {l0 l1 l2 l3 l4 l5 : Value} {st : List Value} {g : mG} {x : Int32} : WP m_X3_readNumber Q 1 [l0, l1, l2, l3, l4, l5] (.int x :: st) g = (nl1 l1 ∧ WP m_X3_readNumber Q 2 [l0, l1, .int x, l3, l4, l5] st g) := E_is (i := 2) (n := 1) lo_X3_readNumber rfl (Nat.le_of_ble_eq_true rfl)
theorem e_X3_readNumber_2 {Q : mQ} {ls st : List Value} {g : mG} : WP m_X3_readNumber Q 2 ls st g = WP m_X3_readNumber Q 3 ls (.int (nI 0) :: st) g := E_ic (v := nI 0) (n := 1) lo_X3_readNumber rfl
theorem e_X3_readNumber_3 {Q : mQ} {l0 l1 l2 l3 l4 l5 : Value} {st : List Value} {g : mG} {x : Int32} : WP m_X3_readNumber Q 3 [l0, l1, l2, l3, l4, l5] (.int x :: st) g = (nl1 l2 ∧ WP m_X3_readNumber Q 4 [l0, l1, l2, .int x, l4, l5] st g) := E_is (i := 3) (n := 1) lo_X3_readNumber rfl (Nat.le_of_ble_eq_true rfl)
theorem e_X3_readNumber_4 {Q : mQ} {l0 l1 l2 l4 l5 : Value} {st : List Value} {g : mG} {x : Int32} : WP m_X3_readNumber Q 4 [l0, l1, l2, .int x, l4, l5] st g = WP m_X3_readNumber Q 5 [l0, l1, l2, .int x, l4, l5] (.int x :: st) g := E_il (i := 3) (n := 1) lo_X3_readNumber rfl rfl
theorem e_X3_readNumber_5 {Q : mQ} {ls st : List Value} {g : mG} : WP m_X3_readNumber Q 5 ls st g = WP m_X3_readNumber Q 7 ls (.int (nI 60) :: st) g := E_ic (v := nI 60) (n := 2) lo_X3_readNumber rfl
theorem e_X3_readNumber_7 {Q : mQ} {ls st : List Value} {g : mG} {x y : Int32} : WP m_X3_readNumber Q 7 ls (.int y :: .int x :: st) g = ((y ≤ x → WP m_X3_readNumber Q 79 ls st g) ∧ (¬ (y ≤ x) → WP m_X3_readNumber Q 10 ls st g)) := E_I2 (c := fun x y => y ≤ x) (t := 79) lo_X3_readNumber rfl
theorem e_X3_readNumber_10 {Q : mQ} {l1 l2 l3 l4 l5 : Value} {st : List Value} {g : mG} {x : Nat} : WP m_X3_readNumber Q 10 [.ref x, l1, l2, l3, l4, l5] st g = WP m_X3_readNumber Q 11 [.ref x, l1, l2, l3, l4, l5] (.ref x :: st) g := E_al (i := 0) (n := 1) lo_X3_readNumber rfl rfl
theorem e_X3_readNumber_11 {Q : mQ} {ls st : List Value} {g : mG} {b : Nat} : WP m_X3_readNumber Q 11 ls (.ref b :: st) g = (st.length ≤ 4 ∧ gK g b = 4 ∧ stbs g ls ∧ stbs g st ∧ w_X3_digit [.ref b] g (fun v g' => WP m_X3_readNumber Q 14 ls (v.toList ++ st) g')) := E_CV (ar := [.ref b]) lo_X3_readNumber rfl rfl rfl (by decide)
theorem e_X3_readNumber_14 {Q : mQ} {l0 l1 l2 l3 l4 l5 : Value} {st : List Value} {g : mG} {x : Int32} : WP m_X3_readNumber Q 14 [l0, l1, l2, l3, l4, l5] (.int x :: st) g = (nl1 l3 ∧ WP m_X3_readNumber Q 16 [l0, l1, l2, l3, .int x, l5] st g) := E_is (i := 4) (n := 2) lo_X3_readNumber rfl (Nat.le_of_ble_eq_true rfl)
theorem e_X3_readNumber_16 {Q : mQ} {l0 l1 l3 l4 l5 : Value} {st : List Value} {g : mG} {x : Int32} : WP m_X3_readNumber Q 16 [l0, l1, .int x, l3, l4, l5] st g = WP m_X3_readNumber Q 17 [l0, l1, .int x, l3, l4, l5] (.int x :: st) g := E_il (i := 2) (n := 1) lo_X3_readNumber rfl rfl
theorem e_X3_readNumber_17 {Q : mQ} {ls st : List Value} {g : mG} {x : Int32} : WP m_X3_readNumber Q 17 ls (.int x :: st) g = ((¬ x = 0 → WP m_X3_readNumber Q 29 ls st g) ∧ (¬ (¬ x = 0) → WP m_X3_readNumber Q 20 ls st g)) := E_I1 (c := fun x => ¬ x = 0) (t := 29) lo_X3_readNumber rfl
theorem e_X3_readNumber_20 {Q : mQ} {l0 l1 l2 l3 l5 : Value} {st : List Value} {g : mG} {x : Int32} : WP m_X3_readNumber Q 20 [l0, l1, l2, l3, .int x, l5] st g = WP m_X3_readNumber Q 22 [l0, l1, l2, l3, .int x, l5] (.int x :: st) g := E_il (i := 4) (n := 2) lo_X3_readNumber rfl rfl
theorem e_X3_readNumber_22 {Q : mQ} {ls st : List Value} {g : mG} {x : Int32} : WP m_X3_readNumber Q 22 ls (.int x :: st) g = ((¬ x = 0 → WP m_X3_readNumber Q 29 ls st g) ∧ (¬ (¬ x = 0) → WP m_X3_readNumber Q 25 ls st g)) := E_I1 (c := fun x => ¬ x = 0) (t := 29) lo_X3_readNumber rfl
theorem e_X3_readNumber_25 {Q : mQ} {ls st : List Value} {g : mG} : WP m_X3_readNumber Q 25 ls st g = WP m_X3_readNumber Q 26 ls (.int (nI 1) :: st) g := E_ic (v := nI 1) (n := 1) lo_X3_readNumber rfl
theorem e_X3_readNumber_26 {Q : mQ} {ls st : List Value} {g : mG} : WP m_X3_readNumber Q 26 ls st g = WP m_X3_readNumber Q 30 ls st g := E_goto lo_X3_readNumber rfl
theorem e_X3_readNumber_29 {Q : mQ} {ls st : List Value} {g : mG} : WP m_X3_readNumber Q 29 ls st g = WP m_X3_readNumber Q 30 ls (.int (nI 0) :: st) g := E_ic (v := nI 0) (n := 1) lo_X3_readNumber rfl
theorem e_X3_readNumber_30 {Q : mQ} {l0 l1 l2 l3 l4 l5 : Value} {st : List Value} {g : mG} {x : Int32} : WP m_X3_readNumber Q 30 [l0, l1, l2, l3, l4, l5] (.int x :: st) g = (nl1 l4 ∧ WP m_X3_readNumber Q 32 [l0, l1, l2, l3, l4, .int x] st g) := E_is (i := 5) (n := 2) lo_X3_readNumber rfl (Nat.le_of_ble_eq_true rfl)
theorem e_X3_readNumber_32 {Q : mQ} {l0 l1 l2 l3 l5 : Value} {st : List Value} {g : mG} {x : Int32} : WP m_X3_readNumber Q 32 [l0, l1, l2, l3, .int x, l5] st g = WP m_X3_readNumber Q 34 [l0, l1, l2, l3, .int x, l5] (.int x :: st) g := E_il (i := 4) (n := 2) lo_X3_readNumber rfl rfl
theorem e_X3_readNumber_34 {Q : mQ} {ls st : List Value} {g : mG} {x : Int32} : WP m_X3_readNumber Q 34 ls (.int x :: st) g = ((x < 0 → WP m_X3_readNumber Q 53 ls st g) ∧ (¬ (x < 0) → WP m_X3_readNumber Q 37 ls st g)) := E_I1 (c := fun x => x < 0) (t := 53) lo_X3_readNumber rfl
theorem e_X3_readNumber_37 {Q : mQ} {l0 l1 l2 l3 l4 : Value} {st : List Value} {g : mG} {x : Int32} : WP m_X3_readNumber Q 37 [l0, l1, l2, l3, l4, .int x] st g = WP m_X3_readNumber Q 39 [l0, l1, l2, l3, l4, .int x] (.int x :: st) g := E_il (i := 5) (n := 2) lo_X3_readNumber rfl rfl
theorem e_X3_readNumber_39 {Q : mQ} {ls st : List Value} {g : mG} {x : Int32} : WP m_X3_readNumber Q 39 ls (.int x :: st) g = ((¬ x = 0 → WP m_X3_readNumber Q 53 ls st g) ∧ (¬ (¬ x = 0) → WP m_X3_readNumber Q 42 ls st g)) := E_I1 (c := fun x => ¬ x = 0) (t := 53) lo_X3_readNumber rfl
theorem e_X3_readNumber_42 {Q : mQ} {l0 l1 l3 l4 l5 : Value} {st : List Value} {g : mG} {x : Int32} : WP m_X3_readNumber Q 42 [l0, l1, .int x, l3, l4, l5] st g = WP m_X3_readNumber Q 43 [l0, l1, .int x, l3, l4, l5] (.int x :: st) g := E_il (i := 2) (n := 1) lo_X3_readNumber rfl rfl
theorem e_X3_readNumber_43 {Q : mQ} {ls st : List Value} {g : mG} : WP m_X3_readNumber Q 43 ls st g = WP m_X3_readNumber Q 45 ls (.int (nI 10) :: st) g := E_ic (v := nI 10) (n := 2) lo_X3_readNumber rfl
theorem e_X3_readNumber_45 {Q : mQ} {ls st : List Value} {g : mG} {x y : Int32} : WP m_X3_readNumber Q 45 ls (.int y :: .int x :: st) g = WP m_X3_readNumber Q 46 ls (.int (x * y) :: st) g := E_b2 (f := fun x y => x * y) lo_X3_readNumber rfl
theorem e_X3_readNumber_46 {Q : mQ} {l0 l1 l2 l3 l5 : Value} {st : List Value} {g : mG} {x : Int32} : WP m_X3_readNumber Q 46 [l0, l1, l2, l3, .int x, l5] st g = WP m_X3_readNumber Q 48 [l0, l1, l2, l3, .int x, l5] (.int x :: st) g := E_il (i := 4) (n := 2) lo_X3_readNumber rfl rfl
theorem e_X3_readNumber_48 {Q : mQ} {ls st : List Value} {g : mG} {x y : Int32} : WP m_X3_readNumber Q 48 ls (.int y :: .int x :: st) g = WP m_X3_readNumber Q 49 ls (.int (x + y) :: st) g := E_b2 (f := fun x y => x + y) lo_X3_readNumber rfl
theorem e_X3_readNumber_49 {Q : mQ} {l0 l2 l3 l4 l5 : Value} {st : List Value} {g : mG} {x : Int32} : WP m_X3_readNumber Q 49 [l0, .int x, l2, l3, l4, l5] st g = WP m_X3_readNumber Q 50 [l0, .int x, l2, l3, l4, l5] (.int x :: st) g := E_il (i := 1) (n := 1) lo_X3_readNumber rfl rfl
theorem e_X3_readNumber_50 {Q : mQ} {ls st : List Value} {g : mG} {x y : Int32} : WP m_X3_readNumber Q 50 ls (.int y :: .int x :: st) g = ((x ≤ y → WP m_X3_readNumber Q 55 ls st g) ∧ (¬ (x ≤ y) → WP m_X3_readNumber Q 53 ls st g)) := E_I2 (c := fun x y => x ≤ y) (t := 55) lo_X3_readNumber rfl
theorem e_X3_readNumber_53 {Q : mQ} {l0 l1 l3 l4 l5 : Value} {st : List Value} {g : mG} {x : Int32} : WP m_X3_readNumber Q 53 [l0, l1, .int x, l3, l4, l5] st g = WP m_X3_readNumber Q 54 [l0, l1, .int x, l3, l4, l5] (.int x :: st) g := E_il (i := 2) (n := 1) lo_X3_readNumber rfl rfl
theorem e_X3_readNumber_54 {Q : mQ} {ls : List Value} {g : mG} {v : Int32} : WP m_X3_readNumber Q 54 ls [.int v] g = Q (some (.int v)) g := E_iret lo_X3_readNumber rfl
theorem e_X3_readNumber_55 {Q : mQ} {l0 l1 l3 l4 l5 : Value} {st : List Value} {g : mG} {x : Int32} : WP m_X3_readNumber Q 55 [l0, l1, .int x, l3, l4, l5] st g = WP m_X3_readNumber Q 56 [l0, l1, .int x, l3, l4, l5] (.int x :: st) g := E_il (i := 2) (n := 1) lo_X3_readNumber rfl rfl
theorem e_X3_readNumber_56 {Q : mQ} {ls st : List Value} {g : mG} : WP m_X3_readNumber Q 56 ls st g = WP m_X3_readNumber Q 58 ls (.int (nI 10) :: st) g := E_ic (v := nI 10) (n := 2) lo_X3_readNumber rfl
theorem e_X3_readNumber_58 {Q : mQ} {ls st : List Value} {g : mG} {x y : Int32} : WP m_X3_readNumber Q 58 ls (.int y :: .int x :: st) g = WP m_X3_readNumber Q 59 ls (.int (x * y) :: st) g := E_b2 (f := fun x y => x * y) lo_X3_readNumber rfl
theorem e_X3_readNumber_59 {Q : mQ} {l0 l1 l2 l3 l5 : Value} {st : List Value} {g : mG} {x : Int32} : WP m_X3_readNumber Q 59 [l0, l1, l2, l3, .int x, l5] st g = WP m_X3_readNumber Q 61 [l0, l1, l2, l3, .int x, l5] (.int x :: st) g := E_il (i := 4) (n := 2) lo_X3_readNumber rfl rfl
theorem e_X3_readNumber_61 {Q : mQ} {ls st : List Value} {g : mG} {x y : Int32} : WP m_X3_readNumber Q 61 ls (.int y :: .int x :: st) g = WP m_X3_readNumber Q 62 ls (.int (x + y) :: st) g := E_b2 (f := fun x y => x + y) lo_X3_readNumber rfl
theorem e_X3_readNumber_62 {Q : mQ} {l0 l1 l2 l3 l4 l5 : Value} {st : List Value} {g : mG} {x : Int32} : WP m_X3_readNumber Q 62 [l0, l1, l2, l3, l4, l5] (.int x :: st) g = (nl1 l1 ∧ WP m_X3_readNumber Q 63 [l0, l1, .int x, l3, l4, l5] st g) := E_is (i := 2) (n := 1) lo_X3_readNumber rfl (Nat.le_of_ble_eq_true rfl)
theorem e_X3_readNumber_63 {Q : mQ} {l1 l2 l3 l4 l5 : Value} {st : List Value} {g : mG} {x : Nat} : WP m_X3_readNumber Q 63 [.ref x, l1, l2, l3, l4, l5] st g = WP m_X3_readNumber Q 64 [.ref x, l1, l2, l3, l4, l5] (.ref x :: st) g := E_al (i := 0) (n := 1) lo_X3_readNumber rfl rfl
theorem e_X3_readNumber_64 {Q : mQ} {ls st : List Value} {g : mG} {x : Value} : WP m_X3_readNumber Q 64 ls (x :: st) g = (cat1 x ∧ WP m_X3_readNumber Q 65 ls (x :: x :: st) g) := E_dup lo_X3_readNumber rfl
theorem e_X3_readNumber_65 {Q : mQ} {ls st : List Value} {g : mG} {a : Nat} : WP m_X3_readNumber Q 65 ls (.ref a :: st) g = (gK g a = 4 ∧ WP m_X3_readNumber Q 68 ls (.int (gI g a 4) :: st) g) := E_gI lo_X3_readNumber rfl
theorem e_X3_readNumber_68 {Q : mQ} {ls st : List Value} {g : mG} : WP m_X3_readNumber Q 68 ls st g = WP m_X3_readNumber Q 69 ls (.int (nI 1) :: st) g := E_ic (v := nI 1) (n := 1) lo_X3_readNumber rfl
theorem e_X3_readNumber_69 {Q : mQ} {ls st : List Value} {g : mG} {x y : Int32} : WP m_X3_readNumber Q 69 ls (.int y :: .int x :: st) g = WP m_X3_readNumber Q 70 ls (.int (x + y) :: st) g := E_b2 (f := fun x y => x + y) lo_X3_readNumber rfl
theorem e_X3_readNumber_70 {Q : mQ} {ls st : List Value} {g : mG} {a : Nat} {v : Int32} : WP m_X3_readNumber Q 70 ls (.int v :: .ref a :: st) g = (gK g a = 4 ∧ WP m_X3_readNumber Q 73 ls st (pI g a 4 v)) := E_pI lo_X3_readNumber rfl
theorem e_X3_readNumber_73 {Q : mQ} {l0 l1 l2 l4 l5 : Value} {st : List Value} {g : mG} {x : Int32} : WP m_X3_readNumber Q 73 [l0, l1, l2, .int x, l4, l5] st g = (nl1 l2 ∧ WP m_X3_readNumber Q 76 [l0, l1, l2, .int (x + nI 1), l4, l5] st g) := E_inc (i := 3) (d := nI 1) lo_X3_readNumber rfl rfl
theorem e_X3_readNumber_76 {Q : mQ} {ls st : List Value} {g : mG} : WP m_X3_readNumber Q 76 ls st g = WP m_X3_readNumber Q 4 ls st g := E_goto lo_X3_readNumber rfl
theorem e_X3_readNumber_79 {Q : mQ} {l0 l1 l3 l4 l5 : Value} {st : List Value} {g : mG} {x : Int32} : WP m_X3_readNumber Q 79 [l0, l1, .int x, l3, l4, l5] st g = WP m_X3_readNumber Q 80 [l0, l1, .int x, l3, l4, l5] (.int x :: st) g := E_il (i := 2) (n := 1) lo_X3_readNumber rfl rfl
theorem e_X3_readNumber_80 {Q : mQ} {ls : List Value} {g : mG} {v : Int32} : WP m_X3_readNumber Q 80 ls [.int v] g = Q (some (.int v)) g := E_iret lo_X3_readNumber rfl
/-! KilnPermits$OrderText.readLine(LKilnPermits$Line;)Z -/
def m_X3_readLine : List (Nat × mT) := [(0, tD (f_al 1 1)),
  (1, tD (f_al 0 1)),
  (2, tD (f_ic (nI 98) 2)),
  (4, tC w_X3_isNext 4 2),
  (7, tD (f_pB 2 0)),
  (10, tD (f_al 0 1)),
  (11, tD (f_ic (nI 98) 2)),
  (13, tC w_X3_skip 4 2),
  (16, tI1 (fun x => ¬ x = 0) 30),
  (19, tD (f_al 0 1)),
  (20, tD (f_ic (nI 97) 2)),
  (22, tC w_X3_skip 4 2),
  (25, tI1 (fun x => ¬ x = 0) 30),
  (28, tD (f_ic (nI 0) 1)),
  (29, tR f_zret),
  (30, tD (f_al 1 1)),
  (31, tD (f_al 0 1)),
  (32, tC w_X3_digit 4 1),
  (35, tD (f_pI 2 1)),
  (38, tD (f_al 1 1)),
  (39, tD (f_gI 2 1)),
  (42, tD (f_ic (nI 0) 1)),
  (43, tD (f_ic (nI 5) 1)),
  (44, tC w_X6_isWithin 0 3),
  (47, tI1 (fun x => ¬ x = 0) 52),
  (50, tD (f_ic (nI 0) 1)),
  (51, tR f_zret),
  (52, tD (f_al 0 1)),
  (53, tD (f_dup)),
  (54, tD (f_gI 4 4)),
  (57, tD (f_ic (nI 1) 1)),
  (58, tD (f_b2 fun x y => x + y)),
  (59, tD (f_pI 4 4)),
  (62, tD (f_al 0 1)),
  (63, tD (f_ic (nI 58) 2)),
  (65, tC w_X3_skip 4 2),
  (68, tI1 (fun x => ¬ x = 0) 73),
  (71, tD (f_ic (nI 0) 1)),
  (72, tR f_zret),
  (73, tD (f_al 1 1)),
  (74, tD (f_al 0 1)),
  (75, tD (f_ic (nI 999) 3)),
  (78, tC w_X3_readNumber 4 2),
  (81, tD (f_pI 2 2)),
  (84, tD (f_al 1 1)),
  (85, tD (f_gI 2 2)),
  (88, tI1 (fun x => x = 0) 100),
  (91, tD (f_al 0 1)),
  (92, tD (f_ic (nI 64) 2)),
  (94, tC w_X3_skip 4 2),
  (97, tI1 (fun x => ¬ x = 0) 102),
  (100, tD (f_ic (nI 0) 1)),
  (101, tR f_zret),
  (102, tD (f_al 1 1)),
  (103, tD (f_al 0 1)),
  (104, tD (f_ic (nI 500) 3)),
  (107, tC w_X3_readNumber 4 2),
  (110, tD (f_pI 2 3)),
  (113, tD (f_al 1 1)),
  (114, tD (f_gI 2 3)),
  (117, tI1 (fun x => x = 0) 124),
  (120, tD (f_ic (nI 1) 1)),
  (121, tD (f_goto 125)),
  (124, tD (f_ic (nI 0) 1)),
  (125, tR f_zret)]
abbrev w_X3_readLine : mS := wm m_X3_readLine 2 0
set_option maxRecDepth 100000 in
theorem lo_X3_readLine : locs_ok m_X3_readLine := List.forall_mem_cons.mpr ⟨loc_D mo_al,
  List.forall_mem_cons.mpr ⟨loc_D mo_al,
  List.forall_mem_cons.mpr ⟨loc_D mo_ic,
  List.forall_mem_cons.mpr ⟨loc_C sm_X3_isNext.1,
  List.forall_mem_cons.mpr ⟨loc_D mo_pB,
  List.forall_mem_cons.mpr ⟨loc_D mo_al,
  List.forall_mem_cons.mpr ⟨loc_D mo_ic,
  List.forall_mem_cons.mpr ⟨loc_C sm_X3_skip.1,
  List.forall_mem_cons.mpr ⟨loc_I1,
  List.forall_mem_cons.mpr ⟨loc_D mo_al,
  List.forall_mem_cons.mpr ⟨loc_D mo_ic,
  List.forall_mem_cons.mpr ⟨loc_C sm_X3_skip.1,
  List.forall_mem_cons.mpr ⟨loc_I1,
  List.forall_mem_cons.mpr ⟨loc_D mo_ic,
  List.forall_mem_cons.mpr ⟨loc_R,
  List.forall_mem_cons.mpr ⟨loc_D mo_al,
  List.forall_mem_cons.mpr ⟨loc_D mo_al,
  List.forall_mem_cons.mpr ⟨loc_C sm_X3_digit.1,
  List.forall_mem_cons.mpr ⟨loc_D mo_pI,
  List.forall_mem_cons.mpr ⟨loc_D mo_al,
  List.forall_mem_cons.mpr ⟨loc_D mo_gI,
  List.forall_mem_cons.mpr ⟨loc_D mo_ic,
  List.forall_mem_cons.mpr ⟨loc_D mo_ic,
  List.forall_mem_cons.mpr ⟨loc_C sm_X6_isWithin.1,
  List.forall_mem_cons.mpr ⟨loc_I1,
  List.forall_mem_cons.mpr ⟨loc_D mo_ic,
  List.forall_mem_cons.mpr ⟨loc_R,
  List.forall_mem_cons.mpr ⟨loc_D mo_al,
  List.forall_mem_cons.mpr ⟨loc_D mo_dup,
  List.forall_mem_cons.mpr ⟨loc_D mo_gI,
  List.forall_mem_cons.mpr ⟨loc_D mo_ic,
  List.forall_mem_cons.mpr ⟨loc_D mo_b2,
  List.forall_mem_cons.mpr ⟨loc_D mo_pI,
  List.forall_mem_cons.mpr ⟨loc_D mo_al,
  List.forall_mem_cons.mpr ⟨loc_D mo_ic,
  List.forall_mem_cons.mpr ⟨loc_C sm_X3_skip.1,
  List.forall_mem_cons.mpr ⟨loc_I1,
  List.forall_mem_cons.mpr ⟨loc_D mo_ic,
  List.forall_mem_cons.mpr ⟨loc_R,
  List.forall_mem_cons.mpr ⟨loc_D mo_al,
  List.forall_mem_cons.mpr ⟨loc_D mo_al,
  List.forall_mem_cons.mpr ⟨loc_D mo_ic,
  List.forall_mem_cons.mpr ⟨loc_C sm_X3_readNumber.1,
  List.forall_mem_cons.mpr ⟨loc_D mo_pI,
  List.forall_mem_cons.mpr ⟨loc_D mo_al,
  List.forall_mem_cons.mpr ⟨loc_D mo_gI,
  List.forall_mem_cons.mpr ⟨loc_I1,
  List.forall_mem_cons.mpr ⟨loc_D mo_al,
  List.forall_mem_cons.mpr ⟨loc_D mo_ic,
  List.forall_mem_cons.mpr ⟨loc_C sm_X3_skip.1,
  List.forall_mem_cons.mpr ⟨loc_I1,
  List.forall_mem_cons.mpr ⟨loc_D mo_ic,
  List.forall_mem_cons.mpr ⟨loc_R,
  List.forall_mem_cons.mpr ⟨loc_D mo_al,
  List.forall_mem_cons.mpr ⟨loc_D mo_al,
  List.forall_mem_cons.mpr ⟨loc_D mo_ic,
  List.forall_mem_cons.mpr ⟨loc_C sm_X3_readNumber.1,
  List.forall_mem_cons.mpr ⟨loc_D mo_pI,
  List.forall_mem_cons.mpr ⟨loc_D mo_al,
  List.forall_mem_cons.mpr ⟨loc_D mo_gI,
  List.forall_mem_cons.mpr ⟨loc_I1,
  List.forall_mem_cons.mpr ⟨loc_D mo_ic,
  List.forall_mem_cons.mpr ⟨loc_D mo_goto,
  List.forall_mem_cons.mpr ⟨loc_D mo_ic,
  List.forall_mem_cons.mpr ⟨loc_R,
  fun _ h => absurd h List.not_mem_nil⟩⟩⟩⟩⟩⟩⟩⟩⟩⟩⟩⟩⟩⟩⟩⟩⟩⟩⟩⟩⟩⟩⟩⟩⟩⟩⟩⟩⟩⟩⟩⟩⟩⟩⟩⟩⟩⟩⟩⟩⟩⟩⟩⟩⟩⟩⟩⟩⟩⟩⟩⟩⟩⟩⟩⟩⟩⟩⟩⟩⟩⟩⟩⟩⟩
set_option maxRecDepth 100000 in
theorem sm_X3_readLine : SM yX3_readLine cX3_readLine 2 (some .boolean) 3 w_X3_readLine := SM_of' RX3 "readLine" rfl rfl (by decide) (by decide) (by decide) lo_X3_readLine (List.forall_mem_cons.mpr ⟨STP.r mo_al (q_aload_n dX3_readLine_0 rfl),
  List.forall_mem_cons.mpr ⟨STP.r mo_al (q_aload_n dX3_readLine_1 rfl),
  List.forall_mem_cons.mpr ⟨STP.r mo_ic (q_bipush dX3_readLine_2 (by decide)),
  List.forall_mem_cons.mpr ⟨(snd_CV sm_X3_isNext ⟨by decide, by decide⟩ rfl km_X3_40 kt_X3_isNext kv_X3_isNext rfl ki_X3 kx_X3_isNext ⟨by decide, by decide, by decide +kernel⟩ (by decide) (by decide) dX3_readLine_4).r,
  List.forall_mem_cons.mpr ⟨STP.r mo_pB (q_pB ⟨by decide, by decide⟩ (by decide) rfl rfl kf_X3_43 dX3_readLine_7),
  List.forall_mem_cons.mpr ⟨STP.r mo_al (q_aload_n dX3_readLine_10 rfl),
  List.forall_mem_cons.mpr ⟨STP.r mo_ic (q_bipush dX3_readLine_11 (by decide)),
  List.forall_mem_cons.mpr ⟨(snd_CV sm_X3_skip ⟨by decide, by decide⟩ rfl km_X3_36 kt_X3_skip kv_X3_skip rfl ki_X3 kx_X3_skip ⟨by decide, by decide, by decide +kernel⟩ (by decide) (by decide) dX3_readLine_13).r,
  List.forall_mem_cons.mpr ⟨(q_if_ne dX3_readLine_16 (by decide)).r,
  List.forall_mem_cons.mpr ⟨STP.r mo_al (q_aload_n dX3_readLine_19 rfl),
  List.forall_mem_cons.mpr ⟨STP.r mo_ic (q_bipush dX3_readLine_20 (by decide)),
  List.forall_mem_cons.mpr ⟨(snd_CV sm_X3_skip ⟨by decide, by decide⟩ rfl km_X3_36 kt_X3_skip kv_X3_skip rfl ki_X3 kx_X3_skip ⟨by decide, by decide, by decide +kernel⟩ (by decide) (by decide) dX3_readLine_22).r,
  List.forall_mem_cons.mpr ⟨(q_if_ne dX3_readLine_25 (by decide)).r,
  List.forall_mem_cons.mpr ⟨STP.r mo_ic (q_iconst dX3_readLine_28 (by decide)),
  List.forall_mem_cons.mpr ⟨r_zret dX3_readLine_29,
  List.forall_mem_cons.mpr ⟨STP.r mo_al (q_aload_n dX3_readLine_30 rfl),
  List.forall_mem_cons.mpr ⟨STP.r mo_al (q_aload_n dX3_readLine_31 rfl),
  List.forall_mem_cons.mpr ⟨(snd_CV sm_X3_digit ⟨by decide, by decide⟩ rfl km_X3_47 kt_X3_digit kv_X3_digit rfl ki_X3 kx_X3_digit ⟨by decide, by decide, by decide +kernel⟩ (by decide) (by decide) dX3_readLine_32).r,
  List.forall_mem_cons.mpr ⟨STP.r mo_pI (q_pI ⟨by decide, by decide⟩ (by decide) rfl rfl kf_X3_51 dX3_readLine_35),
  List.forall_mem_cons.mpr ⟨STP.r mo_al (q_aload_n dX3_readLine_38 rfl),
  List.forall_mem_cons.mpr ⟨STP.r mo_gI (q_gI ⟨by decide, by decide⟩ (by decide) rfl kf_X3_51 dX3_readLine_39),
  List.forall_mem_cons.mpr ⟨STP.r mo_ic (q_iconst dX3_readLine_42 (by decide)),
  List.forall_mem_cons.mpr ⟨STP.r mo_ic (q_iconst dX3_readLine_43 (by decide)),
  List.forall_mem_cons.mpr ⟨(snd_CSN sm_X6_isWithin km_X3_54 ks_X6_isWithin ki_X6 kx_X6_isWithin ⟨by decide, by decide, by decide +kernel⟩ (by decide) (by decide) dX3_readLine_44).r,
  List.forall_mem_cons.mpr ⟨(q_if_ne dX3_readLine_47 (by decide)).r,
  List.forall_mem_cons.mpr ⟨STP.r mo_ic (q_iconst dX3_readLine_50 (by decide)),
  List.forall_mem_cons.mpr ⟨r_zret dX3_readLine_51,
  List.forall_mem_cons.mpr ⟨STP.r mo_al (q_aload_n dX3_readLine_52 rfl),
  List.forall_mem_cons.mpr ⟨STP.r mo_dup (q_dup dX3_readLine_53),
  List.forall_mem_cons.mpr ⟨STP.r mo_gI (q_gI ⟨by decide, by decide⟩ (by decide) rfl kf_X3_26 dX3_readLine_54),
  List.forall_mem_cons.mpr ⟨STP.r mo_ic (q_iconst dX3_readLine_57 (by decide)),
  List.forall_mem_cons.mpr ⟨STP.r mo_b2 (q_iadd dX3_readLine_58),
  List.forall_mem_cons.mpr ⟨STP.r mo_pI (q_pI ⟨by decide, by decide⟩ (by decide) rfl rfl kf_X3_26 dX3_readLine_59),
  List.forall_mem_cons.mpr ⟨STP.r mo_al (q_aload_n dX3_readLine_62 rfl),
  List.forall_mem_cons.mpr ⟨STP.r mo_ic (q_bipush dX3_readLine_63 (by decide)),
  List.forall_mem_cons.mpr ⟨(snd_CV sm_X3_skip ⟨by decide, by decide⟩ rfl km_X3_36 kt_X3_skip kv_X3_skip rfl ki_X3 kx_X3_skip ⟨by decide, by decide, by decide +kernel⟩ (by decide) (by decide) dX3_readLine_65).r,
  List.forall_mem_cons.mpr ⟨(q_if_ne dX3_readLine_68 (by decide)).r,
  List.forall_mem_cons.mpr ⟨STP.r mo_ic (q_iconst dX3_readLine_71 (by decide)),
  List.forall_mem_cons.mpr ⟨r_zret dX3_readLine_72,
  List.forall_mem_cons.mpr ⟨STP.r mo_al (q_aload_n dX3_readLine_73 rfl),
  List.forall_mem_cons.mpr ⟨STP.r mo_al (q_aload_n dX3_readLine_74 rfl),
  List.forall_mem_cons.mpr ⟨STP.r mo_ic (q_sipush dX3_readLine_75 (by decide)),
  List.forall_mem_cons.mpr ⟨(snd_CV sm_X3_readNumber ⟨by decide, by decide⟩ rfl km_X3_58 kt_X3_readNumber kv_X3_readNumber rfl ki_X3 kx_X3_readNumber ⟨by decide, by decide, by decide +kernel⟩ (by decide) (by decide) dX3_readLine_78).r,
  List.forall_mem_cons.mpr ⟨STP.r mo_pI (q_pI ⟨by decide, by decide⟩ (by decide) rfl rfl kf_X3_62 dX3_readLine_81),
  List.forall_mem_cons.mpr ⟨STP.r mo_al (q_aload_n dX3_readLine_84 rfl),
  List.forall_mem_cons.mpr ⟨STP.r mo_gI (q_gI ⟨by decide, by decide⟩ (by decide) rfl kf_X3_62 dX3_readLine_85),
  List.forall_mem_cons.mpr ⟨(q_if_eq dX3_readLine_88 (by decide)).r,
  List.forall_mem_cons.mpr ⟨STP.r mo_al (q_aload_n dX3_readLine_91 rfl),
  List.forall_mem_cons.mpr ⟨STP.r mo_ic (q_bipush dX3_readLine_92 (by decide)),
  List.forall_mem_cons.mpr ⟨(snd_CV sm_X3_skip ⟨by decide, by decide⟩ rfl km_X3_36 kt_X3_skip kv_X3_skip rfl ki_X3 kx_X3_skip ⟨by decide, by decide, by decide +kernel⟩ (by decide) (by decide) dX3_readLine_94).r,
  List.forall_mem_cons.mpr ⟨(q_if_ne dX3_readLine_97 (by decide)).r,
  List.forall_mem_cons.mpr ⟨STP.r mo_ic (q_iconst dX3_readLine_100 (by decide)),
  List.forall_mem_cons.mpr ⟨r_zret dX3_readLine_101,
  List.forall_mem_cons.mpr ⟨STP.r mo_al (q_aload_n dX3_readLine_102 rfl),
  List.forall_mem_cons.mpr ⟨STP.r mo_al (q_aload_n dX3_readLine_103 rfl),
  List.forall_mem_cons.mpr ⟨STP.r mo_ic (q_sipush dX3_readLine_104 (by decide)),
  List.forall_mem_cons.mpr ⟨(snd_CV sm_X3_readNumber ⟨by decide, by decide⟩ rfl km_X3_58 kt_X3_readNumber kv_X3_readNumber rfl ki_X3 kx_X3_readNumber ⟨by decide, by decide, by decide +kernel⟩ (by decide) (by decide) dX3_readLine_107).r,
  List.forall_mem_cons.mpr ⟨STP.r mo_pI (q_pI ⟨by decide, by decide⟩ (by decide) rfl rfl kf_X3_65 dX3_readLine_110),
  List.forall_mem_cons.mpr ⟨STP.r mo_al (q_aload_n dX3_readLine_113 rfl),
  List.forall_mem_cons.mpr ⟨STP.r mo_gI (q_gI ⟨by decide, by decide⟩ (by decide) rfl kf_X3_65 dX3_readLine_114),
  List.forall_mem_cons.mpr ⟨(q_if_eq dX3_readLine_117 (by decide)).r,
  List.forall_mem_cons.mpr ⟨STP.r mo_ic (q_iconst dX3_readLine_120 (by decide)),
  List.forall_mem_cons.mpr ⟨STP.r mo_goto (q_goto dX3_readLine_121 (by decide)),
  List.forall_mem_cons.mpr ⟨STP.r mo_ic (q_iconst dX3_readLine_124 (by decide)),
  List.forall_mem_cons.mpr ⟨r_zret dX3_readLine_125,
  fun _ h => absurd h List.not_mem_nil⟩⟩⟩⟩⟩⟩⟩⟩⟩⟩⟩⟩⟩⟩⟩⟩⟩⟩⟩⟩⟩⟩⟩⟩⟩⟩⟩⟩⟩⟩⟩⟩⟩⟩⟩⟩⟩⟩⟩⟩⟩⟩⟩⟩⟩⟩⟩⟩⟩⟩⟩⟩⟩⟩⟩⟩⟩⟩⟩⟩⟩⟩⟩⟩⟩)
theorem e_X3_readLine_0 {Q : mQ} {l0 : Value} {st : List Value} {g : mG} {x : Nat} : WP m_X3_readLine Q 0 [l0, .ref x] st g = WP m_X3_readLine Q 1 [l0, .ref x] (.ref x :: st) g := E_al (i := 1) (n := 1) lo_X3_readLine rfl rfl
theorem e_X3_readLine_0n {Q : mQ} {l0 : Value} {st : List Value} {g : mG} : WP m_X3_readLine Q 0 [l0, .null] st g = WP m_X3_readLine Q 1 [l0, .null] (.null :: st) g := E_aln (i := 1) (n := 1) lo_X3_readLine rfl rfl
theorem e_X3_readLine_1 {Q : mQ} {l1 : Value} {st : List Value} {g : mG} {x : Nat} : WP m_X3_readLine Q 1 [.ref x, l1] st g = WP m_X3_readLine Q 2 [.ref x, l1] (.ref x :: st) g := E_al (i := 0) (n := 1) lo_X3_readLine rfl rfl
theorem e_X3_readLine_2 {Q : mQ} {ls st : List Value} {g : mG} : WP m_X3_readLine Q 2 ls st g = WP m_X3_readLine Q 4 ls (.int (nI 98) :: st) g := E_ic (v := nI 98) (n := 2) lo_X3_readLine rfl
theorem e_X3_readLine_4 {Q : mQ} {ls st : List Value} {g : mG} {b : Nat} {a0 : Value} : WP m_X3_readLine Q 4 ls (a0 :: .ref b :: st) g = (st.length ≤ 4 ∧ gK g b = 4 ∧ stbs g ls ∧ stbs g st ∧ w_X3_isNext [.ref b, a0] g (fun v g' => WP m_X3_readLine Q 7 ls (v.toList ++ st) g')) := E_CV (ar := [a0, .ref b]) lo_X3_readLine rfl rfl rfl (by decide)
theorem e_X3_readLine_7 {Q : mQ} {ls st : List Value} {g : mG} {a : Nat} {v : Int32} : WP m_X3_readLine Q 7 ls (.int v :: .ref a :: st) g = ((gK g a = 2 ∧ (v = 0 ∨ v = 1)) ∧ WP m_X3_readLine Q 10 ls st (pI g a 0 v)) := E_pB lo_X3_readLine rfl
theorem e_X3_readLine_10 {Q : mQ} {l1 : Value} {st : List Value} {g : mG} {x : Nat} : WP m_X3_readLine Q 10 [.ref x, l1] st g = WP m_X3_readLine Q 11 [.ref x, l1] (.ref x :: st) g := E_al (i := 0) (n := 1) lo_X3_readLine rfl rfl
theorem e_X3_readLine_11 {Q : mQ} {ls st : List Value} {g : mG} : WP m_X3_readLine Q 11 ls st g = WP m_X3_readLine Q 13 ls (.int (nI 98) :: st) g := E_ic (v := nI 98) (n := 2) lo_X3_readLine rfl
theorem e_X3_readLine_13 {Q : mQ} {ls st : List Value} {g : mG} {b : Nat} {a0 : Value} : WP m_X3_readLine Q 13 ls (a0 :: .ref b :: st) g = (st.length ≤ 4 ∧ gK g b = 4 ∧ stbs g ls ∧ stbs g st ∧ w_X3_skip [.ref b, a0] g (fun v g' => WP m_X3_readLine Q 16 ls (v.toList ++ st) g')) := E_CV (ar := [a0, .ref b]) lo_X3_readLine rfl rfl rfl (by decide)
theorem e_X3_readLine_16 {Q : mQ} {ls st : List Value} {g : mG} {x : Int32} : WP m_X3_readLine Q 16 ls (.int x :: st) g = ((¬ x = 0 → WP m_X3_readLine Q 30 ls st g) ∧ (¬ (¬ x = 0) → WP m_X3_readLine Q 19 ls st g)) := E_I1 (c := fun x => ¬ x = 0) (t := 30) lo_X3_readLine rfl
theorem e_X3_readLine_19 {Q : mQ} {l1 : Value} {st : List Value} {g : mG} {x : Nat} : WP m_X3_readLine Q 19 [.ref x, l1] st g = WP m_X3_readLine Q 20 [.ref x, l1] (.ref x :: st) g := E_al (i := 0) (n := 1) lo_X3_readLine rfl rfl
theorem e_X3_readLine_20 {Q : mQ} {ls st : List Value} {g : mG} : WP m_X3_readLine Q 20 ls st g = WP m_X3_readLine Q 22 ls (.int (nI 97) :: st) g := E_ic (v := nI 97) (n := 2) lo_X3_readLine rfl
theorem e_X3_readLine_22 {Q : mQ} {ls st : List Value} {g : mG} {b : Nat} {a0 : Value} : WP m_X3_readLine Q 22 ls (a0 :: .ref b :: st) g = (st.length ≤ 4 ∧ gK g b = 4 ∧ stbs g ls ∧ stbs g st ∧ w_X3_skip [.ref b, a0] g (fun v g' => WP m_X3_readLine Q 25 ls (v.toList ++ st) g')) := E_CV (ar := [a0, .ref b]) lo_X3_readLine rfl rfl rfl (by decide)
theorem e_X3_readLine_25 {Q : mQ} {ls st : List Value} {g : mG} {x : Int32} : WP m_X3_readLine Q 25 ls (.int x :: st) g = ((¬ x = 0 → WP m_X3_readLine Q 30 ls st g) ∧ (¬ (¬ x = 0) → WP m_X3_readLine Q 28 ls st g)) := E_I1 (c := fun x => ¬ x = 0) (t := 30) lo_X3_readLine rfl
theorem e_X3_readLine_28 {Q : mQ} {ls st : List Value} {g : mG} : WP m_X3_readLine Q 28 ls st g = WP m_X3_readLine Q 29 ls (.int (nI 0) :: st) g := E_ic (v := nI 0) (n := 1) lo_X3_readLine rfl
theorem e_X3_readLine_29 {Q : mQ} {ls : List Value} {g : mG} {v : Int32} : WP m_X3_readLine Q 29 ls [.int v] g = ((v = 0 ∨ v = 1) ∧ Q (some (.int v)) g) := E_zret lo_X3_readLine rfl
theorem e_X3_readLine_30 {Q : mQ} {l0 : Value} {st : List Value} {g : mG} {x : Nat} : WP m_X3_readLine Q 30 [l0, .ref x] st g = WP m_X3_readLine Q 31 [l0, .ref x] (.ref x :: st) g := E_al (i := 1) (n := 1) lo_X3_readLine rfl rfl
theorem e_X3_readLine_30n {Q : mQ} {l0 : Value} {st : List Value} {g : mG} : WP m_X3_readLine Q 30 [l0, .null] st g = WP m_X3_readLine Q 31 [l0, .null] (.null :: st) g := E_aln (i := 1) (n := 1) lo_X3_readLine rfl rfl
theorem e_X3_readLine_31 {Q : mQ} {l1 : Value} {st : List Value} {g : mG} {x : Nat} : WP m_X3_readLine Q 31 [.ref x, l1] st g = WP m_X3_readLine Q 32 [.ref x, l1] (.ref x :: st) g := E_al (i := 0) (n := 1) lo_X3_readLine rfl rfl
theorem e_X3_readLine_32 {Q : mQ} {ls st : List Value} {g : mG} {b : Nat} : WP m_X3_readLine Q 32 ls (.ref b :: st) g = (st.length ≤ 4 ∧ gK g b = 4 ∧ stbs g ls ∧ stbs g st ∧ w_X3_digit [.ref b] g (fun v g' => WP m_X3_readLine Q 35 ls (v.toList ++ st) g')) := E_CV (ar := [.ref b]) lo_X3_readLine rfl rfl rfl (by decide)
theorem e_X3_readLine_35 {Q : mQ} {ls st : List Value} {g : mG} {a : Nat} {v : Int32} : WP m_X3_readLine Q 35 ls (.int v :: .ref a :: st) g = (gK g a = 2 ∧ WP m_X3_readLine Q 38 ls st (pI g a 1 v)) := E_pI lo_X3_readLine rfl
theorem e_X3_readLine_38 {Q : mQ} {l0 : Value} {st : List Value} {g : mG} {x : Nat} : WP m_X3_readLine Q 38 [l0, .ref x] st g = WP m_X3_readLine Q 39 [l0, .ref x] (.ref x :: st) g := E_al (i := 1) (n := 1) lo_X3_readLine rfl rfl
theorem e_X3_readLine_38n {Q : mQ} {l0 : Value} {st : List Value} {g : mG} : WP m_X3_readLine Q 38 [l0, .null] st g = WP m_X3_readLine Q 39 [l0, .null] (.null :: st) g := E_aln (i := 1) (n := 1) lo_X3_readLine rfl rfl
theorem e_X3_readLine_39 {Q : mQ} {ls st : List Value} {g : mG} {a : Nat} : WP m_X3_readLine Q 39 ls (.ref a :: st) g = (gK g a = 2 ∧ WP m_X3_readLine Q 42 ls (.int (gI g a 1) :: st) g) := E_gI lo_X3_readLine rfl
theorem e_X3_readLine_42 {Q : mQ} {ls st : List Value} {g : mG} : WP m_X3_readLine Q 42 ls st g = WP m_X3_readLine Q 43 ls (.int (nI 0) :: st) g := E_ic (v := nI 0) (n := 1) lo_X3_readLine rfl
theorem e_X3_readLine_43 {Q : mQ} {ls st : List Value} {g : mG} : WP m_X3_readLine Q 43 ls st g = WP m_X3_readLine Q 44 ls (.int (nI 5) :: st) g := E_ic (v := nI 5) (n := 1) lo_X3_readLine rfl
theorem e_X3_readLine_44 {Q : mQ} {ls st : List Value} {g : mG} {a0 a1 a2 : Value} : WP m_X3_readLine Q 44 ls (a2 :: a1 :: a0 :: st) g = (st.length ≤ 4 ∧ stbs g ls ∧ stbs g st ∧ w_X6_isWithin [a0, a1, a2] g (fun v g' => WP m_X3_readLine Q 47 ls (v.toList ++ st) g')) := E_CS (ar := [a2, a1, a0]) lo_X3_readLine rfl rfl rfl
theorem e_X3_readLine_47 {Q : mQ} {ls st : List Value} {g : mG} {x : Int32} : WP m_X3_readLine Q 47 ls (.int x :: st) g = ((¬ x = 0 → WP m_X3_readLine Q 52 ls st g) ∧ (¬ (¬ x = 0) → WP m_X3_readLine Q 50 ls st g)) := E_I1 (c := fun x => ¬ x = 0) (t := 52) lo_X3_readLine rfl
theorem e_X3_readLine_50 {Q : mQ} {ls st : List Value} {g : mG} : WP m_X3_readLine Q 50 ls st g = WP m_X3_readLine Q 51 ls (.int (nI 0) :: st) g := E_ic (v := nI 0) (n := 1) lo_X3_readLine rfl
theorem e_X3_readLine_51 {Q : mQ} {ls : List Value} {g : mG} {v : Int32} : WP m_X3_readLine Q 51 ls [.int v] g = ((v = 0 ∨ v = 1) ∧ Q (some (.int v)) g) := E_zret lo_X3_readLine rfl
theorem e_X3_readLine_52 {Q : mQ} {l1 : Value} {st : List Value} {g : mG} {x : Nat} : WP m_X3_readLine Q 52 [.ref x, l1] st g = WP m_X3_readLine Q 53 [.ref x, l1] (.ref x :: st) g := E_al (i := 0) (n := 1) lo_X3_readLine rfl rfl
theorem e_X3_readLine_53 {Q : mQ} {ls st : List Value} {g : mG} {x : Value} : WP m_X3_readLine Q 53 ls (x :: st) g = (cat1 x ∧ WP m_X3_readLine Q 54 ls (x :: x :: st) g) := E_dup lo_X3_readLine rfl
theorem e_X3_readLine_54 {Q : mQ} {ls st : List Value} {g : mG} {a : Nat} : WP m_X3_readLine Q 54 ls (.ref a :: st) g = (gK g a = 4 ∧ WP m_X3_readLine Q 57 ls (.int (gI g a 4) :: st) g) := E_gI lo_X3_readLine rfl
theorem e_X3_readLine_57 {Q : mQ} {ls st : List Value} {g : mG} : WP m_X3_readLine Q 57 ls st g = WP m_X3_readLine Q 58 ls (.int (nI 1) :: st) g := E_ic (v := nI 1) (n := 1) lo_X3_readLine rfl
theorem e_X3_readLine_58 {Q : mQ} {ls st : List Value} {g : mG} {x y : Int32} : WP m_X3_readLine Q 58 ls (.int y :: .int x :: st) g = WP m_X3_readLine Q 59 ls (.int (x + y) :: st) g := E_b2 (f := fun x y => x + y) lo_X3_readLine rfl
theorem e_X3_readLine_59 {Q : mQ} {ls st : List Value} {g : mG} {a : Nat} {v : Int32} : WP m_X3_readLine Q 59 ls (.int v :: .ref a :: st) g = (gK g a = 4 ∧ WP m_X3_readLine Q 62 ls st (pI g a 4 v)) := E_pI lo_X3_readLine rfl
theorem e_X3_readLine_62 {Q : mQ} {l1 : Value} {st : List Value} {g : mG} {x : Nat} : WP m_X3_readLine Q 62 [.ref x, l1] st g = WP m_X3_readLine Q 63 [.ref x, l1] (.ref x :: st) g := E_al (i := 0) (n := 1) lo_X3_readLine rfl rfl
theorem e_X3_readLine_63 {Q : mQ} {ls st : List Value} {g : mG} : WP m_X3_readLine Q 63 ls st g = WP m_X3_readLine Q 65 ls (.int (nI 58) :: st) g := E_ic (v := nI 58) (n := 2) lo_X3_readLine rfl
theorem e_X3_readLine_65 {Q : mQ} {ls st : List Value} {g : mG} {b : Nat} {a0 : Value} : WP m_X3_readLine Q 65 ls (a0 :: .ref b :: st) g = (st.length ≤ 4 ∧ gK g b = 4 ∧ stbs g ls ∧ stbs g st ∧ w_X3_skip [.ref b, a0] g (fun v g' => WP m_X3_readLine Q 68 ls (v.toList ++ st) g')) := E_CV (ar := [a0, .ref b]) lo_X3_readLine rfl rfl rfl (by decide)
theorem e_X3_readLine_68 {Q : mQ} {ls st : List Value} {g : mG} {x : Int32} : WP m_X3_readLine Q 68 ls (.int x :: st) g = ((¬ x = 0 → WP m_X3_readLine Q 73 ls st g) ∧ (¬ (¬ x = 0) → WP m_X3_readLine Q 71 ls st g)) := E_I1 (c := fun x => ¬ x = 0) (t := 73) lo_X3_readLine rfl
theorem e_X3_readLine_71 {Q : mQ} {ls st : List Value} {g : mG} : WP m_X3_readLine Q 71 ls st g = WP m_X3_readLine Q 72 ls (.int (nI 0) :: st) g := E_ic (v := nI 0) (n := 1) lo_X3_readLine rfl
theorem e_X3_readLine_72 {Q : mQ} {ls : List Value} {g : mG} {v : Int32} : WP m_X3_readLine Q 72 ls [.int v] g = ((v = 0 ∨ v = 1) ∧ Q (some (.int v)) g) := E_zret lo_X3_readLine rfl
theorem e_X3_readLine_73 {Q : mQ} {l0 : Value} {st : List Value} {g : mG} {x : Nat} : WP m_X3_readLine Q 73 [l0, .ref x] st g = WP m_X3_readLine Q 74 [l0, .ref x] (.ref x :: st) g := E_al (i := 1) (n := 1) lo_X3_readLine rfl rfl
theorem e_X3_readLine_73n {Q : mQ} {l0 : Value} {st : List Value} {g : mG} : WP m_X3_readLine Q 73 [l0, .null] st g = WP m_X3_readLine Q 74 [l0, .null] (.null :: st) g := E_aln (i := 1) (n := 1) lo_X3_readLine rfl rfl
theorem e_X3_readLine_74 {Q : mQ} {l1 : Value} {st : List Value} {g : mG} {x : Nat} : WP m_X3_readLine Q 74 [.ref x, l1] st g = WP m_X3_readLine Q 75 [.ref x, l1] (.ref x :: st) g := E_al (i := 0) (n := 1) lo_X3_readLine rfl rfl
theorem e_X3_readLine_75 {Q : mQ} {ls st : List Value} {g : mG} : WP m_X3_readLine Q 75 ls st g = WP m_X3_readLine Q 78 ls (.int (nI 999) :: st) g := E_ic (v := nI 999) (n := 3) lo_X3_readLine rfl
theorem e_X3_readLine_78 {Q : mQ} {ls st : List Value} {g : mG} {b : Nat} {a0 : Value} : WP m_X3_readLine Q 78 ls (a0 :: .ref b :: st) g = (st.length ≤ 4 ∧ gK g b = 4 ∧ stbs g ls ∧ stbs g st ∧ w_X3_readNumber [.ref b, a0] g (fun v g' => WP m_X3_readLine Q 81 ls (v.toList ++ st) g')) := E_CV (ar := [a0, .ref b]) lo_X3_readLine rfl rfl rfl (by decide)
theorem e_X3_readLine_81 {Q : mQ} {ls st : List Value} {g : mG} {a : Nat} {v : Int32} : WP m_X3_readLine Q 81 ls (.int v :: .ref a :: st) g = (gK g a = 2 ∧ WP m_X3_readLine Q 84 ls st (pI g a 2 v)) := E_pI lo_X3_readLine rfl
theorem e_X3_readLine_84 {Q : mQ} {l0 : Value} {st : List Value} {g : mG} {x : Nat} : WP m_X3_readLine Q 84 [l0, .ref x] st g = WP m_X3_readLine Q 85 [l0, .ref x] (.ref x :: st) g := E_al (i := 1) (n := 1) lo_X3_readLine rfl rfl
theorem e_X3_readLine_84n {Q : mQ} {l0 : Value} {st : List Value} {g : mG} : WP m_X3_readLine Q 84 [l0, .null] st g = WP m_X3_readLine Q 85 [l0, .null] (.null :: st) g := E_aln (i := 1) (n := 1) lo_X3_readLine rfl rfl
theorem e_X3_readLine_85 {Q : mQ} {ls st : List Value} {g : mG} {a : Nat} : WP m_X3_readLine Q 85 ls (.ref a :: st) g = (gK g a = 2 ∧ WP m_X3_readLine Q 88 ls (.int (gI g a 2) :: st) g) := E_gI lo_X3_readLine rfl
theorem e_X3_readLine_88 {Q : mQ} {ls st : List Value} {g : mG} {x : Int32} : WP m_X3_readLine Q 88 ls (.int x :: st) g = ((x = 0 → WP m_X3_readLine Q 100 ls st g) ∧ (¬ (x = 0) → WP m_X3_readLine Q 91 ls st g)) := E_I1 (c := fun x => x = 0) (t := 100) lo_X3_readLine rfl
theorem e_X3_readLine_91 {Q : mQ} {l1 : Value} {st : List Value} {g : mG} {x : Nat} : WP m_X3_readLine Q 91 [.ref x, l1] st g = WP m_X3_readLine Q 92 [.ref x, l1] (.ref x :: st) g := E_al (i := 0) (n := 1) lo_X3_readLine rfl rfl
theorem e_X3_readLine_92 {Q : mQ} {ls st : List Value} {g : mG} : WP m_X3_readLine Q 92 ls st g = WP m_X3_readLine Q 94 ls (.int (nI 64) :: st) g := E_ic (v := nI 64) (n := 2) lo_X3_readLine rfl
theorem e_X3_readLine_94 {Q : mQ} {ls st : List Value} {g : mG} {b : Nat} {a0 : Value} : WP m_X3_readLine Q 94 ls (a0 :: .ref b :: st) g = (st.length ≤ 4 ∧ gK g b = 4 ∧ stbs g ls ∧ stbs g st ∧ w_X3_skip [.ref b, a0] g (fun v g' => WP m_X3_readLine Q 97 ls (v.toList ++ st) g')) := E_CV (ar := [a0, .ref b]) lo_X3_readLine rfl rfl rfl (by decide)
theorem e_X3_readLine_97 {Q : mQ} {ls st : List Value} {g : mG} {x : Int32} : WP m_X3_readLine Q 97 ls (.int x :: st) g = ((¬ x = 0 → WP m_X3_readLine Q 102 ls st g) ∧ (¬ (¬ x = 0) → WP m_X3_readLine Q 100 ls st g)) := E_I1 (c := fun x => ¬ x = 0) (t := 102) lo_X3_readLine rfl
theorem e_X3_readLine_100 {Q : mQ} {ls st : List Value} {g : mG} : WP m_X3_readLine Q 100 ls st g = WP m_X3_readLine Q 101 ls (.int (nI 0) :: st) g := E_ic (v := nI 0) (n := 1) lo_X3_readLine rfl
theorem e_X3_readLine_101 {Q : mQ} {ls : List Value} {g : mG} {v : Int32} : WP m_X3_readLine Q 101 ls [.int v] g = ((v = 0 ∨ v = 1) ∧ Q (some (.int v)) g) := E_zret lo_X3_readLine rfl
theorem e_X3_readLine_102 {Q : mQ} {l0 : Value} {st : List Value} {g : mG} {x : Nat} : WP m_X3_readLine Q 102 [l0, .ref x] st g = WP m_X3_readLine Q 103 [l0, .ref x] (.ref x :: st) g := E_al (i := 1) (n := 1) lo_X3_readLine rfl rfl
theorem e_X3_readLine_102n {Q : mQ} {l0 : Value} {st : List Value} {g : mG} : WP m_X3_readLine Q 102 [l0, .null] st g = WP m_X3_readLine Q 103 [l0, .null] (.null :: st) g := E_aln (i := 1) (n := 1) lo_X3_readLine rfl rfl
theorem e_X3_readLine_103 {Q : mQ} {l1 : Value} {st : List Value} {g : mG} {x : Nat} : WP m_X3_readLine Q 103 [.ref x, l1] st g = WP m_X3_readLine Q 104 [.ref x, l1] (.ref x :: st) g := E_al (i := 0) (n := 1) lo_X3_readLine rfl rfl
theorem e_X3_readLine_104 {Q : mQ} {ls st : List Value} {g : mG} : WP m_X3_readLine Q 104 ls st g = WP m_X3_readLine Q 107 ls (.int (nI 500) :: st) g := E_ic (v := nI 500) (n := 3) lo_X3_readLine rfl
theorem e_X3_readLine_107 {Q : mQ} {ls st : List Value} {g : mG} {b : Nat} {a0 : Value} : WP m_X3_readLine Q 107 ls (a0 :: .ref b :: st) g = (st.length ≤ 4 ∧ gK g b = 4 ∧ stbs g ls ∧ stbs g st ∧ w_X3_readNumber [.ref b, a0] g (fun v g' => WP m_X3_readLine Q 110 ls (v.toList ++ st) g')) := E_CV (ar := [a0, .ref b]) lo_X3_readLine rfl rfl rfl (by decide)
theorem e_X3_readLine_110 {Q : mQ} {ls st : List Value} {g : mG} {a : Nat} {v : Int32} : WP m_X3_readLine Q 110 ls (.int v :: .ref a :: st) g = (gK g a = 2 ∧ WP m_X3_readLine Q 113 ls st (pI g a 3 v)) := E_pI lo_X3_readLine rfl
theorem e_X3_readLine_113 {Q : mQ} {l0 : Value} {st : List Value} {g : mG} {x : Nat} : WP m_X3_readLine Q 113 [l0, .ref x] st g = WP m_X3_readLine Q 114 [l0, .ref x] (.ref x :: st) g := E_al (i := 1) (n := 1) lo_X3_readLine rfl rfl
theorem e_X3_readLine_113n {Q : mQ} {l0 : Value} {st : List Value} {g : mG} : WP m_X3_readLine Q 113 [l0, .null] st g = WP m_X3_readLine Q 114 [l0, .null] (.null :: st) g := E_aln (i := 1) (n := 1) lo_X3_readLine rfl rfl
theorem e_X3_readLine_114 {Q : mQ} {ls st : List Value} {g : mG} {a : Nat} : WP m_X3_readLine Q 114 ls (.ref a :: st) g = (gK g a = 2 ∧ WP m_X3_readLine Q 117 ls (.int (gI g a 3) :: st) g) := E_gI lo_X3_readLine rfl
theorem e_X3_readLine_117 {Q : mQ} {ls st : List Value} {g : mG} {x : Int32} : WP m_X3_readLine Q 117 ls (.int x :: st) g = ((x = 0 → WP m_X3_readLine Q 124 ls st g) ∧ (¬ (x = 0) → WP m_X3_readLine Q 120 ls st g)) := E_I1 (c := fun x => x = 0) (t := 124) lo_X3_readLine rfl
theorem e_X3_readLine_120 {Q : mQ} {ls st : List Value} {g : mG} : WP m_X3_readLine Q 120 ls st g = WP m_X3_readLine Q 121 ls (.int (nI 1) :: st) g := E_ic (v := nI 1) (n := 1) lo_X3_readLine rfl
theorem e_X3_readLine_121 {Q : mQ} {ls st : List Value} {g : mG} : WP m_X3_readLine Q 121 ls st g = WP m_X3_readLine Q 125 ls st g := E_goto lo_X3_readLine rfl
theorem e_X3_readLine_124 {Q : mQ} {ls st : List Value} {g : mG} : WP m_X3_readLine Q 124 ls st g = WP m_X3_readLine Q 125 ls (.int (nI 0) :: st) g := E_ic (v := nI 0) (n := 1) lo_X3_readLine rfl
theorem e_X3_readLine_125 {Q : mQ} {ls : List Value} {g : mG} {v : Int32} : WP m_X3_readLine Q 125 ls [.int v] g = ((v = 0 ∨ v = 1) ∧ Q (some (.int v)) g) := E_zret lo_X3_readLine rfl
/-! KilnPermits$OrderText.read()I -/
def m_X3_read : List (Nat × mT) := [(0, tD (f_al 0 1)),
  (1, tD (f_ic (nI 0) 1)),
  (2, tD (f_pI 4 4)),
  (5, tD (f_al 0 1)),
  (6, tD (f_ic (nI 0) 1)),
  (7, tD (f_pI 4 3)),
  (10, tD (f_ic (nI 0) 1)),
  (11, tD (f_is 1 1)),
  (12, tD (f_il 1 1)),
  (13, tD (f_al 0 1)),
  (14, tD (f_gR 4 2)),
  (17, tD (f_alen)),
  (18, tI2 (fun x y => y ≤ x) 82),
  (21, tD (f_al 0 1)),
  (22, tD (f_al 0 1)),
  (23, tD (f_gR 4 2)),
  (26, tD (f_il 1 1)),
  (27, tD (f_aald 16)),
  (28, tC w_X3_readLine 4 2),
  (31, tI1 (fun x => ¬ x = 0) 39),
  (34, tD (f_al 0 1)),
  (35, tD (f_gI 4 4)),
  (38, tR f_iret),
  (39, tD (f_al 0 1)),
  (40, tD (f_dup)),
  (41, tD (f_gI 4 3)),
  (44, tD (f_ic (nI 1) 1)),
  (45, tD (f_b2 fun x y => x + y)),
  (46, tD (f_pI 4 3)),
  (49, tD (f_al 0 1)),
  (50, tD (f_gI 4 4)),
  (53, tD (f_al 0 1)),
  (54, tD (f_gI 4 1)),
  (57, tI2 (fun x y => ¬ x = y) 62),
  (60, tD (f_ic ((-1)) 1)),
  (61, tR f_iret),
  (62, tD (f_al 0 1)),
  (63, tD (f_ic (nI 59) 2)),
  (65, tC w_X3_skip 4 2),
  (68, tI1 (fun x => ¬ x = 0) 76),
  (71, tD (f_al 0 1)),
  (72, tD (f_gI 4 4)),
  (75, tR f_iret),
  (76, tD (f_inc 1 (nI 1))),
  (79, tD (f_goto 12)),
  (82, tD (f_al 0 1)),
  (83, tD (f_gI 4 4)),
  (86, tR f_iret)]
abbrev w_X3_read : mS := wm m_X3_read 1 1
set_option maxRecDepth 100000 in
theorem lo_X3_read : locs_ok m_X3_read := List.forall_mem_cons.mpr ⟨loc_D mo_al,
  List.forall_mem_cons.mpr ⟨loc_D mo_ic,
  List.forall_mem_cons.mpr ⟨loc_D mo_pI,
  List.forall_mem_cons.mpr ⟨loc_D mo_al,
  List.forall_mem_cons.mpr ⟨loc_D mo_ic,
  List.forall_mem_cons.mpr ⟨loc_D mo_pI,
  List.forall_mem_cons.mpr ⟨loc_D mo_ic,
  List.forall_mem_cons.mpr ⟨loc_D mo_is,
  List.forall_mem_cons.mpr ⟨loc_D mo_il,
  List.forall_mem_cons.mpr ⟨loc_D mo_al,
  List.forall_mem_cons.mpr ⟨loc_D mo_gR,
  List.forall_mem_cons.mpr ⟨loc_D mo_alen,
  List.forall_mem_cons.mpr ⟨loc_I2,
  List.forall_mem_cons.mpr ⟨loc_D mo_al,
  List.forall_mem_cons.mpr ⟨loc_D mo_al,
  List.forall_mem_cons.mpr ⟨loc_D mo_gR,
  List.forall_mem_cons.mpr ⟨loc_D mo_il,
  List.forall_mem_cons.mpr ⟨loc_D mo_aald,
  List.forall_mem_cons.mpr ⟨loc_C sm_X3_readLine.1,
  List.forall_mem_cons.mpr ⟨loc_I1,
  List.forall_mem_cons.mpr ⟨loc_D mo_al,
  List.forall_mem_cons.mpr ⟨loc_D mo_gI,
  List.forall_mem_cons.mpr ⟨loc_R,
  List.forall_mem_cons.mpr ⟨loc_D mo_al,
  List.forall_mem_cons.mpr ⟨loc_D mo_dup,
  List.forall_mem_cons.mpr ⟨loc_D mo_gI,
  List.forall_mem_cons.mpr ⟨loc_D mo_ic,
  List.forall_mem_cons.mpr ⟨loc_D mo_b2,
  List.forall_mem_cons.mpr ⟨loc_D mo_pI,
  List.forall_mem_cons.mpr ⟨loc_D mo_al,
  List.forall_mem_cons.mpr ⟨loc_D mo_gI,
  List.forall_mem_cons.mpr ⟨loc_D mo_al,
  List.forall_mem_cons.mpr ⟨loc_D mo_gI,
  List.forall_mem_cons.mpr ⟨loc_I2,
  List.forall_mem_cons.mpr ⟨loc_D mo_ic,
  List.forall_mem_cons.mpr ⟨loc_R,
  List.forall_mem_cons.mpr ⟨loc_D mo_al,
  List.forall_mem_cons.mpr ⟨loc_D mo_ic,
  List.forall_mem_cons.mpr ⟨loc_C sm_X3_skip.1,
  List.forall_mem_cons.mpr ⟨loc_I1,
  List.forall_mem_cons.mpr ⟨loc_D mo_al,
  List.forall_mem_cons.mpr ⟨loc_D mo_gI,
  List.forall_mem_cons.mpr ⟨loc_R,
  List.forall_mem_cons.mpr ⟨loc_D mo_inc,
  List.forall_mem_cons.mpr ⟨loc_D mo_goto,
  List.forall_mem_cons.mpr ⟨loc_D mo_al,
  List.forall_mem_cons.mpr ⟨loc_D mo_gI,
  List.forall_mem_cons.mpr ⟨loc_R,
  fun _ h => absurd h List.not_mem_nil⟩⟩⟩⟩⟩⟩⟩⟩⟩⟩⟩⟩⟩⟩⟩⟩⟩⟩⟩⟩⟩⟩⟩⟩⟩⟩⟩⟩⟩⟩⟩⟩⟩⟩⟩⟩⟩⟩⟩⟩⟩⟩⟩⟩⟩⟩⟩⟩
set_option maxRecDepth 100000 in
theorem sm_X3_read : SM yX3_read cX3_read 2 (some .int) 4 w_X3_read := SM_of' RX3 "read" rfl rfl (by decide) (by decide) (by decide) lo_X3_read (List.forall_mem_cons.mpr ⟨STP.r mo_al (q_aload_n dX3_read_0 rfl),
  List.forall_mem_cons.mpr ⟨STP.r mo_ic (q_iconst dX3_read_1 (by decide)),
  List.forall_mem_cons.mpr ⟨STP.r mo_pI (q_pI ⟨by decide, by decide⟩ (by decide) rfl rfl kf_X3_26 dX3_read_2),
  List.forall_mem_cons.mpr ⟨STP.r mo_al (q_aload_n dX3_read_5 rfl),
  List.forall_mem_cons.mpr ⟨STP.r mo_ic (q_iconst dX3_read_6 (by decide)),
  List.forall_mem_cons.mpr ⟨STP.r mo_pI (q_pI ⟨by decide, by decide⟩ (by decide) rfl rfl kf_X3_29 dX3_read_7),
  List.forall_mem_cons.mpr ⟨STP.r mo_ic (q_iconst dX3_read_10 (by decide)),
  List.forall_mem_cons.mpr ⟨STP.r mo_is (q_istore_n dX3_read_11 rfl),
  List.forall_mem_cons.mpr ⟨STP.r mo_il (q_iload_n dX3_read_12 rfl),
  List.forall_mem_cons.mpr ⟨STP.r mo_al (q_aload_n dX3_read_13 rfl),
  List.forall_mem_cons.mpr ⟨STP.r mo_gR (q_gR ⟨by decide, by decide⟩ (by decide) rfl (by decide) kf_X3_17 dX3_read_14),
  List.forall_mem_cons.mpr ⟨STP.r mo_alen (q_alen dX3_read_17),
  List.forall_mem_cons.mpr ⟨(q_ic_ge dX3_read_18 (by decide)).r,
  List.forall_mem_cons.mpr ⟨STP.r mo_al (q_aload_n dX3_read_21 rfl),
  List.forall_mem_cons.mpr ⟨STP.r mo_al (q_aload_n dX3_read_22 rfl),
  List.forall_mem_cons.mpr ⟨STP.r mo_gR (q_gR ⟨by decide, by decide⟩ (by decide) rfl (by decide) kf_X3_17 dX3_read_23),
  List.forall_mem_cons.mpr ⟨STP.r mo_il (q_iload_n dX3_read_26 rfl),
  List.forall_mem_cons.mpr ⟨STP.r mo_aald (q_aald ⟨by decide, by decide⟩ dX3_read_27),
  List.forall_mem_cons.mpr ⟨(snd_CV sm_X3_readLine ⟨by decide, by decide⟩ rfl km_X3_32 kt_X3_readLine kv_X3_readLine rfl ki_X3 kx_X3_readLine ⟨by decide, by decide, by decide +kernel⟩ (by decide) (by decide) dX3_read_28).r,
  List.forall_mem_cons.mpr ⟨(q_if_ne dX3_read_31 (by decide)).r,
  List.forall_mem_cons.mpr ⟨STP.r mo_al (q_aload_n dX3_read_34 rfl),
  List.forall_mem_cons.mpr ⟨STP.r mo_gI (q_gI ⟨by decide, by decide⟩ (by decide) rfl kf_X3_26 dX3_read_35),
  List.forall_mem_cons.mpr ⟨r_iret dX3_read_38,
  List.forall_mem_cons.mpr ⟨STP.r mo_al (q_aload_n dX3_read_39 rfl),
  List.forall_mem_cons.mpr ⟨STP.r mo_dup (q_dup dX3_read_40),
  List.forall_mem_cons.mpr ⟨STP.r mo_gI (q_gI ⟨by decide, by decide⟩ (by decide) rfl kf_X3_29 dX3_read_41),
  List.forall_mem_cons.mpr ⟨STP.r mo_ic (q_iconst dX3_read_44 (by decide)),
  List.forall_mem_cons.mpr ⟨STP.r mo_b2 (q_iadd dX3_read_45),
  List.forall_mem_cons.mpr ⟨STP.r mo_pI (q_pI ⟨by decide, by decide⟩ (by decide) rfl rfl kf_X3_29 dX3_read_46),
  List.forall_mem_cons.mpr ⟨STP.r mo_al (q_aload_n dX3_read_49 rfl),
  List.forall_mem_cons.mpr ⟨STP.r mo_gI (q_gI ⟨by decide, by decide⟩ (by decide) rfl kf_X3_26 dX3_read_50),
  List.forall_mem_cons.mpr ⟨STP.r mo_al (q_aload_n dX3_read_53 rfl),
  List.forall_mem_cons.mpr ⟨STP.r mo_gI (q_gI ⟨by decide, by decide⟩ (by decide) rfl kf_X3_22 dX3_read_54),
  List.forall_mem_cons.mpr ⟨(q_ic_ne dX3_read_57 (by decide)).r,
  List.forall_mem_cons.mpr ⟨STP.r mo_ic (q_iconst dX3_read_60 (by decide)),
  List.forall_mem_cons.mpr ⟨r_iret dX3_read_61,
  List.forall_mem_cons.mpr ⟨STP.r mo_al (q_aload_n dX3_read_62 rfl),
  List.forall_mem_cons.mpr ⟨STP.r mo_ic (q_bipush dX3_read_63 (by decide)),
  List.forall_mem_cons.mpr ⟨(snd_CV sm_X3_skip ⟨by decide, by decide⟩ rfl km_X3_36 kt_X3_skip kv_X3_skip rfl ki_X3 kx_X3_skip ⟨by decide, by decide, by decide +kernel⟩ (by decide) (by decide) dX3_read_65).r,
  List.forall_mem_cons.mpr ⟨(q_if_ne dX3_read_68 (by decide)).r,
  List.forall_mem_cons.mpr ⟨STP.r mo_al (q_aload_n dX3_read_71 rfl),
  List.forall_mem_cons.mpr ⟨STP.r mo_gI (q_gI ⟨by decide, by decide⟩ (by decide) rfl kf_X3_26 dX3_read_72),
  List.forall_mem_cons.mpr ⟨r_iret dX3_read_75,
  List.forall_mem_cons.mpr ⟨STP.r mo_inc (q_inc dX3_read_76 (by decide)),
  List.forall_mem_cons.mpr ⟨STP.r mo_goto (q_goto dX3_read_79 (by decide)),
  List.forall_mem_cons.mpr ⟨STP.r mo_al (q_aload_n dX3_read_82 rfl),
  List.forall_mem_cons.mpr ⟨STP.r mo_gI (q_gI ⟨by decide, by decide⟩ (by decide) rfl kf_X3_26 dX3_read_83),
  List.forall_mem_cons.mpr ⟨r_iret dX3_read_86,
  fun _ h => absurd h List.not_mem_nil⟩⟩⟩⟩⟩⟩⟩⟩⟩⟩⟩⟩⟩⟩⟩⟩⟩⟩⟩⟩⟩⟩⟩⟩⟩⟩⟩⟩⟩⟩⟩⟩⟩⟩⟩⟩⟩⟩⟩⟩⟩⟩⟩⟩⟩⟩⟩⟩)
theorem e_X3_read_0 {Q : mQ} {l1 : Value} {st : List Value} {g : mG} {x : Nat} : WP m_X3_read Q 0 [.ref x, l1] st g = WP m_X3_read Q 1 [.ref x, l1] (.ref x :: st) g := E_al (i := 0) (n := 1) lo_X3_read rfl rfl
theorem e_X3_read_1 {Q : mQ} {ls st : List Value} {g : mG} : WP m_X3_read Q 1 ls st g = WP m_X3_read Q 2 ls (.int (nI 0) :: st) g := E_ic (v := nI 0) (n := 1) lo_X3_read rfl
theorem e_X3_read_2 {Q : mQ} {ls st : List Value} {g : mG} {a : Nat} {v : Int32} : WP m_X3_read Q 2 ls (.int v :: .ref a :: st) g = (gK g a = 4 ∧ WP m_X3_read Q 5 ls st (pI g a 4 v)) := E_pI lo_X3_read rfl
theorem e_X3_read_5 {Q : mQ} {l1 : Value} {st : List Value} {g : mG} {x : Nat} : WP m_X3_read Q 5 [.ref x, l1] st g = WP m_X3_read Q 6 [.ref x, l1] (.ref x :: st) g := E_al (i := 0) (n := 1) lo_X3_read rfl rfl
theorem e_X3_read_6 {Q : mQ} {ls st : List Value} {g : mG} : WP m_X3_read Q 6 ls st g = WP m_X3_read Q 7 ls (.int (nI 0) :: st) g := E_ic (v := nI 0) (n := 1) lo_X3_read rfl
theorem e_X3_read_7 {Q : mQ} {ls st : List Value} {g : mG} {a : Nat} {v : Int32} : WP m_X3_read Q 7 ls (.int v :: .ref a :: st) g = (gK g a = 4 ∧ WP m_X3_read Q 10 ls st (pI g a 3 v)) := E_pI lo_X3_read rfl
theorem e_X3_read_10 {Q : mQ} {ls st : List Value} {g : mG} : WP m_X3_read Q 10 ls st g = WP m_X3_read Q 11 ls (.int (nI 0) :: st) g := E_ic (v := nI 0) (n := 1) lo_X3_read rfl
theorem e_X3_read_11 {Q : mQ} {l0 l1 : Value} {st : List Value} {g : mG} {x : Int32} : WP m_X3_read Q 11 [l0, l1] (.int x :: st) g = (nl1 l0 ∧ WP m_X3_read Q 12 [l0, .int x] st g) := E_is (i := 1) (n := 1) lo_X3_read rfl (Nat.le_of_ble_eq_true rfl)
theorem e_X3_read_12 {Q : mQ} {l0 : Value} {st : List Value} {g : mG} {x : Int32} : WP m_X3_read Q 12 [l0, .int x] st g = WP m_X3_read Q 13 [l0, .int x] (.int x :: st) g := E_il (i := 1) (n := 1) lo_X3_read rfl rfl
theorem e_X3_read_13 {Q : mQ} {l1 : Value} {st : List Value} {g : mG} {x : Nat} : WP m_X3_read Q 13 [.ref x, l1] st g = WP m_X3_read Q 14 [.ref x, l1] (.ref x :: st) g := E_al (i := 0) (n := 1) lo_X3_read rfl rfl
theorem e_X3_read_14 {Q : mQ} {ls st : List Value} {g : mG} {a : Nat} : WP m_X3_read Q 14 ls (.ref a :: st) g = ((gK g a = 4 ∧ gR g a 2 ≠ 0) ∧ WP m_X3_read Q 17 ls (.ref (gR g a 2) :: st) g) := E_gR lo_X3_read rfl
theorem e_X3_read_17 {Q : mQ} {ls st : List Value} {g : mG} {a : Nat} : WP m_X3_read Q 17 ls (.ref a :: st) g = ((10 ≤ gK g a ∧ gK g a ≤ 17) ∧ WP m_X3_read Q 18 ls (.int (nI (gN g a)) :: st) g) := E_alen lo_X3_read rfl
theorem e_X3_read_18 {Q : mQ} {ls st : List Value} {g : mG} {x y : Int32} : WP m_X3_read Q 18 ls (.int y :: .int x :: st) g = ((y ≤ x → WP m_X3_read Q 82 ls st g) ∧ (¬ (y ≤ x) → WP m_X3_read Q 21 ls st g)) := E_I2 (c := fun x y => y ≤ x) (t := 82) lo_X3_read rfl
theorem e_X3_read_21 {Q : mQ} {l1 : Value} {st : List Value} {g : mG} {x : Nat} : WP m_X3_read Q 21 [.ref x, l1] st g = WP m_X3_read Q 22 [.ref x, l1] (.ref x :: st) g := E_al (i := 0) (n := 1) lo_X3_read rfl rfl
theorem e_X3_read_22 {Q : mQ} {l1 : Value} {st : List Value} {g : mG} {x : Nat} : WP m_X3_read Q 22 [.ref x, l1] st g = WP m_X3_read Q 23 [.ref x, l1] (.ref x :: st) g := E_al (i := 0) (n := 1) lo_X3_read rfl rfl
theorem e_X3_read_23 {Q : mQ} {ls st : List Value} {g : mG} {a : Nat} : WP m_X3_read Q 23 ls (.ref a :: st) g = ((gK g a = 4 ∧ gR g a 2 ≠ 0) ∧ WP m_X3_read Q 26 ls (.ref (gR g a 2) :: st) g) := E_gR lo_X3_read rfl
theorem e_X3_read_26 {Q : mQ} {l0 : Value} {st : List Value} {g : mG} {x : Int32} : WP m_X3_read Q 26 [l0, .int x] st g = WP m_X3_read Q 27 [l0, .int x] (.int x :: st) g := E_il (i := 1) (n := 1) lo_X3_read rfl rfl
theorem e_X3_read_27 {Q : mQ} {ls st : List Value} {g : mG} {a : Nat} {i : Int32} : WP m_X3_read Q 27 ls (.int i :: .ref a :: st) g = ((gK g a = 16 ∧ vp_in i (gN g a) ∧ gR g a i.toNatClampNeg ≠ 0) ∧ WP m_X3_read Q 28 ls (.ref (gR g a i.toNatClampNeg) :: st) g) := E_aald lo_X3_read rfl
theorem e_X3_read_28 {Q : mQ} {ls st : List Value} {g : mG} {b : Nat} {a0 : Value} : WP m_X3_read Q 28 ls (a0 :: .ref b :: st) g = (st.length ≤ 4 ∧ gK g b = 4 ∧ stbs g ls ∧ stbs g st ∧ w_X3_readLine [.ref b, a0] g (fun v g' => WP m_X3_read Q 31 ls (v.toList ++ st) g')) := E_CV (ar := [a0, .ref b]) lo_X3_read rfl rfl rfl (by decide)
theorem e_X3_read_31 {Q : mQ} {ls st : List Value} {g : mG} {x : Int32} : WP m_X3_read Q 31 ls (.int x :: st) g = ((¬ x = 0 → WP m_X3_read Q 39 ls st g) ∧ (¬ (¬ x = 0) → WP m_X3_read Q 34 ls st g)) := E_I1 (c := fun x => ¬ x = 0) (t := 39) lo_X3_read rfl
theorem e_X3_read_34 {Q : mQ} {l1 : Value} {st : List Value} {g : mG} {x : Nat} : WP m_X3_read Q 34 [.ref x, l1] st g = WP m_X3_read Q 35 [.ref x, l1] (.ref x :: st) g := E_al (i := 0) (n := 1) lo_X3_read rfl rfl
theorem e_X3_read_35 {Q : mQ} {ls st : List Value} {g : mG} {a : Nat} : WP m_X3_read Q 35 ls (.ref a :: st) g = (gK g a = 4 ∧ WP m_X3_read Q 38 ls (.int (gI g a 4) :: st) g) := E_gI lo_X3_read rfl
theorem e_X3_read_38 {Q : mQ} {ls : List Value} {g : mG} {v : Int32} : WP m_X3_read Q 38 ls [.int v] g = Q (some (.int v)) g := E_iret lo_X3_read rfl
theorem e_X3_read_39 {Q : mQ} {l1 : Value} {st : List Value} {g : mG} {x : Nat} : WP m_X3_read Q 39 [.ref x, l1] st g = WP m_X3_read Q 40 [.ref x, l1] (.ref x :: st) g := E_al (i := 0) (n := 1) lo_X3_read rfl rfl
theorem e_X3_read_40 {Q : mQ} {ls st : List Value} {g : mG} {x : Value} : WP m_X3_read Q 40 ls (x :: st) g = (cat1 x ∧ WP m_X3_read Q 41 ls (x :: x :: st) g) := E_dup lo_X3_read rfl
theorem e_X3_read_41 {Q : mQ} {ls st : List Value} {g : mG} {a : Nat} : WP m_X3_read Q 41 ls (.ref a :: st) g = (gK g a = 4 ∧ WP m_X3_read Q 44 ls (.int (gI g a 3) :: st) g) := E_gI lo_X3_read rfl
theorem e_X3_read_44 {Q : mQ} {ls st : List Value} {g : mG} : WP m_X3_read Q 44 ls st g = WP m_X3_read Q 45 ls (.int (nI 1) :: st) g := E_ic (v := nI 1) (n := 1) lo_X3_read rfl
theorem e_X3_read_45 {Q : mQ} {ls st : List Value} {g : mG} {x y : Int32} : WP m_X3_read Q 45 ls (.int y :: .int x :: st) g = WP m_X3_read Q 46 ls (.int (x + y) :: st) g := E_b2 (f := fun x y => x + y) lo_X3_read rfl
theorem e_X3_read_46 {Q : mQ} {ls st : List Value} {g : mG} {a : Nat} {v : Int32} : WP m_X3_read Q 46 ls (.int v :: .ref a :: st) g = (gK g a = 4 ∧ WP m_X3_read Q 49 ls st (pI g a 3 v)) := E_pI lo_X3_read rfl
theorem e_X3_read_49 {Q : mQ} {l1 : Value} {st : List Value} {g : mG} {x : Nat} : WP m_X3_read Q 49 [.ref x, l1] st g = WP m_X3_read Q 50 [.ref x, l1] (.ref x :: st) g := E_al (i := 0) (n := 1) lo_X3_read rfl rfl
theorem e_X3_read_50 {Q : mQ} {ls st : List Value} {g : mG} {a : Nat} : WP m_X3_read Q 50 ls (.ref a :: st) g = (gK g a = 4 ∧ WP m_X3_read Q 53 ls (.int (gI g a 4) :: st) g) := E_gI lo_X3_read rfl
theorem e_X3_read_53 {Q : mQ} {l1 : Value} {st : List Value} {g : mG} {x : Nat} : WP m_X3_read Q 53 [.ref x, l1] st g = WP m_X3_read Q 54 [.ref x, l1] (.ref x :: st) g := E_al (i := 0) (n := 1) lo_X3_read rfl rfl
theorem e_X3_read_54 {Q : mQ} {ls st : List Value} {g : mG} {a : Nat} : WP m_X3_read Q 54 ls (.ref a :: st) g = (gK g a = 4 ∧ WP m_X3_read Q 57 ls (.int (gI g a 1) :: st) g) := E_gI lo_X3_read rfl
theorem e_X3_read_57 {Q : mQ} {ls st : List Value} {g : mG} {x y : Int32} : WP m_X3_read Q 57 ls (.int y :: .int x :: st) g = ((¬ x = y → WP m_X3_read Q 62 ls st g) ∧ (¬ (¬ x = y) → WP m_X3_read Q 60 ls st g)) := E_I2 (c := fun x y => ¬ x = y) (t := 62) lo_X3_read rfl
theorem e_X3_read_60 {Q : mQ} {ls st : List Value} {g : mG} : WP m_X3_read Q 60 ls st g = WP m_X3_read Q 61 ls (.int ((-1)) :: st) g := E_ic (v := (-1)) (n := 1) lo_X3_read rfl
theorem e_X3_read_61 {Q : mQ} {ls : List Value} {g : mG} {v : Int32} : WP m_X3_read Q 61 ls [.int v] g = Q (some (.int v)) g := E_iret lo_X3_read rfl
theorem e_X3_read_62 {Q : mQ} {l1 : Value} {st : List Value} {g : mG} {x : Nat} : WP m_X3_read Q 62 [.ref x, l1] st g = WP m_X3_read Q 63 [.ref x, l1] (.ref x :: st) g := E_al (i := 0) (n := 1) lo_X3_read rfl rfl
theorem e_X3_read_63 {Q : mQ} {ls st : List Value} {g : mG} : WP m_X3_read Q 63 ls st g = WP m_X3_read Q 65 ls (.int (nI 59) :: st) g := E_ic (v := nI 59) (n := 2) lo_X3_read rfl
theorem e_X3_read_65 {Q : mQ} {ls st : List Value} {g : mG} {b : Nat} {a0 : Value} : WP m_X3_read Q 65 ls (a0 :: .ref b :: st) g = (st.length ≤ 4 ∧ gK g b = 4 ∧ stbs g ls ∧ stbs g st ∧ w_X3_skip [.ref b, a0] g (fun v g' => WP m_X3_read Q 68 ls (v.toList ++ st) g')) := E_CV (ar := [a0, .ref b]) lo_X3_read rfl rfl rfl (by decide)
theorem e_X3_read_68 {Q : mQ} {ls st : List Value} {g : mG} {x : Int32} : WP m_X3_read Q 68 ls (.int x :: st) g = ((¬ x = 0 → WP m_X3_read Q 76 ls st g) ∧ (¬ (¬ x = 0) → WP m_X3_read Q 71 ls st g)) := E_I1 (c := fun x => ¬ x = 0) (t := 76) lo_X3_read rfl
theorem e_X3_read_71 {Q : mQ} {l1 : Value} {st : List Value} {g : mG} {x : Nat} : WP m_X3_read Q 71 [.ref x, l1] st g = WP m_X3_read Q 72 [.ref x, l1] (.ref x :: st) g := E_al (i := 0) (n := 1) lo_X3_read rfl rfl
theorem e_X3_read_72 {Q : mQ} {ls st : List Value} {g : mG} {a : Nat} : WP m_X3_read Q 72 ls (.ref a :: st) g = (gK g a = 4 ∧ WP m_X3_read Q 75 ls (.int (gI g a 4) :: st) g) := E_gI lo_X3_read rfl
theorem e_X3_read_75 {Q : mQ} {ls : List Value} {g : mG} {v : Int32} : WP m_X3_read Q 75 ls [.int v] g = Q (some (.int v)) g := E_iret lo_X3_read rfl
theorem e_X3_read_76 {Q : mQ} {l0 : Value} {st : List Value} {g : mG} {x : Int32} : WP m_X3_read Q 76 [l0, .int x] st g = (nl1 l0 ∧ WP m_X3_read Q 79 [l0, .int (x + nI 1)] st g) := E_inc (i := 1) (d := nI 1) lo_X3_read rfl rfl
theorem e_X3_read_79 {Q : mQ} {ls st : List Value} {g : mG} : WP m_X3_read Q 79 ls st g = WP m_X3_read Q 12 ls st g := E_goto lo_X3_read rfl
theorem e_X3_read_82 {Q : mQ} {l1 : Value} {st : List Value} {g : mG} {x : Nat} : WP m_X3_read Q 82 [.ref x, l1] st g = WP m_X3_read Q 83 [.ref x, l1] (.ref x :: st) g := E_al (i := 0) (n := 1) lo_X3_read rfl rfl
theorem e_X3_read_83 {Q : mQ} {ls st : List Value} {g : mG} {a : Nat} : WP m_X3_read Q 83 ls (.ref a :: st) g = (gK g a = 4 ∧ WP m_X3_read Q 86 ls (.int (gI g a 4) :: st) g) := E_gI lo_X3_read rfl
theorem e_X3_read_86 {Q : mQ} {ls : List Value} {g : mG} {v : Int32} : WP m_X3_read Q 86 ls [.int v] g = Q (some (.int v)) g := E_iret lo_X3_read rfl
