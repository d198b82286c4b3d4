/-! ===== programs ===== -/
/-! java/util/Arrays.copyOf([II)[I -/
def m_J7_copyOf_59c91 : List (Nat × mT) := [(0, tD (f_il 1 1)),
  (1, tD (f_al 0 1)),
  (2, tD (f_alen)),
  (3, tI2 (fun x y => ¬ x = y) 14),
  (6, tD (f_al 0 1)),
  (14, tD (f_il 1 1)),
  (15, tE (f_newa 12)),
  (17, tD (f_as 2 1)),
  (18, tD (f_al 0 1)),
  (19, tD (f_ic (nI 0) 1)),
  (20, tD (f_al 2 1)),
  (21, tD (f_ic (nI 0) 1)),
  (22, tD (f_al 0 1)),
  (23, tD (f_alen)),
  (24, tD (f_il 1 1)),
  (25, tD (f_min)),
  (28, tD (f_acpy)),
  (31, tD (f_al 2 1)),
  (32, tR f_aret)]
abbrev w_J7_copyOf_59c91 : mS := wm m_J7_copyOf_59c91 2 1
set_option maxRecDepth 100000 in
theorem lo_J7_copyOf_59c91 : locs_ok m_J7_copyOf_59c91 := List.forall_mem_cons.mpr ⟨loc_D mo_il,
  List.forall_mem_cons.mpr ⟨loc_D mo_al,
  List.forall_mem_cons.mpr ⟨loc_D mo_alen,
  List.forall_mem_cons.mpr ⟨loc_I2,
  List.forall_mem_cons.mpr ⟨loc_D mo_al,
  List.forall_mem_cons.mpr ⟨loc_D mo_il,
  List.forall_mem_cons.mpr ⟨loc_E (fun _ => mo_newa),
  List.forall_mem_cons.mpr ⟨loc_D mo_as,
  List.forall_mem_cons.mpr ⟨loc_D mo_al,
  List.forall_mem_cons.mpr ⟨loc_D mo_ic,
  List.forall_mem_cons.mpr ⟨loc_D mo_al,
  List.forall_mem_cons.mpr ⟨loc_D mo_ic,
  List.forall_mem_cons.mpr ⟨loc_D mo_al,
  List.forall_mem_cons.mpr ⟨loc_D mo_alen,
  List.forall_mem_cons.mpr ⟨loc_D mo_il,
  List.forall_mem_cons.mpr ⟨loc_D mo_min,
  List.forall_mem_cons.mpr ⟨loc_D mo_acpy,
  List.forall_mem_cons.mpr ⟨loc_D mo_al,
  List.forall_mem_cons.mpr ⟨loc_R,
  fun _ h => absurd h List.not_mem_nil⟩⟩⟩⟩⟩⟩⟩⟩⟩⟩⟩⟩⟩⟩⟩⟩⟩⟩⟩
set_option maxRecDepth 100000 in
theorem sm_J7_copyOf_59c91 : SM yJ7_copyOf_59c91 cJ7_copyOf_59c91 3 (some (.array .int)) 1 w_J7_copyOf_59c91 := SM_of' RJ7 "copyOf" rfl rfl (by decide) (by decide) (by decide) lo_J7_copyOf_59c91 (List.forall_mem_cons.mpr ⟨STP.r mo_il (q_iload_n dJ7_copyOf_59c91_0 rfl),
  List.forall_mem_cons.mpr ⟨STP.r mo_al (q_aload_n dJ7_copyOf_59c91_1 rfl),
  List.forall_mem_cons.mpr ⟨STP.r mo_alen (q_alen dJ7_copyOf_59c91_2),
  List.forall_mem_cons.mpr ⟨(q_ic_ne dJ7_copyOf_59c91_3 (by decide)).r,
  List.forall_mem_cons.mpr ⟨STP.r mo_al (q_aload_n dJ7_copyOf_59c91_6 rfl),
  List.forall_mem_cons.mpr ⟨STP.r mo_il (q_iload_n dJ7_copyOf_59c91_14 rfl),
  List.forall_mem_cons.mpr ⟨STE.r (fun _ => mo_newa) (q_newa (Or.inl ⟨Or.inr rfl, rfl⟩) ka_int dJ7_copyOf_59c91_15),
  List.forall_mem_cons.mpr ⟨STP.r mo_as (q_astore_n dJ7_copyOf_59c91_17 rfl),
  List.forall_mem_cons.mpr ⟨STP.r mo_al (q_aload_n dJ7_copyOf_59c91_18 rfl),
  List.forall_mem_cons.mpr ⟨STP.r mo_ic (q_iconst dJ7_copyOf_59c91_19 (by decide)),
  List.forall_mem_cons.mpr ⟨STP.r mo_al (q_aload_n dJ7_copyOf_59c91_20 rfl),
  List.forall_mem_cons.mpr ⟨STP.r mo_ic (q_iconst dJ7_copyOf_59c91_21 (by decide)),
  List.forall_mem_cons.mpr ⟨STP.r mo_al (q_aload_n dJ7_copyOf_59c91_22 rfl),
  List.forall_mem_cons.mpr ⟨STP.r mo_alen (q_alen dJ7_copyOf_59c91_23),
  List.forall_mem_cons.mpr ⟨STP.r mo_il (q_iload_n dJ7_copyOf_59c91_24 rfl),
  List.forall_mem_cons.mpr ⟨STP.r mo_min (q_min km_J7_304 kz_mins kz_mi kz_minc dJ7_copyOf_59c91_25),
  List.forall_mem_cons.mpr ⟨STP.r mo_acpy (q_acpy km_J7_150 kz_acn kz_acs kz_aci dJ7_copyOf_59c91_28),
  List.forall_mem_cons.mpr ⟨STP.r mo_al (q_aload_n dJ7_copyOf_59c91_31 rfl),
  List.forall_mem_cons.mpr ⟨r_aret (by first | exact Or.inl ⟨_, rfl⟩ | exact Or.inr ⟨_, rfl⟩) dJ7_copyOf_59c91_32,
  fun _ h => absurd h List.not_mem_nil⟩⟩⟩⟩⟩⟩⟩⟩⟩⟩⟩⟩⟩⟩⟩⟩⟩⟩⟩)
theorem e_J7_copyOf_59c91_0 {Q : mQ} {l0 l2 : Value} {st : List Value} {g : mG} {x : Int32} : WP m_J7_copyOf_59c91 Q 0 [l0, .int x, l2] st g = WP m_J7_copyOf_59c91 Q 1 [l0, .int x, l2] (.int x :: st) g := E_il (i := 1) (n := 1) lo_J7_copyOf_59c91 rfl rfl
theorem e_J7_copyOf_59c91_1 {Q : mQ} {l1 l2 : Value} {st : List Value} {g : mG} {x : Nat} : WP m_J7_copyOf_59c91 Q 1 [.ref x, l1, l2] st g = WP m_J7_copyOf_59c91 Q 2 [.ref x, l1, l2] (.ref x :: st) g := E_al (i := 0) (n := 1) lo_J7_copyOf_59c91 rfl rfl
theorem e_J7_copyOf_59c91_1n {Q : mQ} {l1 l2 : Value} {st : List Value} {g : mG} : WP m_J7_copyOf_59c91 Q 1 [.null, l1, l2] st g = WP m_J7_copyOf_59c91 Q 2 [.null, l1, l2] (.null :: st) g := E_aln (i := 0) (n := 1) lo_J7_copyOf_59c91 rfl rfl
theorem e_J7_copyOf_59c91_2 {Q : mQ} {ls st : List Value} {g : mG} {a : Nat} : WP m_J7_copyOf_59c91 Q 2 ls (.ref a :: st) g = ((10 ≤ gK g a ∧ gK g a ≤ 17) ∧ WP m_J7_copyOf_59c91 Q 3 ls (.int (nI (gN g a)) :: st) g) := E_alen lo_J7_copyOf_59c91 rfl
theorem e_J7_copyOf_59c91_3 {Q : mQ} {ls st : List Value} {g : mG} {x y : Int32} : WP m_J7_copyOf_59c91 Q 3 ls (.int y :: .int x :: st) g = ((¬ x = y → WP m_J7_copyOf_59c91 Q 14 ls st g) ∧ (¬ (¬ x = y) → WP m_J7_copyOf_59c91 Q 6 ls st g)) := E_I2 (c := fun x y => ¬ x = y) (t := 14) lo_J7_copyOf_59c91 rfl
theorem e_J7_copyOf_59c91_6 {Q : mQ} {l1 l2 : Value} {st : List Value} {g : mG} {x : Nat} : WP m_J7_copyOf_59c91 Q 6 [.ref x, l1, l2] st g = WP m_J7_copyOf_59c91 Q 7 [.ref x, l1, l2] (.ref x :: st) g := E_al (i := 0) (n := 1) lo_J7_copyOf_59c91 rfl rfl
theorem e_J7_copyOf_59c91_6n {Q : mQ} {l1 l2 : Value} {st : List Value} {g : mG} : WP m_J7_copyOf_59c91 Q 6 [.null, l1, l2] st g = WP m_J7_copyOf_59c91 Q 7 [.null, l1, l2] (.null :: st) g := E_aln (i := 0) (n := 1) lo_J7_copyOf_59c91 rfl rfl
theorem e_J7_copyOf_59c91_14 {Q : mQ} {l0 l2 : Value} {st : List Value} {g : mG} {x : Int32} : WP m_J7_copyOf_59c91 Q 14 [l0, .int x, l2] st g = WP m_J7_copyOf_59c91 Q 15 [l0, .int x, l2] (.int x :: st) g := E_il (i := 1) (n := 1) lo_J7_copyOf_59c91 rfl rfl
theorem e_J7_copyOf_59c91_15 {Q : mQ} {ls st : List Value} {g : mG} {n : Int32} : WP m_J7_copyOf_59c91 Q 15 ls (.int n :: st) g = ∃ a : Nat, (frsh g a ∧ ¬ n < 0 ∧ n.toNatClampNeg ≤ 100000 ∧ alv g ls ∧ alv g st) ∧ WP m_J7_copyOf_59c91 Q 17 ls (.ref a :: st) (nw g a 12 n.toNatClampNeg n.toNatClampNeg (fun _ => 0)) := E_newa lo_J7_copyOf_59c91 rfl
theorem e_J7_copyOf_59c91_17 {Q : mQ} {l0 l1 l2 : Value} {st : List Value} {g : mG} {x : Nat} : WP m_J7_copyOf_59c91 Q 17 [l0, l1, l2] (.ref x :: st) g = (nl1 l1 ∧ WP m_J7_copyOf_59c91 Q 18 [l0, l1, .ref x] st g) := E_as (i := 2) (n := 1) lo_J7_copyOf_59c91 rfl (Nat.le_of_ble_eq_true rfl)
theorem e_J7_copyOf_59c91_17n {Q : mQ} {l0 l1 l2 : Value} {st : List Value} {g : mG} : WP m_J7_copyOf_59c91 Q 17 [l0, l1, l2] (.null :: st) g = (nl1 l1 ∧ WP m_J7_copyOf_59c91 Q 18 [l0, l1, .null] st g) := E_asn (i := 2) (n := 1) lo_J7_copyOf_59c91 rfl (Nat.le_of_ble_eq_true rfl)
theorem e_J7_copyOf_59c91_18 {Q : mQ} {l1 l2 : Value} {st : List Value} {g : mG} {x : Nat} : WP m_J7_copyOf_59c91 Q 18 [.ref x, l1, l2] st g = WP m_J7_copyOf_59c91 Q 19 [.ref x, l1, l2] (.ref x :: st) g := E_al (i := 0) (n := 1) lo_J7_copyOf_59c91 rfl rfl
theorem e_J7_copyOf_59c91_18n {Q : mQ} {l1 l2 : Value} {st : List Value} {g : mG} : WP m_J7_copyOf_59c91 Q 18 [.null, l1, l2] st g = WP m_J7_copyOf_59c91 Q 19 [.null, l1, l2] (.null :: st) g := E_aln (i := 0) (n := 1) lo_J7_copyOf_59c91 rfl rfl
theorem e_J7_copyOf_59c91_19 {Q : mQ} {ls st : List Value} {g : mG} : WP m_J7_copyOf_59c91 Q 19 ls st g = WP m_J7_copyOf_59c91 Q 20 ls (.int (nI 0) :: st) g := E_ic (v := nI 0) (n := 1) lo_J7_copyOf_59c91 rfl
theorem e_J7_copyOf_59c91_20 {Q : mQ} {l0 l1 : Value} {st : List Value} {g : mG} {x : Nat} : WP m_J7_copyOf_59c91 Q 20 [l0, l1, .ref x] st g = WP m_J7_copyOf_59c91 Q 21 [l0, l1, .ref x] (.ref x :: st) g := E_al (i := 2) (n := 1) lo_J7_copyOf_59c91 rfl rfl
theorem e_J7_copyOf_59c91_20n {Q : mQ} {l0 l1 : Value} {st : List Value} {g : mG} : WP m_J7_copyOf_59c91 Q 20 [l0, l1, .null] st g = WP m_J7_copyOf_59c91 Q 21 [l0, l1, .null] (.null :: st) g := E_aln (i := 2) (n := 1) lo_J7_copyOf_59c91 rfl rfl
theorem e_J7_copyOf_59c91_21 {Q : mQ} {ls st : List Value} {g : mG} : WP m_J7_copyOf_59c91 Q 21 ls st g = WP m_J7_copyOf_59c91 Q 22 ls (.int (nI 0) :: st) g := E_ic (v := nI 0) (n := 1) lo_J7_copyOf_59c91 rfl
theorem e_J7_copyOf_59c91_22 {Q : mQ} {l1 l2 : Value} {st : List Value} {g : mG} {x : Nat} : WP m_J7_copyOf_59c91 Q 22 [.ref x, l1, l2] st g = WP m_J7_copyOf_59c91 Q 23 [.ref x, l1, l2] (.ref x :: st) g := E_al (i := 0) (n := 1) lo_J7_copyOf_59c91 rfl rfl
theorem e_J7_copyOf_59c91_22n {Q : mQ} {l1 l2 : Value} {st : List Value} {g : mG} : WP m_J7_copyOf_59c91 Q 22 [.null, l1, l2] st g = WP m_J7_copyOf_59c91 Q 23 [.null, l1, l2] (.null :: st) g := E_aln (i := 0) (n := 1) lo_J7_copyOf_59c91 rfl rfl
theorem e_J7_copyOf_59c91_23 {Q : mQ} {ls st : List Value} {g : mG} {a : Nat} : WP m_J7_copyOf_59c91 Q 23 ls (.ref a :: st) g = ((10 ≤ gK g a ∧ gK g a ≤ 17) ∧ WP m_J7_copyOf_59c91 Q 24 ls (.int (nI (gN g a)) :: st) g) := E_alen lo_J7_copyOf_59c91 rfl
theorem e_J7_copyOf_59c91_24 {Q : mQ} {l0 l2 : Value} {st : List Value} {g : mG} {x : Int32} : WP m_J7_copyOf_59c91 Q 24 [l0, .int x, l2] st g = WP m_J7_copyOf_59c91 Q 25 [l0, .int x, l2] (.int x :: st) g := E_il (i := 1) (n := 1) lo_J7_copyOf_59c91 rfl rfl
theorem e_J7_copyOf_59c91_25 {Q : mQ} {ls st : List Value} {g : mG} {x y : Int32} : WP m_J7_copyOf_59c91 Q 25 ls (.int y :: .int x :: st) g = (st.length ≤ 4 ∧ WP m_J7_copyOf_59c91 Q 28 ls (.int (if y < x then y else x) :: st) g) := E_min lo_J7_copyOf_59c91 rfl
theorem e_J7_copyOf_59c91_28 {Q : mQ} {ls st : List Value} {g : mG} {a b : Nat} {n dp sp : Int32} : WP m_J7_copyOf_59c91 Q 28 ls (.int n :: .int dp :: .ref b :: .int sp :: .ref a :: st) g = (((gK g a = 11 ∨ gK g a = 12) ∧ (gK g b = 11 ∨ gK g b = 12) ∧ ¬ sp < 0 ∧ ¬ dp < 0 ∧ ¬ n < 0 ∧ sp.toNatClampNeg + n.toNatClampNeg ≤ gN g a ∧ dp.toNatClampNeg + n.toNatClampNeg ≤ gN g b ∧ st.length ≤ 4) ∧ WP m_J7_copyOf_59c91 Q 31 ls st (pA g b (va_cpy (gI g a) (gI g b) sp.toNatClampNeg dp.toNatClampNeg n.toNatClampNeg))) := E_acpy lo_J7_copyOf_59c91 rfl
theorem e_J7_copyOf_59c91_31 {Q : mQ} {l0 l1 : Value} {st : List Value} {g : mG} {x : Nat} : WP m_J7_copyOf_59c91 Q 31 [l0, l1, .ref x] st g = WP m_J7_copyOf_59c91 Q 32 [l0, l1, .ref x] (.ref x :: st) g := E_al (i := 2) (n := 1) lo_J7_copyOf_59c91 rfl rfl
theorem e_J7_copyOf_59c91_31n {Q : mQ} {l0 l1 : Value} {st : List Value} {g : mG} : WP m_J7_copyOf_59c91 Q 31 [l0, l1, .null] st g = WP m_J7_copyOf_59c91 Q 32 [l0, l1, .null] (.null :: st) g := E_aln (i := 2) (n := 1) lo_J7_copyOf_59c91 rfl rfl
theorem e_J7_copyOf_59c91_32 {Q : mQ} {ls : List Value} {g : mG} {v : Nat} : WP m_J7_copyOf_59c91 Q 32 ls [.ref v] g = Q (some (.ref v)) g := E_aret lo_J7_copyOf_59c91 rfl
theorem e_J7_copyOf_59c91_32n {Q : mQ} {ls : List Value} {g : mG} : WP m_J7_copyOf_59c91 Q 32 ls [.null] g = Q (some .null) g := E_aretn lo_J7_copyOf_59c91 rfl
/-! KilnPermits$Permits.copyFrom(LKilnPermits$Permits;)V -/
def m_X4_copyFrom : List (Nat × mT) := [(0, tD (f_al 0 1)),
  (1, tD (f_gY)),
  (4, tD (f_alen)),
  (5, tD (f_al 1 1)),
  (6, tD (f_gI 5 1)),
  (9, tI2 (fun x y => y ≤ x) 23),
  (12, tD (f_al 0 1)),
  (13, tD (f_al 1 1)),
  (14, tD (f_gY)),
  (17, tD (f_alen)),
  (18, tE (f_newa 12)),
  (20, tD (f_pY)),
  (23, tD (f_al 1 1)),
  (24, tD (f_gY)),
  (27, tD (f_ic (nI 0) 1)),
  (28, tD (f_al 0 1)),
  (29, tD (f_gY)),
  (32, tD (f_ic (nI 0) 1)),
  (33, tD (f_al 1 1)),
  (34, tD (f_gI 5 1)),
  (37, tD (f_acpy)),
  (40, tD (f_al 0 1)),
  (41, tD (f_al 1 1)),
  (42, tD (f_gI 5 1)),
  (45, tD (f_pI 5 1)),
  (48, tD (f_al 0 1)),
  (49, tD (f_al 1 1)),
  (50, tD (f_gI 5 2)),
  (53, tD (f_pI 5 2)),
  (56, tR f_ret)]
abbrev w_X4_copyFrom : mS := wm m_X4_copyFrom 2 0
set_option maxRecDepth 100000 in
theorem lo_X4_copyFrom : locs_ok m_X4_copyFrom := List.forall_mem_cons.mpr ⟨loc_D mo_al,
  List.forall_mem_cons.mpr ⟨loc_D mo_gY,
  List.forall_mem_cons.mpr ⟨loc_D mo_alen,
  List.forall_mem_cons.mpr ⟨loc_D mo_al,
  List.forall_mem_cons.mpr ⟨loc_D mo_gI,
  List.forall_mem_cons.mpr ⟨loc_I2,
  List.forall_mem_cons.mpr ⟨loc_D mo_al,
  List.forall_mem_cons.mpr ⟨loc_D mo_al,
  List.forall_mem_cons.mpr ⟨loc_D mo_gY,
  List.forall_mem_cons.mpr ⟨loc_D mo_alen,
  List.forall_mem_cons.mpr ⟨loc_E (fun _ => mo_newa),
  List.forall_mem_cons.mpr ⟨loc_D mo_pY,
  List.forall_mem_cons.mpr ⟨loc_D mo_al,
  List.forall_mem_cons.mpr ⟨loc_D mo_gY,
  List.forall_mem_cons.mpr ⟨loc_D mo_ic,
  List.forall_mem_cons.mpr ⟨loc_D mo_al,
  List.forall_mem_cons.mpr ⟨loc_D mo_gY,
  List.forall_mem_cons.mpr ⟨loc_D mo_ic,
  List.forall_mem_cons.mpr ⟨loc_D mo_al,
  List.forall_mem_cons.mpr ⟨loc_D mo_gI,
  List.forall_mem_cons.mpr ⟨loc_D mo_acpy,
  List.forall_mem_cons.mpr ⟨loc_D mo_al,
  List.forall_mem_cons.mpr ⟨loc_D mo_al,
  List.forall_mem_cons.mpr ⟨loc_D mo_gI,
  List.forall_mem_cons.mpr ⟨loc_D mo_pI,
  List.forall_mem_cons.mpr ⟨loc_D mo_al,
  List.forall_mem_cons.mpr ⟨loc_D mo_al,
  List.forall_mem_cons.mpr ⟨loc_D mo_gI,
  List.forall_mem_cons.mpr ⟨loc_D mo_pI,
  List.forall_mem_cons.mpr ⟨loc_R,
  fun _ h => absurd h List.not_mem_nil⟩⟩⟩⟩⟩⟩⟩⟩⟩⟩⟩⟩⟩⟩⟩⟩⟩⟩⟩⟩⟩⟩⟩⟩⟩⟩⟩⟩⟩⟩
set_option maxRecDepth 100000 in
theorem sm_X4_copyFrom : SM yX4_copyFrom cX4_copyFrom 2 none 1 w_X4_copyFrom := SM_of' RX4 "copyFrom" rfl rfl (by decide) (by decide) (by decide) lo_X4_copyFrom (List.forall_mem_cons.mpr ⟨STP.r mo_al (q_aload_n dX4_copyFrom_0 rfl),
  List.forall_mem_cons.mpr ⟨STP.r mo_gY (q_gY kf_X4_9 dX4_copyFrom_1),
  List.forall_mem_cons.mpr ⟨STP.r mo_alen (q_alen dX4_copyFrom_4),
  List.forall_mem_cons.mpr ⟨STP.r mo_al (q_aload_n dX4_copyFrom_5 rfl),
  List.forall_mem_cons.mpr ⟨STP.r mo_gI (q_gI ⟨by decide, by decide⟩ (by decide) rfl kf_X4_15 dX4_copyFrom_6),
  List.forall_mem_cons.mpr ⟨(q_ic_ge dX4_copyFrom_9 (by decide)).r,
  List.forall_mem_cons.mpr ⟨STP.r mo_al (q_aload_n dX4_copyFrom_12 rfl),
  List.forall_mem_cons.mpr ⟨STP.r mo_al (q_aload_n dX4_copyFrom_13 rfl),
  List.forall_mem_cons.mpr ⟨STP.r mo_gY (q_gY kf_X4_9 dX4_copyFrom_14),
  List.forall_mem_cons.mpr ⟨STP.r mo_alen (q_alen dX4_copyFrom_17),
  List.forall_mem_cons.mpr ⟨STE.r (fun _ => mo_newa) (q_newa (Or.inl ⟨Or.inr rfl, rfl⟩) ka_int dX4_copyFrom_18),
  List.forall_mem_cons.mpr ⟨STP.r mo_pY (q_pY kf_X4_9 dX4_copyFrom_20),
  List.forall_mem_cons.mpr ⟨STP.r mo_al (q_aload_n dX4_copyFrom_23 rfl),
  List.forall_mem_cons.mpr ⟨STP.r mo_gY (q_gY kf_X4_9 dX4_copyFrom_24),
  List.forall_mem_cons.mpr ⟨STP.r mo_ic (q_iconst dX4_copyFrom_27 (by decide)),
  List.forall_mem_cons.mpr ⟨STP.r mo_al (q_aload_n dX4_copyFrom_28 rfl),
  List.forall_mem_cons.mpr ⟨STP.r mo_gY (q_gY kf_X4_9 dX4_copyFrom_29),
  List.forall_mem_cons.mpr ⟨STP.r mo_ic (q_iconst dX4_copyFrom_32 (by decide)),
  List.forall_mem_cons.mpr ⟨STP.r mo_al (q_aload_n dX4_copyFrom_33 rfl),
  List.forall_mem_cons.mpr ⟨STP.r mo_gI (q_gI ⟨by decide, by decide⟩ (by decide) rfl kf_X4_15 dX4_copyFrom_34),
  List.forall_mem_cons.mpr ⟨STP.r mo_acpy (q_acpy km_X4_19 kz_acn kz_acs kz_aci dX4_copyFrom_37),
  List.forall_mem_cons.mpr ⟨STP.r mo_al (q_aload_n dX4_copyFrom_40 rfl),
  List.forall_mem_cons.mpr ⟨STP.r mo_al (q_aload_n dX4_copyFrom_41 rfl),
  List.forall_mem_cons.mpr ⟨STP.r mo_gI (q_gI ⟨by decide, by decide⟩ (by decide) rfl kf_X4_15 dX4_copyFrom_42),
  List.forall_mem_cons.mpr ⟨STP.r mo_pI (q_pI ⟨by decide, by decide⟩ (by decide) rfl rfl kf_X4_15 dX4_copyFrom_45),
  List.forall_mem_cons.mpr ⟨STP.r mo_al (q_aload_n dX4_copyFrom_48 rfl),
  List.forall_mem_cons.mpr ⟨STP.r mo_al (q_aload_n dX4_copyFrom_49 rfl),
  List.forall_mem_cons.mpr ⟨STP.r mo_gI (q_gI ⟨by decide, by decide⟩ (by decide) rfl kf_X4_25 dX4_copyFrom_50),
  List.forall_mem_cons.mpr ⟨STP.r mo_pI (q_pI ⟨by decide, by decide⟩ (by decide) rfl rfl kf_X4_25 dX4_copyFrom_53),
  List.forall_mem_cons.mpr ⟨r_ret dX4_copyFrom_56,
  fun _ h => absurd h List.not_mem_nil⟩⟩⟩⟩⟩⟩⟩⟩⟩⟩⟩⟩⟩⟩⟩⟩⟩⟩⟩⟩⟩⟩⟩⟩⟩⟩⟩⟩⟩⟩)
theorem e_X4_copyFrom_0 {Q : mQ} {l1 : Value} {st : List Value} {g : mG} {x : Nat} : WP m_X4_copyFrom Q 0 [.ref x, l1] st g = WP m_X4_copyFrom Q 1 [.ref x, l1] (.ref x :: st) g := E_al (i := 0) (n := 1) lo_X4_copyFrom rfl rfl
theorem e_X4_copyFrom_1 {Q : mQ} {ls st : List Value} {g : mG} {a : Nat} : WP m_X4_copyFrom Q 1 ls (.ref a :: st) g = ((gK g a = 5 ∧ gK g (a + 1) = 12) ∧ WP m_X4_copyFrom Q 4 ls (.ref (a + 1) :: st) g) := E_gY lo_X4_copyFrom rfl
theorem e_X4_copyFrom_4 {Q : mQ} {ls st : List Value} {g : mG} {a : Nat} : WP m_X4_copyFrom Q 4 ls (.ref a :: st) g = ((10 ≤ gK g a ∧ gK g a ≤ 17) ∧ WP m_X4_copyFrom Q 5 ls (.int (nI (gN g a)) :: st) g) := E_alen lo_X4_copyFrom rfl
theorem e_X4_copyFrom_5 {Q : mQ} {l0 : Value} {st : List Value} {g : mG} {x : Nat} : WP m_X4_copyFrom Q 5 [l0, .ref x] st g = WP m_X4_copyFrom Q 6 [l0, .ref x] (.ref x :: st) g := E_al (i := 1) (n := 1) lo_X4_copyFrom rfl rfl
theorem e_X4_copyFrom_5n {Q : mQ} {l0 : Value} {st : List Value} {g : mG} : WP m_X4_copyFrom Q 5 [l0, .null] st g = WP m_X4_copyFrom Q 6 [l0, .null] (.null :: st) g := E_aln (i := 1) (n := 1) lo_X4_copyFrom rfl rfl
theorem e_X4_copyFrom_6 {Q : mQ} {ls st : List Value} {g : mG} {a : Nat} : WP m_X4_copyFrom Q 6 ls (.ref a :: st) g = (gK g a = 5 ∧ WP m_X4_copyFrom Q 9 ls (.int (gI g a 1) :: st) g) := E_gI lo_X4_copyFrom rfl
theorem e_X4_copyFrom_9 {Q : mQ} {ls st : List Value} {g : mG} {x y : Int32} : WP m_X4_copyFrom Q 9 ls (.int y :: .int x :: st) g = ((y ≤ x → WP m_X4_copyFrom Q 23 ls st g) ∧ (¬ (y ≤ x) → WP m_X4_copyFrom Q 12 ls st g)) := E_I2 (c := fun x y => y ≤ x) (t := 23) lo_X4_copyFrom rfl
theorem e_X4_copyFrom_12 {Q : mQ} {l1 : Value} {st : List Value} {g : mG} {x : Nat} : WP m_X4_copyFrom Q 12 [.ref x, l1] st g = WP m_X4_copyFrom Q 13 [.ref x, l1] (.ref x :: st) g := E_al (i := 0) (n := 1) lo_X4_copyFrom rfl rfl
theorem e_X4_copyFrom_13 {Q : mQ} {l0 : Value} {st : List Value} {g : mG} {x : Nat} : WP m_X4_copyFrom Q 13 [l0, .ref x] st g = WP m_X4_copyFrom Q 14 [l0, .ref x] (.ref x :: st) g := E_al (i := 1) (n := 1) lo_X4_copyFrom rfl rfl
theorem e_X4_copyFrom_13n {Q : mQ} {l0 : Value} {st : List Value} {g : mG} : WP m_X4_copyFrom Q 13 [l0, .null] st g = WP m_X4_copyFrom Q 14 [l0, .null] (.null :: st) g := E_aln (i := 1) (n := 1) lo_X4_copyFrom rfl rfl
theorem e_X4_copyFrom_14 {Q : mQ} {ls st : List Value} {g : mG} {a : Nat} : WP m_X4_copyFrom Q 14 ls (.ref a :: st) g = ((gK g a = 5 ∧ gK g (a + 1) = 12) ∧ WP m_X4_copyFrom Q 17 ls (.ref (a + 1) :: st) g) := E_gY lo_X4_copyFrom rfl
theorem e_X4_copyFrom_17 {Q : mQ} {ls st : List Value} {g : mG} {a : Nat} : WP m_X4_copyFrom Q 17 ls (.ref a :: st) g = ((10 ≤ gK g a ∧ gK g a ≤ 17) ∧ WP m_X4_copyFrom Q 18 ls (.int (nI (gN g a)) :: st) g) := E_alen lo_X4_copyFrom rfl
theorem e_X4_copyFrom_18 {Q : mQ} {ls st : List Value} {g : mG} {n : Int32} : WP m_X4_copyFrom Q 18 ls (.int n :: st) g = ∃ a : Nat, (frsh g a ∧ ¬ n < 0 ∧ n.toNatClampNeg ≤ 100000 ∧ alv g ls ∧ alv g st) ∧ WP m_X4_copyFrom Q 20 ls (.ref a :: st) (nw g a 12 n.toNatClampNeg n.toNatClampNeg (fun _ => 0)) := E_newa lo_X4_copyFrom rfl
theorem e_X4_copyFrom_20 {Q : mQ} {ls st : List Value} {g : mG} {a q : Nat} : WP m_X4_copyFrom Q 20 ls (.ref q :: .ref a :: st) g = ((gK g a = 5 ∧ gK g q = 12 ∧ q ≠ a + 1 ∧ (gK g (a + 1) = 0 ∨ gK g (a + 1) = 12) ∧ gK g (q - 1) ≠ 5 ∧ stbs g ls ∧ stbs g st) ∧ WP m_X4_copyFrom Q 23 ls st (mY g a q)) := E_pY lo_X4_copyFrom rfl
theorem e_X4_copyFrom_23 {Q : mQ} {l0 : Value} {st : List Value} {g : mG} {x : Nat} : WP m_X4_copyFrom Q 23 [l0, .ref x] st g = WP m_X4_copyFrom Q 24 [l0, .ref x] (.ref x :: st) g := E_al (i := 1) (n := 1) lo_X4_copyFrom rfl rfl
theorem e_X4_copyFrom_23n {Q : mQ} {l0 : Value} {st : List Value} {g : mG} : WP m_X4_copyFrom Q 23 [l0, .null] st g = WP m_X4_copyFrom Q 24 [l0, .null] (.null :: st) g := E_aln (i := 1) (n := 1) lo_X4_copyFrom rfl rfl
theorem e_X4_copyFrom_24 {Q : mQ} {ls st : List Value} {g : mG} {a : Nat} : WP m_X4_copyFrom Q 24 ls (.ref a :: st) g = ((gK g a = 5 ∧ gK g (a + 1) = 12) ∧ WP m_X4_copyFrom Q 27 ls (.ref (a + 1) :: st) g) := E_gY lo_X4_copyFrom rfl
theorem e_X4_copyFrom_27 {Q : mQ} {ls st : List Value} {g : mG} : WP m_X4_copyFrom Q 27 ls st g = WP m_X4_copyFrom Q 28 ls (.int (nI 0) :: st) g := E_ic (v := nI 0) (n := 1) lo_X4_copyFrom rfl
theorem e_X4_copyFrom_28 {Q : mQ} {l1 : Value} {st : List Value} {g : mG} {x : Nat} : WP m_X4_copyFrom Q 28 [.ref x, l1] st g = WP m_X4_copyFrom Q 29 [.ref x, l1] (.ref x :: st) g := E_al (i := 0) (n := 1) lo_X4_copyFrom rfl rfl
theorem e_X4_copyFrom_29 {Q : mQ} {ls st : List Value} {g : mG} {a : Nat} : WP m_X4_copyFrom Q 29 ls (.ref a :: st) g = ((gK g a = 5 ∧ gK g (a + 1) = 12) ∧ WP m_X4_copyFrom Q 32 ls (.ref (a + 1) :: st) g) := E_gY lo_X4_copyFrom rfl
theorem e_X4_copyFrom_32 {Q : mQ} {ls st : List Value} {g : mG} : WP m_X4_copyFrom Q 32 ls st g = WP m_X4_copyFrom Q 33 ls (.int (nI 0) :: st) g := E_ic (v := nI 0) (n := 1) lo_X4_copyFrom rfl
theorem e_X4_copyFrom_33 {Q : mQ} {l0 : Value} {st : List Value} {g : mG} {x : Nat} : WP m_X4_copyFrom Q 33 [l0, .ref x] st g = WP m_X4_copyFrom Q 34 [l0, .ref x] (.ref x :: st) g := E_al (i := 1) (n := 1) lo_X4_copyFrom rfl rfl
theorem e_X4_copyFrom_33n {Q : mQ} {l0 : Value} {st : List Value} {g : mG} : WP m_X4_copyFrom Q 33 [l0, .null] st g = WP m_X4_copyFrom Q 34 [l0, .null] (.null :: st) g := E_aln (i := 1) (n := 1) lo_X4_copyFrom rfl rfl
theorem e_X4_copyFrom_34 {Q : mQ} {ls st : List Value} {g : mG} {a : Nat} : WP m_X4_copyFrom Q 34 ls (.ref a :: st) g = (gK g a = 5 ∧ WP m_X4_copyFrom Q 37 ls (.int (gI g a 1) :: st) g) := E_gI lo_X4_copyFrom rfl
theorem e_X4_copyFrom_37 {Q : mQ} {ls st : List Value} {g : mG} {a b : Nat} {n dp sp : Int32} : WP m_X4_copyFrom Q 37 ls (.int n :: .int dp :: .ref b :: .int sp :: .ref a :: st) g = (((gK g a = 11 ∨ gK g a = 12) ∧ (gK g b = 11 ∨ gK g b = 12) ∧ ¬ sp < 0 ∧ ¬ dp < 0 ∧ ¬ n < 0 ∧ sp.toNatClampNeg + n.toNatClampNeg ≤ gN g a ∧ dp.toNatClampNeg + n.toNatClampNeg ≤ gN g b ∧ st.length ≤ 4) ∧ WP m_X4_copyFrom Q 40 ls st (pA g b (va_cpy (gI g a) (gI g b) sp.toNatClampNeg dp.toNatClampNeg n.toNatClampNeg))) := E_acpy lo_X4_copyFrom rfl
theorem e_X4_copyFrom_40 {Q : mQ} {l1 : Value} {st : List Value} {g : mG} {x : Nat} : WP m_X4_copyFrom Q 40 [.ref x, l1] st g = WP m_X4_copyFrom Q 41 [.ref x, l1] (.ref x :: st) g := E_al (i := 0) (n := 1) lo_X4_copyFrom rfl rfl
theorem e_X4_copyFrom_41 {Q : mQ} {l0 : Value} {st : List Value} {g : mG} {x : Nat} : WP m_X4_copyFrom Q 41 [l0, .ref x] st g = WP m_X4_copyFrom Q 42 [l0, .ref x] (.ref x :: st) g := E_al (i := 1) (n := 1) lo_X4_copyFrom rfl rfl
theorem e_X4_copyFrom_41n {Q : mQ} {l0 : Value} {st : List Value} {g : mG} : WP m_X4_copyFrom Q 41 [l0, .null] st g = WP m_X4_copyFrom Q 42 [l0, .null] (.null :: st) g := E_aln (i := 1) (n := 1) lo_X4_copyFrom rfl rfl
theorem e_X4_copyFrom_42 {Q : mQ} {ls st : List Value} {g : mG} {a : Nat} : WP m_X4_copyFrom Q 42 ls (.ref a :: st) g = (gK g a = 5 ∧ WP m_X4_copyFrom Q 45 ls (.int (gI g a 1) :: st) g) := E_gI lo_X4_copyFrom rfl
theorem e_X4_copyFrom_45 {Q : mQ} {ls st : List Value} {g : mG} {a : Nat} {v : Int32} : WP m_X4_copyFrom Q 45 ls (.int v :: .ref a :: st) g = (gK g a = 5 ∧ WP m_X4_copyFrom Q 48 ls st (pI g a 1 v)) := E_pI lo_X4_copyFrom rfl
theorem e_X4_copyFrom_48 {Q : mQ} {l1 : Value} {st : List Value} {g : mG} {x : Nat} : WP m_X4_copyFrom Q 48 [.ref x, l1] st g = WP m_X4_copyFrom Q 49 [.ref x, l1] (.ref x :: st) g := E_al (i := 0) (n := 1) lo_X4_copyFrom rfl rfl
theorem e_X4_copyFrom_49 {Q : mQ} {l0 : Value} {st : List Value} {g : mG} {x : Nat} : WP m_X4_copyFrom Q 49 [l0, .ref x] st g = WP m_X4_copyFrom Q 50 [l0, .ref x] (.ref x :: st) g := E_al (i := 1) (n := 1) lo_X4_copyFrom rfl rfl
theorem e_X4_copyFrom_49n {Q : mQ} {l0 : Value} {st : List Value} {g : mG} : WP m_X4_copyFrom Q 49 [l0, .null] st g = WP m_X4_copyFrom Q 50 [l0, .null] (.null :: st) g := E_aln (i := 1) (n := 1) lo_X4_copyFrom rfl rfl
theorem e_X4_copyFrom_50 {Q : mQ} {ls st : List Value} {g : mG} {a : Nat} : WP m_X4_copyFrom Q 50 ls (.ref a :: st) g = (gK g a = 5 ∧ WP m_X4_copyFrom Q 53 ls (.int (gI g a 2) :: st) g) := E_gI lo_X4_copyFrom rfl
theorem e_X4_copyFrom_53 {Q : mQ} {ls st : List Value} {g : mG} {a : Nat} {v : Int32} : WP m_X4_copyFrom Q 53 ls (.int v :: .ref a :: st) g = (gK g a = 5 ∧ WP m_X4_copyFrom Q 56 ls st (pI g a 2 v)) := E_pI lo_X4_copyFrom rfl
theorem e_X4_copyFrom_56 {Q : mQ} {ls : List Value} {g : mG} : WP m_X4_copyFrom Q 56 ls [] g = Q none g := E_ret lo_X4_copyFrom rfl
/-! KilnPermits$Permits.leaveOut(I)V -/
def m_X4_leaveOut : List (Nat × mT) := [(0, tD (f_al 0 1)),
  (1, tD (f_dup)),
  (2, tD (f_gI 5 2)),
  (5, tD (f_il 1 1)),
  (6, tD (f_b2 fun x y => x - y)),
  (7, tD (f_pI 5 2)),
  (10, tD (f_al 0 1)),
  (11, tD (f_gI 5 2)),
  (14, tI1 (fun x => ¬ x = 0) 22),
  (17, tD (f_al 0 1)),
  (18, tD (f_ic (nI 0) 1)),
  (19, tD (f_pI 5 1)),
  (22, tR f_ret)]
abbrev w_X4_leaveOut : mS := wm m_X4_leaveOut 2 0
set_option maxRecDepth 100000 in
theorem lo_X4_leaveOut : locs_ok m_X4_leaveOut := List.forall_mem_cons.mpr ⟨loc_D mo_al,
  List.forall_mem_cons.mpr ⟨loc_D mo_dup,
  List.forall_mem_cons.mpr ⟨loc_D mo_gI,
  List.forall_mem_cons.mpr ⟨loc_D mo_il,
  List.forall_mem_cons.mpr ⟨loc_D mo_b2,
  List.forall_mem_cons.mpr ⟨loc_D mo_pI,
  List.forall_mem_cons.mpr ⟨loc_D mo_al,
  List.forall_mem_cons.mpr ⟨loc_D mo_gI,
  List.forall_mem_cons.mpr ⟨loc_I1,
  List.forall_mem_cons.mpr ⟨loc_D mo_al,
  List.forall_mem_cons.mpr ⟨loc_D mo_ic,
  List.forall_mem_cons.mpr ⟨loc_D mo_pI,
  List.forall_mem_cons.mpr ⟨loc_R,
  fun _ h => absurd h List.not_mem_nil⟩⟩⟩⟩⟩⟩⟩⟩⟩⟩⟩⟩⟩
set_option maxRecDepth 100000 in
theorem sm_X4_leaveOut : SM yX4_leaveOut cX4_leaveOut 2 none 1 w_X4_leaveOut := SM_of' RX4 "leaveOut" rfl rfl (by decide) (by decide) (by decide) lo_X4_leaveOut (List.forall_mem_cons.mpr ⟨STP.r mo_al (q_aload_n dX4_leaveOut_0 rfl),
  List.forall_mem_cons.mpr ⟨STP.r mo_dup (q_dup dX4_leaveOut_1),
  List.forall_mem_cons.mpr ⟨STP.r mo_gI (q_gI ⟨by decide, by decide⟩ (by decide) rfl kf_X4_25 dX4_leaveOut_2),
  List.forall_mem_cons.mpr ⟨STP.r mo_il (q_iload_n dX4_leaveOut_5 rfl),
  List.forall_mem_cons.mpr ⟨STP.r mo_b2 (q_isub dX4_leaveOut_6),
  List.forall_mem_cons.mpr ⟨STP.r mo_pI (q_pI ⟨by decide, by decide⟩ (by decide) rfl rfl kf_X4_25 dX4_leaveOut_7),
  List.forall_mem_cons.mpr ⟨STP.r mo_al (q_aload_n dX4_leaveOut_10 rfl),
  List.forall_mem_cons.mpr ⟨STP.r mo_gI (q_gI ⟨by decide, by decide⟩ (by decide) rfl kf_X4_25 dX4_leaveOut_11),
  List.forall_mem_cons.mpr ⟨(q_if_ne dX4_leaveOut_14 (by decide)).r,
  List.forall_mem_cons.mpr ⟨STP.r mo_al (q_aload_n dX4_leaveOut_17 rfl),
  List.forall_mem_cons.mpr ⟨STP.r mo_ic (q_iconst dX4_leaveOut_18 (by decide)),
  List.forall_mem_cons.mpr ⟨STP.r mo_pI (q_pI ⟨by decide, by decide⟩ (by decide) rfl rfl kf_X4_15 dX4_leaveOut_19),
  List.forall_mem_cons.mpr ⟨r_ret dX4_leaveOut_22,
  fun _ h => absurd h List.not_mem_nil⟩⟩⟩⟩⟩⟩⟩⟩⟩⟩⟩⟩⟩)
theorem e_X4_leaveOut_0 {Q : mQ} {l1 : Value} {st : List Value} {g : mG} {x : Nat} : WP m_X4_leaveOut Q 0 [.ref x, l1] st g = WP m_X4_leaveOut Q 1 [.ref x, l1] (.ref x :: st) g := E_al (i := 0) (n := 1) lo_X4_leaveOut rfl rfl
theorem e_X4_leaveOut_1 {Q : mQ} {ls st : List Value} {g : mG} {x : Value} : WP m_X4_leaveOut Q 1 ls (x :: st) g = (cat1 x ∧ WP m_X4_leaveOut Q 2 ls (x :: x :: st) g) := E_dup lo_X4_leaveOut rfl
theorem e_X4_leaveOut_2 {Q : mQ} {ls st : List Value} {g : mG} {a : Nat} : WP m_X4_leaveOut Q 2 ls (.ref a :: st) g = (gK g a = 5 ∧ WP m_X4_leaveOut Q 5 ls (.int (gI g a 2) :: st) g) := E_gI lo_X4_leaveOut rfl
theorem e_X4_leaveOut_5 {Q : mQ} {l0 : Value} {st : List Value} {g : mG} {x : Int32} : WP m_X4_leaveOut Q 5 [l0, .int x] st g = WP m_X4_leaveOut Q 6 [l0, .int x] (.int x :: st) g := E_il (i := 1) (n := 1) lo_X4_leaveOut rfl rfl
theorem e_X4_leaveOut_6 {Q : mQ} {ls st : List Value} {g : mG} {x y : Int32} : WP m_X4_leaveOut Q 6 ls (.int y :: .int x :: st) g = WP m_X4_leaveOut Q 7 ls (.int (x - y) :: st) g := E_b2 (f := fun x y => x - y) lo_X4_leaveOut rfl
theorem e_X4_leaveOut_7 {Q : mQ} {ls st : List Value} {g : mG} {a : Nat} {v : Int32} : WP m_X4_leaveOut Q 7 ls (.int v :: .ref a :: st) g = (gK g a = 5 ∧ WP m_X4_leaveOut Q 10 ls st (pI g a 2 v)) := E_pI lo_X4_leaveOut rfl
theorem e_X4_leaveOut_10 {Q : mQ} {l1 : Value} {st : List Value} {g : mG} {x : Nat} : WP m_X4_leaveOut Q 10 [.ref x, l1] st g = WP m_X4_leaveOut Q 11 [.ref x, l1] (.ref x :: st) g := E_al (i := 0) (n := 1) lo_X4_leaveOut rfl rfl
theorem e_X4_leaveOut_11 {Q : mQ} {ls st : List Value} {g : mG} {a : Nat} : WP m_X4_leaveOut Q 11 ls (.ref a :: st) g = (gK g a = 5 ∧ WP m_X4_leaveOut Q 14 ls (.int (gI g a 2) :: st) g) := E_gI lo_X4_leaveOut rfl
theorem e_X4_leaveOut_14 {Q : mQ} {ls st : List Value} {g : mG} {x : Int32} : WP m_X4_leaveOut Q 14 ls (.int x :: st) g = ((¬ x = 0 → WP m_X4_leaveOut Q 22 ls st g) ∧ (¬ (¬ x = 0) → WP m_X4_leaveOut Q 17 ls st g)) := E_I1 (c := fun x => ¬ x = 0) (t := 22) lo_X4_leaveOut rfl
theorem e_X4_leaveOut_17 {Q : mQ} {l1 : Value} {st : List Value} {g : mG} {x : Nat} : WP m_X4_leaveOut Q 17 [.ref x, l1] st g = WP m_X4_leaveOut Q 18 [.ref x, l1] (.ref x :: st) g := E_al (i := 0) (n := 1) lo_X4_leaveOut rfl rfl
theorem e_X4_leaveOut_18 {Q : mQ} {ls st : List Value} {g : mG} : WP m_X4_leaveOut Q 18 ls st g = WP m_X4_leaveOut Q 19 ls (.int (nI 0) :: st) g := E_ic (v := nI 0) (n := 1) lo_X4_leaveOut rfl
theorem e_X4_leaveOut_19 {Q : mQ} {ls st : List Value} {g : mG} {a : Nat} {v : Int32} : WP m_X4_leaveOut Q 19 ls (.int v :: .ref a :: st) g = (gK g a = 5 ∧ WP m_X4_leaveOut Q 22 ls st (pI g a 1 v)) := E_pI lo_X4_leaveOut rfl
theorem e_X4_leaveOut_22 {Q : mQ} {ls : List Value} {g : mG} : WP m_X4_leaveOut Q 22 ls [] g = Q none g := E_ret lo_X4_leaveOut rfl
/-! KilnPermits$Permits.dropOldest(I)V -/
def m_X4_dropOldest : List (Nat × mT) := [(0, tD (f_il 1 1)),
  (1, tD (f_is 2 1)),
  (2, tD (f_ic (nI 0) 1)),
  (3, tD (f_is 3 1)),
  (4, tD (f_il 3 1)),
  (5, tD (f_al 0 1)),
  (6, tD (f_gI 5 1)),
  (9, tI2 (fun x y => y ≤ x) 50),
  (12, tD (f_il 2 1)),
  (13, tI1 (fun x => x ≤ 0) 50),
  (16, tD (f_il 2 1)),
  (17, tD (f_al 0 1)),
  (18, tD (f_gY)),
  (21, tD (f_il 3 1)),
  (22, tD (f_iald)),
  (23, tD (f_min)),
  (26, tD (f_is 4 2)),
  (28, tD (f_al 0 1)),
  (29, tD (f_gY)),
  (32, tD (f_il 3 1)),
  (33, tD (f_dup2)),
  (34, tD (f_iald)),
  (35, tD (f_il 4 2)),
  (37, tD (f_b2 fun x y => x - y)),
  (38, tD (f_iast)),
  (39, tD (f_il 2 1)),
  (40, tD (f_il 4 2)),
  (42, tD (f_b2 fun x y => x - y)),
  (43, tD (f_is 2 1)),
  (44, tD (f_inc 3 (nI 1))),
  (47, tD (f_goto 4)),
  (50, tD (f_al 0 1)),
  (51, tD (f_il 1 1)),
  (52, tD (f_il 2 1)),
  (53, tD (f_b2 fun x y => x - y)),
  (54, tC w_X4_leaveOut 5 2),
  (57, tR f_ret)]
abbrev w_X4_dropOldest : mS := wm m_X4_dropOldest 2 3
set_option maxRecDepth 100000 in
theorem lo_X4_dropOldest : locs_ok m_X4_dropOldest := List.forall_mem_cons.mpr ⟨loc_D mo_il,
  List.forall_mem_cons.mpr ⟨loc_D mo_is,
  List.forall_mem_cons.mpr ⟨loc_D mo_ic,
  List.forall_mem_cons.mpr ⟨loc_D mo_is,
  List.forall_mem_cons.mpr ⟨loc_D mo_il,
  List.forall_mem_cons.mpr ⟨loc_D mo_al,
  List.forall_mem_cons.mpr ⟨loc_D mo_gI,
  List.forall_mem_cons.mpr ⟨loc_I2,
  List.forall_mem_cons.mpr ⟨loc_D mo_il,
  List.forall_mem_cons.mpr ⟨loc_I1,
  List.forall_mem_cons.mpr ⟨loc_D mo_il,
  List.forall_mem_cons.mpr ⟨loc_D mo_al,
  List.forall_mem_cons.mpr ⟨loc_D mo_gY,
  List.forall_mem_cons.mpr ⟨loc_D mo_il,
  List.forall_mem_cons.mpr ⟨loc_D mo_iald,
  List.forall_mem_cons.mpr ⟨loc_D mo_min,
  List.forall_mem_cons.mpr ⟨loc_D mo_is,
  List.forall_mem_cons.mpr ⟨loc_D mo_al,
  List.forall_mem_cons.mpr ⟨loc_D mo_gY,
  List.forall_mem_cons.mpr ⟨loc_D mo_il,
  List.forall_mem_cons.mpr ⟨loc_D mo_dup2,
  List.forall_mem_cons.mpr ⟨loc_D mo_iald,
  List.forall_mem_cons.mpr ⟨loc_D mo_il,
  List.forall_mem_cons.mpr ⟨loc_D mo_b2,
  List.forall_mem_cons.mpr ⟨loc_D mo_iast,
  List.forall_mem_cons.mpr ⟨loc_D mo_il,
  List.forall_mem_cons.mpr ⟨loc_D mo_il,
  List.forall_mem_cons.mpr ⟨loc_D mo_b2,
  List.forall_mem_cons.mpr ⟨loc_D mo_is,
  List.forall_mem_cons.mpr ⟨loc_D mo_inc,
  List.forall_mem_cons.mpr ⟨loc_D mo_goto,
  List.forall_mem_cons.mpr ⟨loc_D mo_al,
  List.forall_mem_cons.mpr ⟨loc_D mo_il,
  List.forall_mem_cons.mpr ⟨loc_D mo_il,
  List.forall_mem_cons.mpr ⟨loc_D mo_b2,
  List.forall_mem_cons.mpr ⟨loc_C sm_X4_leaveOut.1,
  List.forall_mem_cons.mpr ⟨loc_R,
  fun _ h => absurd h List.not_mem_nil⟩⟩⟩⟩⟩⟩⟩⟩⟩⟩⟩⟩⟩⟩⟩⟩⟩⟩⟩⟩⟩⟩⟩⟩⟩⟩⟩⟩⟩⟩⟩⟩⟩⟩⟩⟩⟩
set_option maxRecDepth 100000 in
theorem sm_X4_dropOldest : SM yX4_dropOldest cX4_dropOldest 5 none 2 w_X4_dropOldest := SM_of' RX4 "dropOldest" rfl rfl (by decide) (by decide) (by decide) lo_X4_dropOldest (List.forall_mem_cons.mpr ⟨STP.r mo_il (q_iload_n dX4_dropOldest_0 rfl),
  List.forall_mem_cons.mpr ⟨STP.r mo_is (q_istore_n dX4_dropOldest_1 rfl),
  List.forall_mem_cons.mpr ⟨STP.r mo_ic (q_iconst dX4_dropOldest_2 (by decide)),
  List.forall_mem_cons.mpr ⟨STP.r mo_is (q_istore_n dX4_dropOldest_3 rfl),
  List.forall_mem_cons.mpr ⟨STP.r mo_il (q_iload_n dX4_dropOldest_4 rfl),
  List.forall_mem_cons.mpr ⟨STP.r mo_al (q_aload_n dX4_dropOldest_5 rfl),
  List.forall_mem_cons.mpr ⟨STP.r mo_gI (q_gI ⟨by decide, by decide⟩ (by decide) rfl kf_X4_15 dX4_dropOldest_6),
  List.forall_mem_cons.mpr ⟨(q_ic_ge dX4_dropOldest_9 (by decide)).r,
  List.forall_mem_cons.mpr ⟨STP.r mo_il (q_iload_n dX4_dropOldest_12 rfl),
  List.forall_mem_cons.mpr ⟨(q_if_le dX4_dropOldest_13 (by decide)).r,
  List.forall_mem_cons.mpr ⟨STP.r mo_il (q_iload_n dX4_dropOldest_16 rfl),
  List.forall_mem_cons.mpr ⟨STP.r mo_al (q_aload_n dX4_dropOldest_17 rfl),
  List.forall_mem_cons.mpr ⟨STP.r mo_gY (q_gY kf_X4_9 dX4_dropOldest_18),
  List.forall_mem_cons.mpr ⟨STP.r mo_il (q_iload_n dX4_dropOldest_21 rfl),
  List.forall_mem_cons.mpr ⟨STP.r mo_iald (q_iald dX4_dropOldest_22),
  List.forall_mem_cons.mpr ⟨STP.r mo_min (q_min km_X4_40 kz_mins kz_mi kz_minc dX4_dropOldest_23),
  List.forall_mem_cons.mpr ⟨STP.r mo_is (q_istore dX4_dropOldest_26),
  List.forall_mem_cons.mpr ⟨STP.r mo_al (q_aload_n dX4_dropOldest_28 rfl),
  List.forall_mem_cons.mpr ⟨STP.r mo_gY (q_gY kf_X4_9 dX4_dropOldest_29),
  List.forall_mem_cons.mpr ⟨STP.r mo_il (q_iload_n dX4_dropOldest_32 rfl),
  List.forall_mem_cons.mpr ⟨STP.r mo_dup2 (q_dup2 dX4_dropOldest_33),
  List.forall_mem_cons.mpr ⟨STP.r mo_iald (q_iald dX4_dropOldest_34),
  List.forall_mem_cons.mpr ⟨STP.r mo_il (q_iload dX4_dropOldest_35),
  List.forall_mem_cons.mpr ⟨STP.r mo_b2 (q_isub dX4_dropOldest_37),
  List.forall_mem_cons.mpr ⟨STP.r mo_iast (q_iast dX4_dropOldest_38),
  List.forall_mem_cons.mpr ⟨STP.r mo_il (q_iload_n dX4_dropOldest_39 rfl),
  List.forall_mem_cons.mpr ⟨STP.r mo_il (q_iload dX4_dropOldest_40),
  List.forall_mem_cons.mpr ⟨STP.r mo_b2 (q_isub dX4_dropOldest_42),
  List.forall_mem_cons.mpr ⟨STP.r mo_is (q_istore_n dX4_dropOldest_43 rfl),
  List.forall_mem_cons.mpr ⟨STP.r mo_inc (q_inc dX4_dropOldest_44 (by decide)),
  List.forall_mem_cons.mpr ⟨STP.r mo_goto (q_goto dX4_dropOldest_47 (by decide)),
  List.forall_mem_cons.mpr ⟨STP.r mo_al (q_aload_n dX4_dropOldest_50 rfl),
  List.forall_mem_cons.mpr ⟨STP.r mo_il (q_iload_n dX4_dropOldest_51 rfl),
  List.forall_mem_cons.mpr ⟨STP.r mo_il (q_iload_n dX4_dropOldest_52 rfl),
  List.forall_mem_cons.mpr ⟨STP.r mo_b2 (q_isub dX4_dropOldest_53),
  List.forall_mem_cons.mpr ⟨(snd_CV sm_X4_leaveOut ⟨by decide, by decide⟩ rfl km_X4_47 kt_X4_leaveOut kv_X4_leaveOut rfl ki_X4 kx_X4_leaveOut ⟨by decide, by decide, by decide +kernel⟩ (by decide) (by decide) dX4_dropOldest_54).r,
  List.forall_mem_cons.mpr ⟨r_ret dX4_dropOldest_57,
  fun _ h => absurd h List.not_mem_nil⟩⟩⟩⟩⟩⟩⟩⟩⟩⟩⟩⟩⟩⟩⟩⟩⟩⟩⟩⟩⟩⟩⟩⟩⟩⟩⟩⟩⟩⟩⟩⟩⟩⟩⟩⟩⟩)
theorem e_X4_dropOldest_0 {Q : mQ} {l0 l2 l3 l4 : Value} {st : List Value} {g : mG} {x : Int32} : WP m_X4_dropOldest Q 0 [l0, .int x, l2, l3, l4] st g = WP m_X4_dropOldest Q 1 [l0, .int x, l2, l3, l4] (.int x :: st) g := E_il (i := 1) (n := 1) lo_X4_dropOldest rfl rfl
theorem e_X4_dropOldest_1 {Q : mQ} {l0 l1 l2 l3 l4 : Value} {st : List Value} {g : mG} {x : Int32} : WP m_X4_dropOldest Q 1 [l0, l1, l2, l3, l4] (.int x :: st) g = (nl1 l1 ∧ WP m_X4_dropOldest Q 2 [l0, l1, .int x, l3, l4] st g) := E_is (i := 2) (n := 1) lo_X4_dropOldest rfl (Nat.le_of_ble_eq_true rfl)
theorem e_X4_dropOldest_2 {Q : mQ} {ls st : List Value} {g : mG} : WP m_X4_dropOldest Q 2 ls st g = WP m_X4_dropOldest Q 3 ls (.int (nI 0) :: st) g := E_ic (v := nI 0) (n := 1) lo_X4_dropOldest rfl
theorem e_X4_dropOldest_3 {Q : mQ} {l0 l1 l2 l3 l4 : Value} {st : List Value} {g : mG} {x : Int32} : WP m_X4_dropOldest Q 3 [l0, l1, l2, l3, l4] (.int x :: st) g = (nl1 l2 ∧ WP m_X4_dropOldest Q 4 [l0, l1, l2, .int x, l4] st g) := E_is (i := 3) (n := 1) lo_X4_dropOldest rfl (Nat.le_of_ble_eq_true rfl)
theorem e_X4_dropOldest_4 {Q : mQ} {l0 l1 l2 l4 : Value} {st : List Value} {g : mG} {x : Int32} : WP m_X4_dropOldest Q 4 [l0, l1, l2, .int x, l4] st g = WP m_X4_dropOldest Q 5 [l0, l1, l2, .int x, l4] (.int x :: st) g := E_il (i := 3) (n := 1) lo_X4_dropOldest rfl rfl
theorem e_X4_dropOldest_5 {Q : mQ} {l1 l2 l3 l4 : Value} {st : List Value} {g : mG} {x : Nat} : WP m_X4_dropOldest Q 5 [.ref x, l1, l2, l3, l4] st g = WP m_X4_dropOldest Q 6 [.ref x, l1, l2, l3, l4] (.ref x :: st) g := E_al (i := 0) (n := 1) lo_X4_dropOldest rfl rfl
theorem e_X4_dropOldest_6 {Q : mQ} {ls st : List Value} {g : mG} {a : Nat} : WP m_X4_dropOldest Q 6 ls (.ref a :: st) g = (gK g a = 5 ∧ WP m_X4_dropOldest Q 9 ls (.int (gI g a 1) :: st) g) := E_gI lo_X4_dropOldest rfl
theorem e_X4_dropOldest_9 {Q : mQ} {ls st : List Value} {g : mG} {x y : Int32} : WP m_X4_dropOldest Q 9 ls (.int y :: .int x :: st) g = ((y ≤ x → WP m_X4_dropOldest Q 50 ls st g) ∧ (¬ (y ≤ x) → WP m_X4_dropOldest Q 12 ls st g)) := E_I2 (c := fun x y => y ≤ x) (t := 50) lo_X4_dropOldest rfl
theorem e_X4_dropOldest_12 {Q : mQ} {l0 l1 l3 l4 : Value} {st : List Value} {g : mG} {x : Int32} : WP m_X4_dropOldest Q 12 [l0, l1, .int x, l3, l4] st g = WP m_X4_dropOldest Q 13 [l0, l1, .int x, l3, l4] (.int x :: st) g := E_il (i := 2) (n := 1) lo_X4_dropOldest rfl rfl
theorem e_X4_dropOldest_13 {Q : mQ} {ls st : List Value} {g : mG} {x : Int32} : WP m_X4_dropOldest Q 13 ls (.int x :: st) g = ((x ≤ 0 → WP m_X4_dropOldest Q 50 ls st g) ∧ (¬ (x ≤ 0) → WP m_X4_dropOldest Q 16 ls st g)) := E_I1 (c := fun x => x ≤ 0) (t := 50) lo_X4_dropOldest rfl
theorem e_X4_dropOldest_16 {Q : mQ} {l0 l1 l3 l4 : Value} {st : List Value} {g : mG} {x : Int32} : WP m_X4_dropOldest Q 16 [l0, l1, .int x, l3, l4] st g = WP m_X4_dropOldest Q 17 [l0, l1, .int x, l3, l4] (.int x :: st) g := E_il (i := 2) (n := 1) lo_X4_dropOldest rfl rfl
theorem e_X4_dropOldest_17 {Q : mQ} {l1 l2 l3 l4 : Value} {st : List Value} {g : mG} {x : Nat} : WP m_X4_dropOldest Q 17 [.ref x, l1, l2, l3, l4] st g = WP m_X4_dropOldest Q 18 [.ref x, l1, l2, l3, l4] (.ref x :: st) g := E_al (i := 0) (n := 1) lo_X4_dropOldest rfl rfl
theorem e_X4_dropOldest_18 {Q : mQ} {ls st : List Value} {g : mG} {a : Nat} : WP m_X4_dropOldest Q 18 ls (.ref a :: st) g = ((gK g a = 5 ∧ gK g (a + 1) = 12) ∧ WP m_X4_dropOldest Q 21 ls (.ref (a + 1) :: st) g) := E_gY lo_X4_dropOldest rfl
theorem e_X4_dropOldest_21 {Q : mQ} {l0 l1 l2 l4 : Value} {st : List Value} {g : mG} {x : Int32} : WP m_X4_dropOldest Q 21 [l0, l1, l2, .int x, l4] st g = WP m_X4_dropOldest Q 22 [l0, l1, l2, .int x, l4] (.int x :: st) g := E_il (i := 3) (n := 1) lo_X4_dropOldest rfl rfl
theorem e_X4_dropOldest_22 {Q : mQ} {ls st : List Value} {g : mG} {a : Nat} {i : Int32} : WP m_X4_dropOldest Q 22 ls (.int i :: .ref a :: st) g = ((isIA g a ∧ vp_in i (gN g a)) ∧ WP m_X4_dropOldest Q 23 ls (.int (gI g a i.toNatClampNeg) :: st) g) := E_iald lo_X4_dropOldest rfl
theorem e_X4_dropOldest_23 {Q : mQ} {ls st : List Value} {g : mG} {x y : Int32} : WP m_X4_dropOldest Q 23 ls (.int y :: .int x :: st) g = (st.length ≤ 4 ∧ WP m_X4_dropOldest Q 26 ls (.int (if y < x then y else x) :: st) g) := E_min lo_X4_dropOldest rfl
theorem e_X4_dropOldest_26 {Q : mQ} {l0 l1 l2 l3 l4 : Value} {st : List Value} {g : mG} {x : Int32} : WP m_X4_dropOldest Q 26 [l0, l1, l2, l3, l4] (.int x :: st) g = (nl1 l3 ∧ WP m_X4_dropOldest Q 28 [l0, l1, l2, l3, .int x] st g) := E_is (i := 4) (n := 2) lo_X4_dropOldest rfl (Nat.le_of_ble_eq_true rfl)
theorem e_X4_dropOldest_28 {Q : mQ} {l1 l2 l3 l4 : Value} {st : List Value} {g : mG} {x : Nat} : WP m_X4_dropOldest Q 28 [.ref x, l1, l2, l3, l4] st g = WP m_X4_dropOldest Q 29 [.ref x, l1, l2, l3, l4] (.ref x :: st) g := E_al (i := 0) (n := 1) lo_X4_dropOldest rfl rfl
theorem e_X4_dropOldest_29 {Q : mQ} {ls st : List Value} {g : mG} {a : Nat} : WP m_X4_dropOldest Q 29 ls (.ref a :: st) g = ((gK g a = 5 ∧ gK g (a + 1) = 12) ∧ WP m_X4_dropOldest Q 32 ls (.ref (a + 1) :: st) g) := E_gY lo_X4_dropOldest rfl
theorem e_X4_dropOldest_32 {Q : mQ} {l0 l1 l2 l4 : Value} {st : List Value} {g : mG} {x : Int32} : WP m_X4_dropOldest Q 32 [l0, l1, l2, .int x, l4] st g = WP m_X4_dropOldest Q 33 [l0, l1, l2, .int x, l4] (.int x :: st) g := E_il (i := 3) (n := 1) lo_X4_dropOldest rfl rfl
theorem e_X4_dropOldest_33 {Q : mQ} {ls st : List Value} {g : mG} {x y : Value} : WP m_X4_dropOldest Q 33 ls (y :: x :: st) g = ((cat1 x ∧ cat1 y) ∧ WP m_X4_dropOldest Q 34 ls (y :: x :: y :: x :: st) g) := E_dup2 lo_X4_dropOldest rfl
theorem e_X4_dropOldest_34 {Q : mQ} {ls st : List Value} {g : mG} {a : Nat} {i : Int32} : WP m_X4_dropOldest Q 34 ls (.int i :: .ref a :: st) g = ((isIA g a ∧ vp_in i (gN g a)) ∧ WP m_X4_dropOldest Q 35 ls (.int (gI g a i.toNatClampNeg) :: st) g) := E_iald lo_X4_dropOldest rfl
theorem e_X4_dropOldest_35 {Q : mQ} {l0 l1 l2 l3 : Value} {st : List Value} {g : mG} {x : Int32} : WP m_X4_dropOldest Q 35 [l0, l1, l2, l3, .int x] st g = WP m_X4_dropOldest Q 37 [l0, l1, l2, l3, .int x] (.int x :: st) g := E_il (i := 4) (n := 2) lo_X4_dropOldest rfl rfl
theorem e_X4_dropOldest_37 {Q : mQ} {ls st : List Value} {g : mG} {x y : Int32} : WP m_X4_dropOldest Q 37 ls (.int y :: .int x :: st) g = WP m_X4_dropOldest Q 38 ls (.int (x - y) :: st) g := E_b2 (f := fun x y => x - y) lo_X4_dropOldest rfl
theorem e_X4_dropOldest_38 {Q : mQ} {ls st : List Value} {g : mG} {a : Nat} {i v : Int32} : WP m_X4_dropOldest Q 38 ls (.int v :: .int i :: .ref a :: st) g = (((gK g a = 11 ∨ gK g a = 12) ∧ vp_in i (gN g a)) ∧ WP m_X4_dropOldest Q 39 ls st (pI g a i.toNatClampNeg v)) := E_iast lo_X4_dropOldest rfl
theorem e_X4_dropOldest_39 {Q : mQ} {l0 l1 l3 l4 : Value} {st : List Value} {g : mG} {x : Int32} : WP m_X4_dropOldest Q 39 [l0, l1, .int x, l3, l4] st g = WP m_X4_dropOldest Q 40 [l0, l1, .int x, l3, l4] (.int x :: st) g := E_il (i := 2) (n := 1) lo_X4_dropOldest rfl rfl
theorem e_X4_dropOldest_40 {Q : mQ} {l0 l1 l2 l3 : Value} {st : List Value} {g : mG} {x : Int32} : WP m_X4_dropOldest Q 40 [l0, l1, l2, l3, .int x] st g = WP m_X4_dropOldest Q 42 [l0, l1, l2, l3, .int x] (.int x :: st) g := E_il (i := 4) (n := 2) lo_X4_dropOldest rfl rfl
theorem e_X4_dropOldest_42 {Q : mQ} {ls st : List Value} {g : mG} {x y : Int32} : WP m_X4_dropOldest Q 42 ls (.int y :: .int x :: st) g = WP m_X4_dropOldest Q 43 ls (.int (x - y) :: st) g := E_b2 (f := fun x y => x - y) lo_X4_dropOldest rfl
theorem e_X4_dropOldest_43 {Q : mQ} {l0 l1 l2 l3 l4 : Value} {st : List Value} {g : mG} {x : Int32} : WP m_X4_dropOldest Q 43 [l0, l1, l2, l3, l4] (.int x :: st) g = (nl1 l1 ∧ WP m_X4_dropOldest Q 44 [l0, l1, .int x, l3, l4] st g) := E_is (i := 2) (n := 1) lo_X4_dropOldest rfl (Nat.le_of_ble_eq_true rfl)
theorem e_X4_dropOldest_44 {Q : mQ} {l0 l1 l2 l4 : Value} {st : List Value} {g : mG} {x : Int32} : WP m_X4_dropOldest Q 44 [l0, l1, l2, .int x, l4] st g = (nl1 l2 ∧ WP m_X4_dropOldest Q 47 [l0, l1, l2, .int (x + nI 1), l4] st g) := E_inc (i := 3) (d := nI 1) lo_X4_dropOldest rfl rfl
theorem e_X4_dropOldest_47 {Q : mQ} {ls st : List Value} {g : mG} : WP m_X4_dropOldest Q 47 ls st g = WP m_X4_dropOldest Q 4 ls st g := E_goto lo_X4_dropOldest rfl
theorem e_X4_dropOldest_50 {Q : mQ} {l1 l2 l3 l4 : Value} {st : List Value} {g : mG} {x : Nat} : WP m_X4_dropOldest Q 50 [.ref x, l1, l2, l3, l4] st g = WP m_X4_dropOldest Q 51 [.ref x, l1, l2, l3, l4] (.ref x :: st) g := E_al (i := 0) (n := 1) lo_X4_dropOldest rfl rfl
theorem e_X4_dropOldest_51 {Q : mQ} {l0 l2 l3 l4 : Value} {st : List Value} {g : mG} {x : Int32} : WP m_X4_dropOldest Q 51 [l0, .int x, l2, l3, l4] st g = WP m_X4_dropOldest Q 52 [l0, .int x, l2, l3, l4] (.int x :: st) g := E_il (i := 1) (n := 1) lo_X4_dropOldest rfl rfl
theorem e_X4_dropOldest_52 {Q : mQ} {l0 l1 l3 l4 : Value} {st : List Value} {g : mG} {x : Int32} : WP m_X4_dropOldest Q 52 [l0, l1, .int x, l3, l4] st g = WP m_X4_dropOldest Q 53 [l0, l1, .int x, l3, l4] (.int x :: st) g := E_il (i := 2) (n := 1) lo_X4_dropOldest rfl rfl
theorem e_X4_dropOldest_53 {Q : mQ} {ls st : List Value} {g : mG} {x y : Int32} : WP m_X4_dropOldest Q 53 ls (.int y :: .int x :: st) g = WP m_X4_dropOldest Q 54 ls (.int (x - y) :: st) g := E_b2 (f := fun x y => x - y) lo_X4_dropOldest rfl
theorem e_X4_dropOldest_54 {Q : mQ} {ls st : List Value} {g : mG} {b : Nat} {a0 : Value} : WP m_X4_dropOldest Q 54 ls (a0 :: .ref b :: st) g = (st.length ≤ 4 ∧ gK g b = 5 ∧ stbs g ls ∧ stbs g st ∧ w_X4_leaveOut [.ref b, a0] g (fun v g' => WP m_X4_dropOldest Q 57 ls (v.toList ++ st) g')) := E_CV (ar := [a0, .ref b]) lo_X4_dropOldest rfl rfl rfl (by decide)
theorem e_X4_dropOldest_57 {Q : mQ} {ls : List Value} {g : mG} : WP m_X4_dropOldest Q 57 ls [] g = Q none g := E_ret lo_X4_dropOldest rfl
/-! KilnPermits$Permits.add(II)V -/
def m_X4_add : List (Nat × mT) := [(0, tD (f_il 2 1)),
  (1, tI1 (fun x => x ≤ 0) 15),
  (4, tD (f_il 1 1)),
  (5, tI1 (fun x => x < 0) 15),
  (8, tD (f_il 1 1)),
  (9, tD (f_ic (nI 999) 3)),
  (12, tI2 (fun x y => x ≤ y) 16),
  (15, tR f_ret),
  (16, tD (f_il 1 1)),
  (17, tD (f_al 0 1)),
  (18, tD (f_gY)),
  (21, tD (f_alen)),
  (22, tI2 (fun x y => x < y) 49),
  (25, tD (f_al 0 1)),
  (26, tD (f_al 0 1)),
  (27, tD (f_gY)),
  (30, tD (f_il 1 1)),
  (31, tD (f_ic (nI 1) 1)),
  (32, tD (f_b2 fun x y => x + y)),
  (33, tD (f_ic (nI 2) 1)),
  (34, tD (f_al 0 1)),
  (35, tD (f_gY)),
  (38, tD (f_alen)),
  (39, tD (f_b2 fun x y => x * y)),
  (40, tD (f_max)),
  (43, tC w_J7_copyOf_59c91 0 2),
  (46, tD (f_pY)),
  (49, tD (f_al 0 1)),
  (50, tD (f_gI 5 1)),
  (53, tD (f_il 1 1)),
  (54, tI2 (fun x y => y < x) 80),
  (57, tD (f_al 0 1)),
  (58, tD (f_gY)),
  (61, tD (f_al 0 1)),
  (62, tD (f_gI 5 1)),
  (65, tD (f_ic (nI 0) 1)),
  (66, tD (f_iast)),
  (67, tD (f_al 0 1)),
  (68, tD (f_dup)),
  (69, tD (f_gI 5 1)),
  (72, tD (f_ic (nI 1) 1)),
  (73, tD (f_b2 fun x y => x + y)),
  (74, tD (f_pI 5 1)),
  (77, tD (f_goto 49)),
  (80, tD (f_al 0 1)),
  (81, tD (f_gY)),
  (84, tD (f_il 1 1)),
  (85, tD (f_dup2)),
  (86, tD (f_iald)),
  (87, tD (f_il 2 1)),
  (88, tD (f_b2 fun x y => x + y)),
  (89, tD (f_iast)),
  (90, tD (f_al 0 1)),
  (91, tD (f_dup)),
  (92, tD (f_gI 5 2)),
  (95, tD (f_il 2 1)),
  (96, tD (f_b2 fun x y => x + y)),
  (97, tD (f_pI 5 2)),
  (100, tR f_ret)]
abbrev w_X4_add : mS := wm m_X4_add 3 0
set_option maxRecDepth 100000 in
theorem lo_X4_add : locs_ok m_X4_add := List.forall_mem_cons.mpr ⟨loc_D mo_il,
  List.forall_mem_cons.mpr ⟨loc_I1,
  List.forall_mem_cons.mpr ⟨loc_D mo_il,
  List.forall_mem_cons.mpr ⟨loc_I1,
  List.forall_mem_cons.mpr ⟨loc_D mo_il,
  List.forall_mem_cons.mpr ⟨loc_D mo_ic,
  List.forall_mem_cons.mpr ⟨loc_I2,
  List.forall_mem_cons.mpr ⟨loc_R,
  List.forall_mem_cons.mpr ⟨loc_D mo_il,
  List.forall_mem_cons.mpr ⟨loc_D mo_al,
  List.forall_mem_cons.mpr ⟨loc_D mo_gY,
  List.forall_mem_cons.mpr ⟨loc_D mo_alen,
  List.forall_mem_cons.mpr ⟨loc_I2,
  List.forall_mem_cons.mpr ⟨loc_D mo_al,
  List.forall_mem_cons.mpr ⟨loc_D mo_al,
  List.forall_mem_cons.mpr ⟨loc_D mo_gY,
  List.forall_mem_cons.mpr ⟨loc_D mo_il,
  List.forall_mem_cons.mpr ⟨loc_D mo_ic,
  List.forall_mem_cons.mpr ⟨loc_D mo_b2,
  List.forall_mem_cons.mpr ⟨loc_D mo_ic,
  List.forall_mem_cons.mpr ⟨loc_D mo_al,
  List.forall_mem_cons.mpr ⟨loc_D mo_gY,
  List.forall_mem_cons.mpr ⟨loc_D mo_alen,
  List.forall_mem_cons.mpr ⟨loc_D mo_b2,
  List.forall_mem_cons.mpr ⟨loc_D mo_max,
  List.forall_mem_cons.mpr ⟨loc_C sm_J7_copyOf_59c91.1,
  List.forall_mem_cons.mpr ⟨loc_D mo_pY,
  List.forall_mem_cons.mpr ⟨loc_D mo_al,
  List.forall_mem_cons.mpr ⟨loc_D mo_gI,
  List.forall_mem_cons.mpr ⟨loc_D mo_il,
  List.forall_mem_cons.mpr ⟨loc_I2,
  List.forall_mem_cons.mpr ⟨loc_D mo_al,
  List.forall_mem_cons.mpr ⟨loc_D mo_gY,
  List.forall_mem_cons.mpr ⟨loc_D mo_al,
  List.forall_mem_cons.mpr ⟨loc_D mo_gI,
  List.forall_mem_cons.mpr ⟨loc_D mo_ic,
  List.forall_mem_cons.mpr ⟨loc_D mo_iast,
  List.forall_mem_cons.mpr ⟨loc_D mo_al,
  List.forall_mem_cons.mpr ⟨loc_D mo_dup,
  List.forall_mem_cons.mpr ⟨loc_D mo_gI,
  List.forall_mem_cons.mpr ⟨loc_D mo_ic,
  List.forall_mem_cons.mpr ⟨loc_D mo_b2,
  List.forall_mem_cons.mpr ⟨loc_D mo_pI,
  List.forall_mem_cons.mpr ⟨loc_D mo_goto,
  List.forall_mem_cons.mpr ⟨loc_D mo_al,
  List.forall_mem_cons.mpr ⟨loc_D mo_gY,
  List.forall_mem_cons.mpr ⟨loc_D mo_il,
  List.forall_mem_cons.mpr ⟨loc_D mo_dup2,
  List.forall_mem_cons.mpr ⟨loc_D mo_iald,
  List.forall_mem_cons.mpr ⟨loc_D mo_il,
  List.forall_mem_cons.mpr ⟨loc_D mo_b2,
  List.forall_mem_cons.mpr ⟨loc_D mo_iast,
  List.forall_mem_cons.mpr ⟨loc_D mo_al,
  List.forall_mem_cons.mpr ⟨loc_D mo_dup,
  List.forall_mem_cons.mpr ⟨loc_D mo_gI,
  List.forall_mem_cons.mpr ⟨loc_D mo_il,
  List.forall_mem_cons.mpr ⟨loc_D mo_b2,
  List.forall_mem_cons.mpr ⟨loc_D mo_pI,
  List.forall_mem_cons.mpr ⟨loc_R,
  fun _ h => absurd h List.not_mem_nil⟩⟩⟩⟩⟩⟩⟩⟩⟩⟩⟩⟩⟩⟩⟩⟩⟩⟩⟩⟩⟩⟩⟩⟩⟩⟩⟩⟩⟩⟩⟩⟩⟩⟩⟩⟩⟩⟩⟩⟩⟩⟩⟩⟩⟩⟩⟩⟩⟩⟩⟩⟩⟩⟩⟩⟩⟩⟩⟩
set_option maxRecDepth 100000 in
theorem sm_X4_add : SM yX4_add cX4_add 3 none 2 w_X4_add := SM_of' RX4 "add" rfl rfl (by decide) (by decide) (by decide) lo_X4_add (List.forall_mem_cons.mpr ⟨STP.r mo_il (q_iload_n dX4_add_0 rfl),
  List.forall_mem_cons.mpr ⟨(q_if_le dX4_add_1 (by decide)).r,
  List.forall_mem_cons.mpr ⟨STP.r mo_il (q_iload_n dX4_add_4 rfl),
  List.forall_mem_cons.mpr ⟨(q_if_lt dX4_add_5 (by decide)).r,
  List.forall_mem_cons.mpr ⟨STP.r mo_il (q_iload_n dX4_add_8 rfl),
  List.forall_mem_cons.mpr ⟨STP.r mo_ic (q_sipush dX4_add_9 (by decide)),
  List.forall_mem_cons.mpr ⟨(q_ic_le dX4_add_12 (by decide)).r,
  List.forall_mem_cons.mpr ⟨r_ret dX4_add_15,
  List.forall_mem_cons.mpr ⟨STP.r mo_il (q_iload_n dX4_add_16 rfl),
  List.forall_mem_cons.mpr ⟨STP.r mo_al (q_aload_n dX4_add_17 rfl),
  List.forall_mem_cons.mpr ⟨STP.r mo_gY (q_gY kf_X4_9 dX4_add_18),
  List.forall_mem_cons.mpr ⟨STP.r mo_alen (q_alen dX4_add_21),
  List.forall_mem_cons.mpr ⟨(q_ic_lt dX4_add_22 (by decide)).r,
  List.forall_mem_cons.mpr ⟨STP.r mo_al (q_aload_n dX4_add_25 rfl),
  List.forall_mem_cons.mpr ⟨STP.r mo_al (q_aload_n dX4_add_26 rfl),
  List.forall_mem_cons.mpr ⟨STP.r mo_gY (q_gY kf_X4_9 dX4_add_27),
  List.forall_mem_cons.mpr ⟨STP.r mo_il (q_iload_n dX4_add_30 rfl),
  List.forall_mem_cons.mpr ⟨STP.r mo_ic (q_iconst dX4_add_31 (by decide)),
  List.forall_mem_cons.mpr ⟨STP.r mo_b2 (q_iadd dX4_add_32),
  List.forall_mem_cons.mpr ⟨STP.r mo_ic (q_iconst dX4_add_33 (by decide)),
  List.forall_mem_cons.mpr ⟨STP.r mo_al (q_aload_n dX4_add_34 rfl),
  List.forall_mem_cons.mpr ⟨STP.r mo_gY (q_gY kf_X4_9 dX4_add_35),
  List.forall_mem_cons.mpr ⟨STP.r mo_alen (q_alen dX4_add_38),
  List.forall_mem_cons.mpr ⟨STP.r mo_b2 (q_imul dX4_add_39),
  List.forall_mem_cons.mpr ⟨STP.r mo_max (q_max km_X4_28 kz_maxs kz_mi kz_maxc dX4_add_40),
  List.forall_mem_cons.mpr ⟨(snd_CS sm_J7_copyOf_59c91 km_X4_34 ks_J7_copyOf_59c91 ki_J7 kx_J7_copyOf_59c91 ⟨by decide, by decide, by decide +kernel⟩ (by decide) (by decide) dX4_add_43).r,
  List.forall_mem_cons.mpr ⟨STP.r mo_pY (q_pY kf_X4_9 dX4_add_46),
  List.forall_mem_cons.mpr ⟨STP.r mo_al (q_aload_n dX4_add_49 rfl),
  List.forall_mem_cons.mpr ⟨STP.r mo_gI (q_gI ⟨by decide, by decide⟩ (by decide) rfl kf_X4_15 dX4_add_50),
  List.forall_mem_cons.mpr ⟨STP.r mo_il (q_iload_n dX4_add_53 rfl),
  List.forall_mem_cons.mpr ⟨(q_ic_gt dX4_add_54 (by decide)).r,
  List.forall_mem_cons.mpr ⟨STP.r mo_al (q_aload_n dX4_add_57 rfl),
  List.forall_mem_cons.mpr ⟨STP.r mo_gY (q_gY kf_X4_9 dX4_add_58),
  List.forall_mem_cons.mpr ⟨STP.r mo_al (q_aload_n dX4_add_61 rfl),
  List.forall_mem_cons.mpr ⟨STP.r mo_gI (q_gI ⟨by decide, by decide⟩ (by decide) rfl kf_X4_15 dX4_add_62),
  List.forall_mem_cons.mpr ⟨STP.r mo_ic (q_iconst dX4_add_65 (by decide)),
  List.forall_mem_cons.mpr ⟨STP.r mo_iast (q_iast dX4_add_66),
  List.forall_mem_cons.mpr ⟨STP.r mo_al (q_aload_n dX4_add_67 rfl),
  List.forall_mem_cons.mpr ⟨STP.r mo_dup (q_dup dX4_add_68),
  List.forall_mem_cons.mpr ⟨STP.r mo_gI (q_gI ⟨by decide, by decide⟩ (by decide) rfl kf_X4_15 dX4_add_69),
  List.forall_mem_cons.mpr ⟨STP.r mo_ic (q_iconst dX4_add_72 (by decide)),
  List.forall_mem_cons.mpr ⟨STP.r mo_b2 (q_iadd dX4_add_73),
  List.forall_mem_cons.mpr ⟨STP.r mo_pI (q_pI ⟨by decide, by decide⟩ (by decide) rfl rfl kf_X4_15 dX4_add_74),
  List.forall_mem_cons.mpr ⟨STP.r mo_goto (q_goto dX4_add_77 (by decide)),
  List.forall_mem_cons.mpr ⟨STP.r mo_al (q_aload_n dX4_add_80 rfl),
  List.forall_mem_cons.mpr ⟨STP.r mo_gY (q_gY kf_X4_9 dX4_add_81),
  List.forall_mem_cons.mpr ⟨STP.r mo_il (q_iload_n dX4_add_84 rfl),
  List.forall_mem_cons.mpr ⟨STP.r mo_dup2 (q_dup2 dX4_add_85),
  List.forall_mem_cons.mpr ⟨STP.r mo_iald (q_iald dX4_add_86),
  List.forall_mem_cons.mpr ⟨STP.r mo_il (q_iload_n dX4_add_87 rfl),
  List.forall_mem_cons.mpr ⟨STP.r mo_b2 (q_iadd dX4_add_88),
  List.forall_mem_cons.mpr ⟨STP.r mo_iast (q_iast dX4_add_89),
  List.forall_mem_cons.mpr ⟨STP.r mo_al (q_aload_n dX4_add_90 rfl),
  List.forall_mem_cons.mpr ⟨STP.r mo_dup (q_dup dX4_add_91),
  List.forall_mem_cons.mpr ⟨STP.r mo_gI (q_gI ⟨by decide, by decide⟩ (by decide) rfl kf_X4_25 dX4_add_92),
  List.forall_mem_cons.mpr ⟨STP.r mo_il (q_iload_n dX4_add_95 rfl),
  List.forall_mem_cons.mpr ⟨STP.r mo_b2 (q_iadd dX4_add_96),
  List.forall_mem_cons.mpr ⟨STP.r mo_pI (q_pI ⟨by decide, by decide⟩ (by decide) rfl rfl kf_X4_25 dX4_add_97),
  List.forall_mem_cons.mpr ⟨r_ret dX4_add_100,
  fun _ h => absurd h List.not_mem_nil⟩⟩⟩⟩⟩⟩⟩⟩⟩⟩⟩⟩⟩⟩⟩⟩⟩⟩⟩⟩⟩⟩⟩⟩⟩⟩⟩⟩⟩⟩⟩⟩⟩⟩⟩⟩⟩⟩⟩⟩⟩⟩⟩⟩⟩⟩⟩⟩⟩⟩⟩⟩⟩⟩⟩⟩⟩⟩⟩)
theorem e_X4_add_0 {Q : mQ} {l0 l1 : Value} {st : List Value} {g : mG} {x : Int32} : WP m_X4_add Q 0 [l0, l1, .int x] st g = WP m_X4_add Q 1 [l0, l1, .int x] (.int x :: st) g := E_il (i := 2) (n := 1) lo_X4_add rfl rfl
theorem e_X4_add_1 {Q : mQ} {ls st : List Value} {g : mG} {x : Int32} : WP m_X4_add Q 1 ls (.int x :: st) g = ((x ≤ 0 → WP m_X4_add Q 15 ls st g) ∧ (¬ (x ≤ 0) → WP m_X4_add Q 4 ls st g)) := E_I1 (c := fun x => x ≤ 0) (t := 15) lo_X4_add rfl
theorem e_X4_add_4 {Q : mQ} {l0 l2 : Value} {st : List Value} {g : mG} {x : Int32} : WP m_X4_add Q 4 [l0, .int x, l2] st g = WP m_X4_add Q 5 [l0, .int x, l2] (.int x :: st) g := E_il (i := 1) (n := 1) lo_X4_add rfl rfl
theorem e_X4_add_5 {Q : mQ} {ls st : List Value} {g : mG} {x : Int32} : WP m_X4_add Q 5 ls (.int x :: st) g = ((x < 0 → WP m_X4_add Q 15 ls st g) ∧ (¬ (x < 0) → WP m_X4_add Q 8 ls st g)) := E_I1 (c := fun x => x < 0) (t := 15) lo_X4_add rfl
theorem e_X4_add_8 {Q : mQ} {l0 l2 : Value} {st : List Value} {g : mG} {x : Int32} : WP m_X4_add Q 8 [l0, .int x, l2] st g = WP m_X4_add Q 9 [l0, .int x, l2] (.int x :: st) g := E_il (i := 1) (n := 1) lo_X4_add rfl rfl
theorem e_X4_add_9 {Q : mQ} {ls st : List Value} {g : mG} : WP m_X4_add Q 9 ls st g = WP m_X4_add Q 12 ls (.int (nI 999) :: st) g := E_ic (v := nI 999) (n := 3) lo_X4_add rfl
theorem e_X4_add_12 {Q : mQ} {ls st : List Value} {g : mG} {x y : Int32} : WP m_X4_add Q 12 ls (.int y :: .int x :: st) g = ((x ≤ y → WP m_X4_add Q 16 ls st g) ∧ (¬ (x ≤ y) → WP m_X4_add Q 15 ls st g)) := E_I2 (c := fun x y => x ≤ y) (t := 16) lo_X4_add rfl
theorem e_X4_add_15 {Q : mQ} {ls : List Value} {g : mG} : WP m_X4_add Q 15 ls [] g = Q none g := E_ret lo_X4_add rfl
theorem e_X4_add_16 {Q : mQ} {l0 l2 : Value} {st : List Value} {g : mG} {x : Int32} : WP m_X4_add Q 16 [l0, .int x, l2] st g = WP m_X4_add Q 17 [l0, .int x, l2] (.int x :: st) g := E_il (i := 1) (n := 1) lo_X4_add rfl rfl
theorem e_X4_add_17 {Q : mQ} {l1 l2 : Value} {st : List Value} {g : mG} {x : Nat} : WP m_X4_add Q 17 [.ref x, l1, l2] st g = WP m_X4_add Q 18 [.ref x, l1, l2] (.ref x :: st) g := E_al (i := 0) (n := 1) lo_X4_add rfl rfl
theorem e_X4_add_18 {Q : mQ} {ls st : List Value} {g : mG} {a : Nat} : WP m_X4_add Q 18 ls (.ref a :: st) g = ((gK g a = 5 ∧ gK g (a + 1) = 12) ∧ WP m_X4_add Q 21 ls (.ref (a + 1) :: st) g) := E_gY lo_X4_add rfl
theorem e_X4_add_21 {Q : mQ} {ls st : List Value} {g : mG} {a : Nat} : WP m_X4_add Q 21 ls (.ref a :: st) g = ((10 ≤ gK g a ∧ gK g a ≤ 17) ∧ WP m_X4_add Q 22 ls (.int (nI (gN g a)) :: st) g) := E_alen lo_X4_add rfl
theorem e_X4_add_22 {Q : mQ} {ls st : List Value} {g : mG} {x y : Int32} : WP m_X4_add Q 22 ls (.int y :: .int x :: st) g = ((x < y → WP m_X4_add Q 49 ls st g) ∧ (¬ (x < y) → WP m_X4_add Q 25 ls st g)) := E_I2 (c := fun x y => x < y) (t := 49) lo_X4_add rfl
theorem e_X4_add_25 {Q : mQ} {l1 l2 : Value} {st : List Value} {g : mG} {x : Nat} : WP m_X4_add Q 25 [.ref x, l1, l2] st g = WP m_X4_add Q 26 [.ref x, l1, l2] (.ref x :: st) g := E_al (i := 0) (n := 1) lo_X4_add rfl rfl
theorem e_X4_add_26 {Q : mQ} {l1 l2 : Value} {st : List Value} {g : mG} {x : Nat} : WP m_X4_add Q 26 [.ref x, l1, l2] st g = WP m_X4_add Q 27 [.ref x, l1, l2] (.ref x :: st) g := E_al (i := 0) (n := 1) lo_X4_add rfl rfl
theorem e_X4_add_27 {Q : mQ} {ls st : List Value} {g : mG} {a : Nat} : WP m_X4_add Q 27 ls (.ref a :: st) g = ((gK g a = 5 ∧ gK g (a + 1) = 12) ∧ WP m_X4_add Q 30 ls (.ref (a + 1) :: st) g) := E_gY lo_X4_add rfl
theorem e_X4_add_30 {Q : mQ} {l0 l2 : Value} {st : List Value} {g : mG} {x : Int32} : WP m_X4_add Q 30 [l0, .int x, l2] st g = WP m_X4_add Q 31 [l0, .int x, l2] (.int x :: st) g := E_il (i := 1) (n := 1) lo_X4_add rfl rfl
theorem e_X4_add_31 {Q : mQ} {ls st : List Value} {g : mG} : WP m_X4_add Q 31 ls st g = WP m_X4_add Q 32 ls (.int (nI 1) :: st) g := E_ic (v := nI 1) (n := 1) lo_X4_add rfl
theorem e_X4_add_32 {Q : mQ} {ls st : List Value} {g : mG} {x y : Int32} : WP m_X4_add Q 32 ls (.int y :: .int x :: st) g = WP m_X4_add Q 33 ls (.int (x + y) :: st) g := E_b2 (f := fun x y => x + y) lo_X4_add rfl
theorem e_X4_add_33 {Q : mQ} {ls st : List Value} {g : mG} : WP m_X4_add Q 33 ls st g = WP m_X4_add Q 34 ls (.int (nI 2) :: st) g := E_ic (v := nI 2) (n := 1) lo_X4_add rfl
theorem e_X4_add_34 {Q : mQ} {l1 l2 : Value} {st : List Value} {g : mG} {x : Nat} : WP m_X4_add Q 34 [.ref x, l1, l2] st g = WP m_X4_add Q 35 [.ref x, l1, l2] (.ref x :: st) g := E_al (i := 0) (n := 1) lo_X4_add rfl rfl
theorem e_X4_add_35 {Q : mQ} {ls st : List Value} {g : mG} {a : Nat} : WP m_X4_add Q 35 ls (.ref a :: st) g = ((gK g a = 5 ∧ gK g (a + 1) = 12) ∧ WP m_X4_add Q 38 ls (.ref (a + 1) :: st) g) := E_gY lo_X4_add rfl
theorem e_X4_add_38 {Q : mQ} {ls st : List Value} {g : mG} {a : Nat} : WP m_X4_add Q 38 ls (.ref a :: st) g = ((10 ≤ gK g a ∧ gK g a ≤ 17) ∧ WP m_X4_add Q 39 ls (.int (nI (gN g a)) :: st) g) := E_alen lo_X4_add rfl
theorem e_X4_add_39 {Q : mQ} {ls st : List Value} {g : mG} {x y : Int32} : WP m_X4_add Q 39 ls (.int y :: .int x :: st) g = WP m_X4_add Q 40 ls (.int (x * y) :: st) g := E_b2 (f := fun x y => x * y) lo_X4_add rfl
theorem e_X4_add_40 {Q : mQ} {ls st : List Value} {g : mG} {x y : Int32} : WP m_X4_add Q 40 ls (.int y :: .int x :: st) g = (st.length ≤ 4 ∧ WP m_X4_add Q 43 ls (.int (if x < y then y else x) :: st) g) := E_max lo_X4_add rfl
theorem e_X4_add_43 {Q : mQ} {ls st : List Value} {g : mG} {a0 a1 : Value} : WP m_X4_add Q 43 ls (a1 :: a0 :: st) g = (st.length ≤ 4 ∧ stbs g ls ∧ stbs g st ∧ w_J7_copyOf_59c91 [a0, a1] g (fun v g' => WP m_X4_add Q 46 ls (v.toList ++ st) g')) := E_CS (ar := [a1, a0]) lo_X4_add rfl rfl rfl
theorem e_X4_add_46 {Q : mQ} {ls st : List Value} {g : mG} {a q : Nat} : WP m_X4_add Q 46 ls (.ref q :: .ref a :: st) g = ((gK g a = 5 ∧ gK g q = 12 ∧ q ≠ a + 1 ∧ (gK g (a + 1) = 0 ∨ gK g (a + 1) = 12) ∧ gK g (q - 1) ≠ 5 ∧ stbs g ls ∧ stbs g st) ∧ WP m_X4_add Q 49 ls st (mY g a q)) := E_pY lo_X4_add rfl
theorem e_X4_add_49 {Q : mQ} {l1 l2 : Value} {st : List Value} {g : mG} {x : Nat} : WP m_X4_add Q 49 [.ref x, l1, l2] st g = WP m_X4_add Q 50 [.ref x, l1, l2] (.ref x :: st) g := E_al (i := 0) (n := 1) lo_X4_add rfl rfl
theorem e_X4_add_50 {Q : mQ} {ls st : List Value} {g : mG} {a : Nat} : WP m_X4_add Q 50 ls (.ref a :: st) g = (gK g a = 5 ∧ WP m_X4_add Q 53 ls (.int (gI g a 1) :: st) g) := E_gI lo_X4_add rfl
theorem e_X4_add_53 {Q : mQ} {l0 l2 : Value} {st : List Value} {g : mG} {x : Int32} : WP m_X4_add Q 53 [l0, .int x, l2] st g = WP m_X4_add Q 54 [l0, .int x, l2] (.int x :: st) g := E_il (i := 1) (n := 1) lo_X4_add rfl rfl
theorem e_X4_add_54 {Q : mQ} {ls st : List Value} {g : mG} {x y : Int32} : WP m_X4_add Q 54 ls (.int y :: .int x :: st) g = ((y < x → WP m_X4_add Q 80 ls st g) ∧ (¬ (y < x) → WP m_X4_add Q 57 ls st g)) := E_I2 (c := fun x y => y < x) (t := 80) lo_X4_add rfl
theorem e_X4_add_57 {Q : mQ} {l1 l2 : Value} {st : List Value} {g : mG} {x : Nat} : WP m_X4_add Q 57 [.ref x, l1, l2] st g = WP m_X4_add Q 58 [.ref x, l1, l2] (.ref x :: st) g := E_al (i := 0) (n := 1) lo_X4_add rfl rfl
theorem e_X4_add_58 {Q : mQ} {ls st : List Value} {g : mG} {a : Nat} : WP m_X4_add Q 58 ls (.ref a :: st) g = ((gK g a = 5 ∧ gK g (a + 1) = 12) ∧ WP m_X4_add Q 61 ls (.ref (a + 1) :: st) g) := E_gY lo_X4_add rfl
theorem e_X4_add_61 {Q : mQ} {l1 l2 : Value} {st : List Value} {g : mG} {x : Nat} : WP m_X4_add Q 61 [.ref x, l1, l2] st g = WP m_X4_add Q 62 [.ref x, l1, l2] (.ref x :: st) g := E_al (i := 0) (n := 1) lo_X4_add rfl rfl
theorem e_X4_add_62 {Q : mQ} {ls st : List Value} {g : mG} {a : Nat} : WP m_X4_add Q 62 ls (.ref a :: st) g = (gK g a = 5 ∧ WP m_X4_add Q 65 ls (.int (gI g a 1) :: st) g) := E_gI lo_X4_add rfl
theorem e_X4_add_65 {Q : mQ} {ls st : List Value} {g : mG} : WP m_X4_add Q 65 ls st g = WP m_X4_add Q 66 ls (.int (nI 0) :: st) g := E_ic (v := nI 0) (n := 1) lo_X4_add rfl
theorem e_X4_add_66 {Q : mQ} {ls st : List Value} {g : mG} {a : Nat} {i v : Int32} : WP m_X4_add Q 66 ls (.int v :: .int i :: .ref a :: st) g = (((gK g a = 11 ∨ gK g a = 12) ∧ vp_in i (gN g a)) ∧ WP m_X4_add Q 67 ls st (pI g a i.toNatClampNeg v)) := E_iast lo_X4_add rfl
theorem e_X4_add_67 {Q : mQ} {l1 l2 : Value} {st : List Value} {g : mG} {x : Nat} : WP m_X4_add Q 67 [.ref x, l1, l2] st g = WP m_X4_add Q 68 [.ref x, l1, l2] (.ref x :: st) g := E_al (i := 0) (n := 1) lo_X4_add rfl rfl
theorem e_X4_add_68 {Q : mQ} {ls st : List Value} {g : mG} {x : Value} : WP m_X4_add Q 68 ls (x :: st) g = (cat1 x ∧ WP m_X4_add Q 69 ls (x :: x :: st) g) := E_dup lo_X4_add rfl
theorem e_X4_add_69 {Q : mQ} {ls st : List Value} {g : mG} {a : Nat} : WP m_X4_add Q 69 ls (.ref a :: st) g = (gK g a = 5 ∧ WP m_X4_add Q 72 ls (.int (gI g a 1) :: st) g) := E_gI lo_X4_add rfl
theorem e_X4_add_72 {Q : mQ} {ls st : List Value} {g : mG} : WP m_X4_add Q 72 ls st g = WP m_X4_add Q 73 ls (.int (nI 1) :: st) g := E_ic (v := nI 1) (n := 1) lo_X4_add rfl
theorem e_X4_add_73 {Q : mQ} {ls st : List Value} {g : mG} {x y : Int32} : WP m_X4_add Q 73 ls (.int y :: .int x :: st) g = WP m_X4_add Q 74 ls (.int (x + y) :: st) g := E_b2 (f := fun x y => x + y) lo_X4_add rfl
theorem e_X4_add_74 {Q : mQ} {ls st : List Value} {g : mG} {a : Nat} {v : Int32} : WP m_X4_add Q 74 ls (.int v :: .ref a :: st) g = (gK g a = 5 ∧ WP m_X4_add Q 77 ls st (pI g a 1 v)) := E_pI lo_X4_add rfl
theorem e_X4_add_77 {Q : mQ} {ls st : List Value} {g : mG} : WP m_X4_add Q 77 ls st g = WP m_X4_add Q 49 ls st g := E_goto lo_X4_add rfl
theorem e_X4_add_80 {Q : mQ} {l1 l2 : Value} {st : List Value} {g : mG} {x : Nat} : WP m_X4_add Q 80 [.ref x, l1, l2] st g = WP m_X4_add Q 81 [.ref x, l1, l2] (.ref x :: st) g := E_al (i := 0) (n := 1) lo_X4_add rfl rfl
theorem e_X4_add_81 {Q : mQ} {ls st : List Value} {g : mG} {a : Nat} : WP m_X4_add Q 81 ls (.ref a :: st) g = ((gK g a = 5 ∧ gK g (a + 1) = 12) ∧ WP m_X4_add Q 84 ls (.ref (a + 1) :: st) g) := E_gY lo_X4_add rfl
theorem e_X4_add_84 {Q : mQ} {l0 l2 : Value} {st : List Value} {g : mG} {x : Int32} : WP m_X4_add Q 84 [l0, .int x, l2] st g = WP m_X4_add Q 85 [l0, .int x, l2] (.int x :: st) g := E_il (i := 1) (n := 1) lo_X4_add rfl rfl
theorem e_X4_add_85 {Q : mQ} {ls st : List Value} {g : mG} {x y : Value} : WP m_X4_add Q 85 ls (y :: x :: st) g = ((cat1 x ∧ cat1 y) ∧ WP m_X4_add Q 86 ls (y :: x :: y :: x :: st) g) := E_dup2 lo_X4_add rfl
theorem e_X4_add_86 {Q : mQ} {ls st : List Value} {g : mG} {a : Nat} {i : Int32} : WP m_X4_add Q 86 ls (.int i :: .ref a :: st) g = ((isIA g a ∧ vp_in i (gN g a)) ∧ WP m_X4_add Q 87 ls (.int (gI g a i.toNatClampNeg) :: st) g) := E_iald lo_X4_add rfl
theorem e_X4_add_87 {Q : mQ} {l0 l1 : Value} {st : List Value} {g : mG} {x : Int32} : WP m_X4_add Q 87 [l0, l1, .int x] st g = WP m_X4_add Q 88 [l0, l1, .int x] (.int x :: st) g := E_il (i := 2) (n := 1) lo_X4_add rfl rfl
theorem e_X4_add_88 {Q : mQ} {ls st : List Value} {g : mG} {x y : Int32} : WP m_X4_add Q 88 ls (.int y :: .int x :: st) g = WP m_X4_add Q 89 ls (.int (x + y) :: st) g := E_b2 (f := fun x y => x + y) lo_X4_add rfl
theorem e_X4_add_89 {Q : mQ} {ls st : List Value} {g : mG} {a : Nat} {i v : Int32} : WP m_X4_add Q 89 ls (.int v :: .int i :: .ref a :: st) g = (((gK g a = 11 ∨ gK g a = 12) ∧ vp_in i (gN g a)) ∧ WP m_X4_add Q 90 ls st (pI g a i.toNatClampNeg v)) := E_iast lo_X4_add rfl
theorem e_X4_add_90 {Q : mQ} {l1 l2 : Value} {st : List Value} {g : mG} {x : Nat} : WP m_X4_add Q 90 [.ref x, l1, l2] st g = WP m_X4_add Q 91 [.ref x, l1, l2] (.ref x :: st) g := E_al (i := 0) (n := 1) lo_X4_add rfl rfl
theorem e_X4_add_91 {Q : mQ} {ls st : List Value} {g : mG} {x : Value} : WP m_X4_add Q 91 ls (x :: st) g = (cat1 x ∧ WP m_X4_add Q 92 ls (x :: x :: st) g) := E_dup lo_X4_add rfl
theorem e_X4_add_92 {Q : mQ} {ls st : List Value} {g : mG} {a : Nat} : WP m_X4_add Q 92 ls (.ref a :: st) g = (gK g a = 5 ∧ WP m_X4_add Q 95 ls (.int (gI g a 2) :: st) g) := E_gI lo_X4_add rfl
theorem e_X4_add_95 {Q : mQ} {l0 l1 : Value} {st : List Value} {g : mG} {x : Int32} : WP m_X4_add Q 95 [l0, l1, .int x] st g = WP m_X4_add Q 96 [l0, l1, .int x] (.int x :: st) g := E_il (i := 2) (n := 1) lo_X4_add rfl rfl
theorem e_X4_add_96 {Q : mQ} {ls st : List Value} {g : mG} {x y : Int32} : WP m_X4_add Q 96 ls (.int y :: .int x :: st) g = WP m_X4_add Q 97 ls (.int (x + y) :: st) g := E_b2 (f := fun x y => x + y) lo_X4_add rfl
theorem e_X4_add_97 {Q : mQ} {ls st : List Value} {g : mG} {a : Nat} {v : Int32} : WP m_X4_add Q 97 ls (.int v :: .ref a :: st) g = (gK g a = 5 ∧ WP m_X4_add Q 100 ls st (pI g a 2 v)) := E_pI lo_X4_add rfl
theorem e_X4_add_100 {Q : mQ} {ls : List Value} {g : mG} : WP m_X4_add Q 100 ls [] g = Q none g := E_ret lo_X4_add rfl
/-! KilnPermits$Permits.giveOldest(ILKilnPermits$Permits;)V -/
def m_X4_giveOldest : List (Nat × mT) := [(0, tD (f_il 1 1)),
  (1, tD (f_is 3 1)),
  (2, tD (f_ic (nI 0) 1)),
  (3, tD (f_is 4 2)),
  (5, tD (f_il 4 2)),
  (7, tD (f_al 0 1)),
  (8, tD (f_gI 5 1)),
  (11, tI2 (fun x y => y ≤ x) 62),
  (14, tD (f_il 3 1)),
  (15, tI1 (fun x => x ≤ 0) 62),
  (18, tD (f_il 3 1)),
  (19, tD (f_al 0 1)),
  (20, tD (f_gY)),
  (23, tD (f_il 4 2)),
  (25, tD (f_iald)),
  (26, tD (f_min)),
  (29, tD (f_is 5 2)),
  (31, tD (f_al 0 1)),
  (32, tD (f_gY)),
  (35, tD (f_il 4 2)),
  (37, tD (f_dup2)),
  (38, tD (f_iald)),
  (39, tD (f_il 5 2)),
  (41, tD (f_b2 fun x y => x - y)),
  (42, tD (f_iast)),
  (43, tD (f_al 2 1)),
  (44, tD (f_il 4 2)),
  (46, tD (f_il 5 2)),
  (48, tC w_X4_add 5 3),
  (51, tD (f_il 3 1)),
  (52, tD (f_il 5 2)),
  (54, tD (f_b2 fun x y => x - y)),
  (55, tD (f_is 3 1)),
  (56, tD (f_inc 4 (nI 1))),
  (59, tD (f_goto 5)),
  (62, tD (f_al 0 1)),
  (63, tD (f_il 1 1)),
  (64, tD (f_il 3 1)),
  (65, tD (f_b2 fun x y => x - y)),
  (66, tC w_X4_leaveOut 5 2),
  (69, tR f_ret)]
abbrev w_X4_giveOldest : mS := wm m_X4_giveOldest 3 3
set_option maxRecDepth 100000 in
theorem lo_X4_giveOldest : locs_ok m_X4_giveOldest := List.forall_mem_cons.mpr ⟨loc_D mo_il,
  List.forall_mem_cons.mpr ⟨loc_D mo_is,
  List.forall_mem_cons.mpr ⟨loc_D mo_ic,
  List.forall_mem_cons.mpr ⟨loc_D mo_is,
  List.forall_mem_cons.mpr ⟨loc_D mo_il,
  List.forall_mem_cons.mpr ⟨loc_D mo_al,
  List.forall_mem_cons.mpr ⟨loc_D mo_gI,
  List.forall_mem_cons.mpr ⟨loc_I2,
  List.forall_mem_cons.mpr ⟨loc_D mo_il,
  List.forall_mem_cons.mpr ⟨loc_I1,
  List.forall_mem_cons.mpr ⟨loc_D mo_il,
  List.forall_mem_cons.mpr ⟨loc_D mo_al,
  List.forall_mem_cons.mpr ⟨loc_D mo_gY,
  List.forall_mem_cons.mpr ⟨loc_D mo_il,
  List.forall_mem_cons.mpr ⟨loc_D mo_iald,
  List.forall_mem_cons.mpr ⟨loc_D mo_min,
  List.forall_mem_cons.mpr ⟨loc_D mo_is,
  List.forall_mem_cons.mpr ⟨loc_D mo_al,
  List.forall_mem_cons.mpr ⟨loc_D mo_gY,
  List.forall_mem_cons.mpr ⟨loc_D mo_il,
  List.forall_mem_cons.mpr ⟨loc_D mo_dup2,
  List.forall_mem_cons.mpr ⟨loc_D mo_iald,
  List.forall_mem_cons.mpr ⟨loc_D mo_il,
  List.forall_mem_cons.mpr ⟨loc_D mo_b2,
  List.forall_mem_cons.mpr ⟨loc_D mo_iast,
  List.forall_mem_cons.mpr ⟨loc_D mo_al,
  List.forall_mem_cons.mpr ⟨loc_D mo_il,
  List.forall_mem_cons.mpr ⟨loc_D mo_il,
  List.forall_mem_cons.mpr ⟨loc_C sm_X4_add.1,
  List.forall_mem_cons.mpr ⟨loc_D mo_il,
  List.forall_mem_cons.mpr ⟨loc_D mo_il,
  List.forall_mem_cons.mpr ⟨loc_D mo_b2,
  List.forall_mem_cons.mpr ⟨loc_D mo_is,
  List.forall_mem_cons.mpr ⟨loc_D mo_inc,
  List.forall_mem_cons.mpr ⟨loc_D mo_goto,
  List.forall_mem_cons.mpr ⟨loc_D mo_al,
  List.forall_mem_cons.mpr ⟨loc_D mo_il,
  List.forall_mem_cons.mpr ⟨loc_D mo_il,
  List.forall_mem_cons.mpr ⟨loc_D mo_b2,
  List.forall_mem_cons.mpr ⟨loc_C sm_X4_leaveOut.1,
  List.forall_mem_cons.mpr ⟨loc_R,
  fun _ h => absurd h List.not_mem_nil⟩⟩⟩⟩⟩⟩⟩⟩⟩⟩⟩⟩⟩⟩⟩⟩⟩⟩⟩⟩⟩⟩⟩⟩⟩⟩⟩⟩⟩⟩⟩⟩⟩⟩⟩⟩⟩⟩⟩⟩⟩
set_option maxRecDepth 100000 in
theorem sm_X4_giveOldest : SM yX4_giveOldest cX4_giveOldest 6 none 3 w_X4_giveOldest := SM_of' RX4 "giveOldest" rfl rfl (by decide) (by decide) (by decide) lo_X4_giveOldest (List.forall_mem_cons.mpr ⟨STP.r mo_il (q_iload_n dX4_giveOldest_0 rfl),
  List.forall_mem_cons.mpr ⟨STP.r mo_is (q_istore_n dX4_giveOldest_1 rfl),
  List.forall_mem_cons.mpr ⟨STP.r mo_ic (q_iconst dX4_giveOldest_2 (by decide)),
  List.forall_mem_cons.mpr ⟨STP.r mo_is (q_istore dX4_giveOldest_3),
  List.forall_mem_cons.mpr ⟨STP.r mo_il (q_iload dX4_giveOldest_5),
  List.forall_mem_cons.mpr ⟨STP.r mo_al (q_aload_n dX4_giveOldest_7 rfl),
  List.forall_mem_cons.mpr ⟨STP.r mo_gI (q_gI ⟨by decide, by decide⟩ (by decide) rfl kf_X4_15 dX4_giveOldest_8),
  List.forall_mem_cons.mpr ⟨(q_ic_ge dX4_giveOldest_11 (by decide)).r,
  List.forall_mem_cons.mpr ⟨STP.r mo_il (q_iload_n dX4_giveOldest_14 rfl),
  List.forall_mem_cons.mpr ⟨(q_if_le dX4_giveOldest_15 (by decide)).r,
  List.forall_mem_cons.mpr ⟨STP.r mo_il (q_iload_n dX4_giveOldest_18 rfl),
  List.forall_mem_cons.mpr ⟨STP.r mo_al (q_aload_n dX4_giveOldest_19 rfl),
  List.forall_mem_cons.mpr ⟨STP.r mo_gY (q_gY kf_X4_9 dX4_giveOldest_20),
  List.forall_mem_cons.mpr ⟨STP.r mo_il (q_iload dX4_giveOldest_23),
  List.forall_mem_cons.mpr ⟨STP.r mo_iald (q_iald dX4_giveOldest_25),
  List.forall_mem_cons.mpr ⟨STP.r mo_min (q_min km_X4_40 kz_mins kz_mi kz_minc dX4_giveOldest_26),
  List.forall_mem_cons.mpr ⟨STP.r mo_is (q_istore dX4_giveOldest_29),
  List.forall_mem_cons.mpr ⟨STP.r mo_al (q_aload_n dX4_giveOldest_31 rfl),
  List.forall_mem_cons.mpr ⟨STP.r mo_gY (q_gY kf_X4_9 dX4_giveOldest_32),
  List.forall_mem_cons.mpr ⟨STP.r mo_il (q_iload dX4_giveOldest_35),
  List.forall_mem_cons.mpr ⟨STP.r mo_dup2 (q_dup2 dX4_giveOldest_37),
  List.forall_mem_cons.mpr ⟨STP.r mo_iald (q_iald dX4_giveOldest_38),
  List.forall_mem_cons.mpr ⟨STP.r mo_il (q_iload dX4_giveOldest_39),
  List.forall_mem_cons.mpr ⟨STP.r mo_b2 (q_isub dX4_giveOldest_41),
  List.forall_mem_cons.mpr ⟨STP.r mo_iast (q_iast dX4_giveOldest_42),
  List.forall_mem_cons.mpr ⟨STP.r mo_al (q_aload_n dX4_giveOldest_43 rfl),
  List.forall_mem_cons.mpr ⟨STP.r mo_il (q_iload dX4_giveOldest_44),
  List.forall_mem_cons.mpr ⟨STP.r mo_il (q_iload dX4_giveOldest_46),
  List.forall_mem_cons.mpr ⟨(snd_CV sm_X4_add ⟨by decide, by decide⟩ rfl km_X4_43 kt_X4_add kv_X4_add rfl ki_X4 kx_X4_add ⟨by decide, by decide, by decide +kernel⟩ (by decide) (by decide) dX4_giveOldest_48).r,
  List.forall_mem_cons.mpr ⟨STP.r mo_il (q_iload_n dX4_giveOldest_51 rfl),
  List.forall_mem_cons.mpr ⟨STP.r mo_il (q_iload dX4_giveOldest_52),
  List.forall_mem_cons.mpr ⟨STP.r mo_b2 (q_isub dX4_giveOldest_54),
  List.forall_mem_cons.mpr ⟨STP.r mo_is (q_istore_n dX4_giveOldest_55 rfl),
  List.forall_mem_cons.mpr ⟨STP.r mo_inc (q_inc dX4_giveOldest_56 (by decide)),
  List.forall_mem_cons.mpr ⟨STP.r mo_goto (q_goto dX4_giveOldest_59 (by decide)),
  List.forall_mem_cons.mpr ⟨STP.r mo_al (q_aload_n dX4_giveOldest_62 rfl),
  List.forall_mem_cons.mpr ⟨STP.r mo_il (q_iload_n dX4_giveOldest_63 rfl),
  List.forall_mem_cons.mpr ⟨STP.r mo_il (q_iload_n dX4_giveOldest_64 rfl),
  List.forall_mem_cons.mpr ⟨STP.r mo_b2 (q_isub dX4_giveOldest_65),
  List.forall_mem_cons.mpr ⟨(snd_CV sm_X4_leaveOut ⟨by decide, by decide⟩ rfl km_X4_47 kt_X4_leaveOut kv_X4_leaveOut rfl ki_X4 kx_X4_leaveOut ⟨by decide, by decide, by decide +kernel⟩ (by decide) (by decide) dX4_giveOldest_66).r,
  List.forall_mem_cons.mpr ⟨r_ret dX4_giveOldest_69,
  fun _ h => absurd h List.not_mem_nil⟩⟩⟩⟩⟩⟩⟩⟩⟩⟩⟩⟩⟩⟩⟩⟩⟩⟩⟩⟩⟩⟩⟩⟩⟩⟩⟩⟩⟩⟩⟩⟩⟩⟩⟩⟩⟩⟩⟩⟩⟩)
theorem e_X4_giveOldest_0 {Q : mQ} {l0 l2 l3 l4 l5 : Value} {st : List Value} {g : mG} {x : Int32} : WP m_X4_giveOldest Q 0 [l0, .int x, l2, l3, l4, l5] st g = WP m_X4_giveOldest Q 1 [l0, .int x, l2, l3, l4, l5] (.int x :: st) g := E_il (i := 1) (n := 1) lo_X4_giveOldest rfl rfl
theorem e_X4_giveOldest_1 {Q : mQ} {l0 l1 l2 l3 l4 l5 : Value} {st : List Value} {g : mG} {x : Int32} : WP m_X4_giveOldest Q 1 [l0, l1, l2, l3, l4, l5] (.int x :: st) g = (nl1 l2 ∧ WP m_X4_giveOldest Q 2 [l0, l1, l2, .int x, l4, l5] st g) := E_is (i := 3) (n := 1) lo_X4_giveOldest rfl (Nat.le_of_ble_eq_true rfl)
theorem e_X4_giveOldest_2 {Q : mQ} {ls st : List Value} {g : mG} : WP m_X4_giveOldest Q 2 ls st g = WP m_X4_giveOldest Q 3 ls (.int (nI 0) :: st) g := E_ic (v := nI 0) (n := 1) lo_X4_giveOldest rfl
theorem e_X4_giveOldest_3 {Q : mQ} {l0 l1 l2 l3 l4 l5 : Value} {st : List Value} {g : mG} {x : Int32} : WP m_X4_giveOldest Q 3 [l0, l1, l2, l3, l4, l5] (.int x :: st) g = (nl1 l3 ∧ WP m_X4_giveOldest Q 5 [l0, l1, l2, l3, .int x, l5] st g) := E_is (i := 4) (n := 2) lo_X4_giveOldest rfl (Nat.le_of_ble_eq_true rfl)
theorem e_X4_giveOldest_5 {Q : mQ} {l0 l1 l2 l3 l5 : Value} {st : List Value} {g : mG} {x : Int32} : WP m_X4_giveOldest Q 5 [l0, l1, l2, l3, .int x, l5] st g = WP m_X4_giveOldest Q 7 [l0, l1, l2, l3, .int x, l5] (.int x :: st) g := E_il (i := 4) (n := 2) lo_X4_giveOldest rfl rfl
theorem e_X4_giveOldest_7 {Q : mQ} {l1 l2 l3 l4 l5 : Value} {st : List Value} {g : mG} {x : Nat} : WP m_X4_giveOldest Q 7 [.ref x, l1, l2, l3, l4, l5] st g = WP m_X4_giveOldest Q 8 [.ref x, l1, l2, l3, l4, l5] (.ref x :: st) g := E_al (i := 0) (n := 1) lo_X4_giveOldest rfl rfl
theorem e_X4_giveOldest_8 {Q : mQ} {ls st : List Value} {g : mG} {a : Nat} : WP m_X4_giveOldest Q 8 ls (.ref a :: st) g = (gK g a = 5 ∧ WP m_X4_giveOldest Q 11 ls (.int (gI g a 1) :: st) g) := E_gI lo_X4_giveOldest rfl
theorem e_X4_giveOldest_11 {Q : mQ} {ls st : List Value} {g : mG} {x y : Int32} : WP m_X4_giveOldest Q 11 ls (.int y :: .int x :: st) g = ((y ≤ x → WP m_X4_giveOldest Q 62 ls st g) ∧ (¬ (y ≤ x) → WP m_X4_giveOldest Q 14 ls st g)) := E_I2 (c := fun x y => y ≤ x) (t := 62) lo_X4_giveOldest rfl
theorem e_X4_giveOldest_14 {Q : mQ} {l0 l1 l2 l4 l5 : Value} {st : List Value} {g : mG} {x : Int32} : WP m_X4_giveOldest Q 14 [l0, l1, l2, .int x, l4, l5] st g = WP m_X4_giveOldest Q 15 [l0, l1, l2, .int x, l4, l5] (.int x :: st) g := E_il (i := 3) (n := 1) lo_X4_giveOldest rfl rfl
theorem e_X4_giveOldest_15 {Q : mQ} {ls st : List Value} {g : mG} {x : Int32} : WP m_X4_giveOldest Q 15 ls (.int x :: st) g = ((x ≤ 0 → WP m_X4_giveOldest Q 62 ls st g) ∧ (¬ (x ≤ 0) → WP m_X4_giveOldest Q 18 ls st g)) := E_I1 (c := fun x => x ≤ 0) (t := 62) lo_X4_giveOldest rfl
theorem e_X4_giveOldest_18 {Q : mQ} {l0 l1 l2 l4 l5 : Value} {st : List Value} {g : mG} {x : Int32} : WP m_X4_giveOldest Q 18 [l0, l1, l2, .int x, l4, l5] st g = WP m_X4_giveOldest Q 19 [l0, l1, l2, .int x, l4, l5] (.int x :: st) g := E_il (i := 3) (n := 1) lo_X4_giveOldest rfl rfl
theorem e_X4_giveOldest_19 {Q : mQ} {l1 l2 l3 l4 l5 : Value} {st : List Value} {g : mG} {x : Nat} : WP m_X4_giveOldest Q 19 [.ref x, l1, l2, l3, l4, l5] st g = WP m_X4_giveOldest Q 20 [.ref x, l1, l2, l3, l4, l5] (.ref x :: st) g := E_al (i := 0) (n := 1) lo_X4_giveOldest rfl rfl
theorem e_X4_giveOldest_20 {Q : mQ} {ls st : List Value} {g : mG} {a : Nat} : WP m_X4_giveOldest Q 20 ls (.ref a :: st) g = ((gK g a = 5 ∧ gK g (a + 1) = 12) ∧ WP m_X4_giveOldest Q 23 ls (.ref (a + 1) :: st) g) := E_gY lo_X4_giveOldest rfl
theorem e_X4_giveOldest_23 {Q : mQ} {l0 l1 l2 l3 l5 : Value} {st : List Value} {g : mG} {x : Int32} : WP m_X4_giveOldest Q 23 [l0, l1, l2, l3, .int x, l5] st g = WP m_X4_giveOldest Q 25 [l0, l1, l2, l3, .int x, l5] (.int x :: st) g := E_il (i := 4) (n := 2) lo_X4_giveOldest rfl rfl
theorem e_X4_giveOldest_25 {Q : mQ} {ls st : List Value} {g : mG} {a : Nat} {i : Int32} : WP m_X4_giveOldest Q 25 ls (.int i :: .ref a :: st) g = ((isIA g a ∧ vp_in i (gN g a)) ∧ WP m_X4_giveOldest Q 26 ls (.int (gI g a i.toNatClampNeg) :: st) g) := E_iald lo_X4_giveOldest rfl
theorem e_X4_giveOldest_26 {Q : mQ} {ls st : List Value} {g : mG} {x y : Int32} : WP m_X4_giveOldest Q 26 ls (.int y :: .int x :: st) g = (st.length ≤ 4 ∧ WP m_X4_giveOldest Q 29 ls (.int (if y < x then y else x) :: st) g) := E_min lo_X4_giveOldest rfl
theorem e_X4_giveOldest_29 {Q : mQ} {l0 l1 l2 l3 l4 l5 : Value} {st : List Value} {g : mG} {x : Int32} : WP m_X4_giveOldest Q 29 [l0, l1, l2, l3, l4, l5] (.int x :: st) g = (nl1 l4 ∧ WP m_X4_giveOldest Q 31 [l0, l1, l2, l3, l4, .int x] st g) := E_is (i := 5) (n := 2) lo_X4_giveOldest rfl (Nat.le_of_ble_eq_true rfl)
theorem e_X4_giveOldest_31 {Q : mQ} {l1 l2 l3 l4 l5 : Value} {st : List Value} {g : mG} {x : Nat} : WP m_X4_giveOldest Q 31 [.ref x, l1, l2, l3, l4, l5] st g = WP m_X4_giveOldest Q 32 [.ref x, l1, l2, l3, l4, l5] (.ref x :: st) g := E_al (i := 0) (n := 1) lo_X4_giveOldest rfl rfl
theorem e_X4_giveOldest_32 {Q : mQ} {ls st : List Value} {g : mG} {a : Nat} : WP m_X4_giveOldest Q 32 ls (.ref a :: st) g = ((gK g a = 5 ∧ gK g (a + 1) = 12) ∧ WP m_X4_giveOldest Q 35 ls (.ref (a + 1) :: st) g) := E_gY lo_X4_giveOldest rfl
theorem e_X4_giveOldest_35 {Q : mQ} {l0 l1 l2 l3 l5 : Value} {st : List Value} {g : mG} {x : Int32} : WP m_X4_giveOldest Q 35 [l0, l1, l2, l3, .int x, l5] st g = WP m_X4_giveOldest Q 37 [l0, l1, l2, l3, .int x, l5] (.int x :: st) g := E_il (i := 4) (n := 2) lo_X4_giveOldest rfl rfl
theorem e_X4_giveOldest_37 {Q : mQ} {ls st : List Value} {g : mG} {x y : Value} : WP m_X4_giveOldest Q 37 ls (y :: x :: st) g = ((cat1 x ∧ cat1 y) ∧ WP m_X4_giveOldest Q 38 ls (y :: x :: y :: x :: st) g) := E_dup2 lo_X4_giveOldest rfl
theorem e_X4_giveOldest_38 {Q : mQ} {ls st : List Value} {g : mG} {a : Nat} {i : Int32} : WP m_X4_giveOldest Q 38 ls (.int i :: .ref a :: st) g = ((isIA g a ∧ vp_in i (gN g a)) ∧ WP m_X4_giveOldest Q 39 ls (.int (gI g a i.toNatClampNeg) :: st) g) := E_iald lo_X4_giveOldest rfl
theorem e_X4_giveOldest_39 {Q : mQ} {l0 l1 l2 l3 l4 : Value} {st : List Value} {g : mG} {x : Int32} : WP m_X4_giveOldest Q 39 [l0, l1, l2, l3, l4, .int x] st g = WP m_X4_giveOldest Q 41 [l0, l1, l2, l3, l4, .int x] (.int x :: st) g := E_il (i := 5) (n := 2) lo_X4_giveOldest rfl rfl
theorem e_X4_giveOldest_41 {Q : mQ} {ls st : List Value} {g : mG} {x y : Int32} : WP m_X4_giveOldest Q 41 ls (.int y :: .int x :: st) g = WP m_X4_giveOldest Q 42 ls (.int (x - y) :: st) g := E_b2 (f := fun x y => x - y) lo_X4_giveOldest rfl
theorem e_X4_giveOldest_42 {Q : mQ} {ls st : List Value} {g : mG} {a : Nat} {i v : Int32} : WP m_X4_giveOldest Q 42 ls (.int v :: .int i :: .ref a :: st) g = (((gK g a = 11 ∨ gK g a = 12) ∧ vp_in i (gN g a)) ∧ WP m_X4_giveOldest Q 43 ls st (pI g a i.toNatClampNeg v)) := E_iast lo_X4_giveOldest rfl
theorem e_X4_giveOldest_43 {Q : mQ} {l0 l1 l3 l4 l5 : Value} {st : List Value} {g : mG} {x : Nat} : WP m_X4_giveOldest Q 43 [l0, l1, .ref x, l3, l4, l5] st g = WP m_X4_giveOldest Q 44 [l0, l1, .ref x, l3, l4, l5] (.ref x :: st) g := E_al (i := 2) (n := 1) lo_X4_giveOldest rfl rfl
theorem e_X4_giveOldest_43n {Q : mQ} {l0 l1 l3 l4 l5 : Value} {st : List Value} {g : mG} : WP m_X4_giveOldest Q 43 [l0, l1, .null, l3, l4, l5] st g = WP m_X4_giveOldest Q 44 [l0, l1, .null, l3, l4, l5] (.null :: st) g := E_aln (i := 2) (n := 1) lo_X4_giveOldest rfl rfl
theorem e_X4_giveOldest_44 {Q : mQ} {l0 l1 l2 l3 l5 : Value} {st : List Value} {g : mG} {x : Int32} : WP m_X4_giveOldest Q 44 [l0, l1, l2, l3, .int x, l5] st g = WP m_X4_giveOldest Q 46 [l0, l1, l2, l3, .int x, l5] (.int x :: st) g := E_il (i := 4) (n := 2) lo_X4_giveOldest rfl rfl
theorem e_X4_giveOldest_46 {Q : mQ} {l0 l1 l2 l3 l4 : Value} {st : List Value} {g : mG} {x : Int32} : WP m_X4_giveOldest Q 46 [l0, l1, l2, l3, l4, .int x] st g = WP m_X4_giveOldest Q 48 [l0, l1, l2, l3, l4, .int x] (.int x :: st) g := E_il (i := 5) (n := 2) lo_X4_giveOldest rfl rfl
theorem e_X4_giveOldest_48 {Q : mQ} {ls st : List Value} {g : mG} {b : Nat} {a0 a1 : Value} : WP m_X4_giveOldest Q 48 ls (a1 :: a0 :: .ref b :: st) g = (st.length ≤ 4 ∧ gK g b = 5 ∧ stbs g ls ∧ stbs g st ∧ w_X4_add [.ref b, a0, a1] g (fun v g' => WP m_X4_giveOldest Q 51 ls (v.toList ++ st) g')) := E_CV (ar := [a1, a0, .ref b]) lo_X4_giveOldest rfl rfl rfl (by decide)
theorem e_X4_giveOldest_51 {Q : mQ} {l0 l1 l2 l4 l5 : Value} {st : List Value} {g : mG} {x : Int32} : WP m_X4_giveOldest Q 51 [l0, l1, l2, .int x, l4, l5] st g = WP m_X4_giveOldest Q 52 [l0, l1, l2, .int x, l4, l5] (.int x :: st) g := E_il (i := 3) (n := 1) lo_X4_giveOldest rfl rfl
theorem e_X4_giveOldest_52 {Q : mQ} {l0 l1 l2 l3 l4 : Value} {st : List Value} {g : mG} {x : Int32} : WP m_X4_giveOldest Q 52 [l0, l1, l2, l3, l4, .int x] st g = WP m_X4_giveOldest Q 54 [l0, l1, l2, l3, l4, .int x] (.int x :: st) g := E_il (i := 5) (n := 2) lo_X4_giveOldest rfl rfl
theorem e_X4_giveOldest_54 {Q : mQ} {ls st : List Value} {g : mG} {x y : Int32} : WP m_X4_giveOldest Q 54 ls (.int y :: .int x :: st) g = WP m_X4_giveOldest Q 55 ls (.int (x - y) :: st) g := E_b2 (f := fun x y => x - y) lo_X4_giveOldest rfl
theorem e_X4_giveOldest_55 {Q : mQ} {l0 l1 l2 l3 l4 l5 : Value} {st : List Value} {g : mG} {x : Int32} : WP m_X4_giveOldest Q 55 [l0, l1, l2, l3, l4, l5] (.int x :: st) g = (nl1 l2 ∧ WP m_X4_giveOldest Q 56 [l0, l1, l2, .int x, l4, l5] st g) := E_is (i := 3) (n := 1) lo_X4_giveOldest rfl (Nat.le_of_ble_eq_true rfl)
theorem e_X4_giveOldest_56 {Q : mQ} {l0 l1 l2 l3 l5 : Value} {st : List Value} {g : mG} {x : Int32} : WP m_X4_giveOldest Q 56 [l0, l1, l2, l3, .int x, l5] st g = (nl1 l3 ∧ WP m_X4_giveOldest Q 59 [l0, l1, l2, l3, .int (x + nI 1), l5] st g) := E_inc (i := 4) (d := nI 1) lo_X4_giveOldest rfl rfl
theorem e_X4_giveOldest_59 {Q : mQ} {ls st : List Value} {g : mG} : WP m_X4_giveOldest Q 59 ls st g = WP m_X4_giveOldest Q 5 ls st g := E_goto lo_X4_giveOldest rfl
theorem e_X4_giveOldest_62 {Q : mQ} {l1 l2 l3 l4 l5 : Value} {st : List Value} {g : mG} {x : Nat} : WP m_X4_giveOldest Q 62 [.ref x, l1, l2, l3, l4, l5] st g = WP m_X4_giveOldest Q 63 [.ref x, l1, l2, l3, l4, l5] (.ref x :: st) g := E_al (i := 0) (n := 1) lo_X4_giveOldest rfl rfl
theorem e_X4_giveOldest_63 {Q : mQ} {l0 l2 l3 l4 l5 : Value} {st : List Value} {g : mG} {x : Int32} : WP m_X4_giveOldest Q 63 [l0, .int x, l2, l3, l4, l5] st g = WP m_X4_giveOldest Q 64 [l0, .int x, l2, l3, l4, l5] (.int x :: st) g := E_il (i := 1) (n := 1) lo_X4_giveOldest rfl rfl
theorem e_X4_giveOldest_64 {Q : mQ} {l0 l1 l2 l4 l5 : Value} {st : List Value} {g : mG} {x : Int32} : WP m_X4_giveOldest Q 64 [l0, l1, l2, .int x, l4, l5] st g = WP m_X4_giveOldest Q 65 [l0, l1, l2, .int x, l4, l5] (.int x :: st) g := E_il (i := 3) (n := 1) lo_X4_giveOldest rfl rfl
theorem e_X4_giveOldest_65 {Q : mQ} {ls st : List Value} {g : mG} {x y : Int32} : WP m_X4_giveOldest Q 65 ls (.int y :: .int x :: st) g = WP m_X4_giveOldest Q 66 ls (.int (x - y) :: st) g := E_b2 (f := fun x y => x - y) lo_X4_giveOldest rfl
theorem e_X4_giveOldest_66 {Q : mQ} {ls st : List Value} {g : mG} {b : Nat} {a0 : Value} : WP m_X4_giveOldest Q 66 ls (a0 :: .ref b :: st) g = (st.length ≤ 4 ∧ gK g b = 5 ∧ stbs g ls ∧ stbs g st ∧ w_X4_leaveOut [.ref b, a0] g (fun v g' => WP m_X4_giveOldest Q 69 ls (v.toList ++ st) g')) := E_CV (ar := [a0, .ref b]) lo_X4_giveOldest rfl rfl rfl (by decide)
theorem e_X4_giveOldest_69 {Q : mQ} {ls : List Value} {g : mG} : WP m_X4_giveOldest Q 69 ls [] g = Q none g := E_ret lo_X4_giveOldest rfl
/-! KilnPermits$Permits.issuedFor(I)I -/
def m_X4_issuedFor : List (Nat × mT) := [(0, tD (f_il 1 1)),
  (1, tI1 (fun x => x < 0) 21),
  (4, tD (f_il 1 1)),
  (5, tD (f_al 0 1)),
  (6, tD (f_gI 5 1)),
  (9, tI2 (fun x y => y ≤ x) 21),
  (12, tD (f_al 0 1)),
  (13, tD (f_gY)),
  (16, tD (f_il 1 1)),
  (17, tD (f_iald)),
  (18, tD (f_goto 22)),
  (21, tD (f_ic (nI 0) 1)),
  (22, tR f_iret)]
abbrev w_X4_issuedFor : mS := wm m_X4_issuedFor 2 0
set_option maxRecDepth 100000 in
theorem lo_X4_issuedFor : locs_ok m_X4_issuedFor := List.forall_mem_cons.mpr ⟨loc_D mo_il,
  List.forall_mem_cons.mpr ⟨loc_I1,
  List.forall_mem_cons.mpr ⟨loc_D mo_il,
  List.forall_mem_cons.mpr ⟨loc_D mo_al,
  List.forall_mem_cons.mpr ⟨loc_D mo_gI,
  List.forall_mem_cons.mpr ⟨loc_I2,
  List.forall_mem_cons.mpr ⟨loc_D mo_al,
  List.forall_mem_cons.mpr ⟨loc_D mo_gY,
  List.forall_mem_cons.mpr ⟨loc_D mo_il,
  List.forall_mem_cons.mpr ⟨loc_D mo_iald,
  List.forall_mem_cons.mpr ⟨loc_D mo_goto,
  List.forall_mem_cons.mpr ⟨loc_D mo_ic,
  List.forall_mem_cons.mpr ⟨loc_R,
  fun _ h => absurd h List.not_mem_nil⟩⟩⟩⟩⟩⟩⟩⟩⟩⟩⟩⟩⟩
set_option maxRecDepth 100000 in
theorem sm_X4_issuedFor : SM yX4_issuedFor cX4_issuedFor 2 (some .int) 1 w_X4_issuedFor := SM_of' RX4 "issuedFor" rfl rfl (by decide) (by decide) (by decide) lo_X4_issuedFor (List.forall_mem_cons.mpr ⟨STP.r mo_il (q_iload_n dX4_issuedFor_0 rfl),
  List.forall_mem_cons.mpr ⟨(q_if_lt dX4_issuedFor_1 (by decide)).r,
  List.forall_mem_cons.mpr ⟨STP.r mo_il (q_iload_n dX4_issuedFor_4 rfl),
  List.forall_mem_cons.mpr ⟨STP.r mo_al (q_aload_n dX4_issuedFor_5 rfl),
  List.forall_mem_cons.mpr ⟨STP.r mo_gI (q_gI ⟨by decide, by decide⟩ (by decide) rfl kf_X4_15 dX4_issuedFor_6),
  List.forall_mem_cons.mpr ⟨(q_ic_ge dX4_issuedFor_9 (by decide)).r,
  List.forall_mem_cons.mpr ⟨STP.r mo_al (q_aload_n dX4_issuedFor_12 rfl),
  List.forall_mem_cons.mpr ⟨STP.r mo_gY (q_gY kf_X4_9 dX4_issuedFor_13),
  List.forall_mem_cons.mpr ⟨STP.r mo_il (q_iload_n dX4_issuedFor_16 rfl),
  List.forall_mem_cons.mpr ⟨STP.r mo_iald (q_iald dX4_issuedFor_17),
  List.forall_mem_cons.mpr ⟨STP.r mo_goto (q_goto dX4_issuedFor_18 (by decide)),
  List.forall_mem_cons.mpr ⟨STP.r mo_ic (q_iconst dX4_issuedFor_21 (by decide)),
  List.forall_mem_cons.mpr ⟨r_iret dX4_issuedFor_22,
  fun _ h => absurd h List.not_mem_nil⟩⟩⟩⟩⟩⟩⟩⟩⟩⟩⟩⟩⟩)
theorem e_X4_issuedFor_0 {Q : mQ} {l0 : Value} {st : List Value} {g : mG} {x : Int32} : WP m_X4_issuedFor Q 0 [l0, .int x] st g = WP m_X4_issuedFor Q 1 [l0, .int x] (.int x :: st) g := E_il (i := 1) (n := 1) lo_X4_issuedFor rfl rfl
theorem e_X4_issuedFor_1 {Q : mQ} {ls st : List Value} {g : mG} {x : Int32} : WP m_X4_issuedFor Q 1 ls (.int x :: st) g = ((x < 0 → WP m_X4_issuedFor Q 21 ls st g) ∧ (¬ (x < 0) → WP m_X4_issuedFor Q 4 ls st g)) := E_I1 (c := fun x => x < 0) (t := 21) lo_X4_issuedFor rfl
theorem e_X4_issuedFor_4 {Q : mQ} {l0 : Value} {st : List Value} {g : mG} {x : Int32} : WP m_X4_issuedFor Q 4 [l0, .int x] st g = WP m_X4_issuedFor Q 5 [l0, .int x] (.int x :: st) g := E_il (i := 1) (n := 1) lo_X4_issuedFor rfl rfl
theorem e_X4_issuedFor_5 {Q : mQ} {l1 : Value} {st : List Value} {g : mG} {x : Nat} : WP m_X4_issuedFor Q 5 [.ref x, l1] st g = WP m_X4_issuedFor Q 6 [.ref x, l1] (.ref x :: st) g := E_al (i := 0) (n := 1) lo_X4_issuedFor rfl rfl
theorem e_X4_issuedFor_6 {Q : mQ} {ls st : List Value} {g : mG} {a : Nat} : WP m_X4_issuedFor Q 6 ls (.ref a :: st) g = (gK g a = 5 ∧ WP m_X4_issuedFor Q 9 ls (.int (gI g a 1) :: st) g) := E_gI lo_X4_issuedFor rfl
theorem e_X4_issuedFor_9 {Q : mQ} {ls st : List Value} {g : mG} {x y : Int32} : WP m_X4_issuedFor Q 9 ls (.int y :: .int x :: st) g = ((y ≤ x → WP m_X4_issuedFor Q 21 ls st g) ∧ (¬ (y ≤ x) → WP m_X4_issuedFor Q 12 ls st g)) := E_I2 (c := fun x y => y ≤ x) (t := 21) lo_X4_issuedFor rfl
theorem e_X4_issuedFor_12 {Q : mQ} {l1 : Value} {st : List Value} {g : mG} {x : Nat} : WP m_X4_issuedFor Q 12 [.ref x, l1] st g = WP m_X4_issuedFor Q 13 [.ref x, l1] (.ref x :: st) g := E_al (i := 0) (n := 1) lo_X4_issuedFor rfl rfl
theorem e_X4_issuedFor_13 {Q : mQ} {ls st : List Value} {g : mG} {a : Nat} : WP m_X4_issuedFor Q 13 ls (.ref a :: st) g = ((gK g a = 5 ∧ gK g (a + 1) = 12) ∧ WP m_X4_issuedFor Q 16 ls (.ref (a + 1) :: st) g) := E_gY lo_X4_issuedFor rfl
theorem e_X4_issuedFor_16 {Q : mQ} {l0 : Value} {st : List Value} {g : mG} {x : Int32} : WP m_X4_issuedFor Q 16 [l0, .int x] st g = WP m_X4_issuedFor Q 17 [l0, .int x] (.int x :: st) g := E_il (i := 1) (n := 1) lo_X4_issuedFor rfl rfl
theorem e_X4_issuedFor_17 {Q : mQ} {ls st : List Value} {g : mG} {a : Nat} {i : Int32} : WP m_X4_issuedFor Q 17 ls (.int i :: .ref a :: st) g = ((isIA g a ∧ vp_in i (gN g a)) ∧ WP m_X4_issuedFor Q 18 ls (.int (gI g a i.toNatClampNeg) :: st) g) := E_iald lo_X4_issuedFor rfl
theorem e_X4_issuedFor_18 {Q : mQ} {ls st : List Value} {g : mG} : WP m_X4_issuedFor Q 18 ls st g = WP m_X4_issuedFor Q 22 ls st g := E_goto lo_X4_issuedFor rfl
theorem e_X4_issuedFor_21 {Q : mQ} {ls st : List Value} {g : mG} : WP m_X4_issuedFor Q 21 ls st g = WP m_X4_issuedFor Q 22 ls (.int (nI 0) :: st) g := E_ic (v := nI 0) (n := 1) lo_X4_issuedFor rfl
theorem e_X4_issuedFor_22 {Q : mQ} {ls : List Value} {g : mG} {v : Int32} : WP m_X4_issuedFor Q 22 ls [.int v] g = Q (some (.int v)) g := E_iret lo_X4_issuedFor rfl
/-! KilnPermits$Permits.oldestYear()I -/
def m_X4_oldestYear : List (Nat × mT) := [(0, tD (f_ic (nI 0) 1)),
  (1, tD (f_is 1 1)),
  (2, tD (f_il 1 1)),
  (3, tD (f_al 0 1)),
  (4, tD (f_gI 5 1)),
  (7, tI2 (fun x y => y ≤ x) 27),
  (10, tD (f_al 0 1)),
  (11, tD (f_gY)),
  (14, tD (f_il 1 1)),
  (15, tD (f_iald)),
  (16, tI1 (fun x => x ≤ 0) 21),
  (19, tD (f_il 1 1)),
  (20, tR f_iret),
  (21, tD (f_inc 1 (nI 1))),
  (24, tD (f_goto 2)),
  (27, tD (f_ic ((-5)) 2)),
  (29, tR f_iret)]
abbrev w_X4_oldestYear : mS := wm m_X4_oldestYear 1 1
set_option maxRecDepth 100000 in
theorem lo_X4_oldestYear : locs_ok m_X4_oldestYear := List.forall_mem_cons.mpr ⟨loc_D mo_ic,
  List.forall_mem_cons.mpr ⟨loc_D mo_is,
  List.forall_mem_cons.mpr ⟨loc_D mo_il,
  List.forall_mem_cons.mpr ⟨loc_D mo_al,
  List.forall_mem_cons.mpr ⟨loc_D mo_gI,
  List.forall_mem_cons.mpr ⟨loc_I2,
  List.forall_mem_cons.mpr ⟨loc_D mo_al,
  List.forall_mem_cons.mpr ⟨loc_D mo_gY,
  List.forall_mem_cons.mpr ⟨loc_D mo_il,
  List.forall_mem_cons.mpr ⟨loc_D mo_iald,
  List.forall_mem_cons.mpr ⟨loc_I1,
  List.forall_mem_cons.mpr ⟨loc_D mo_il,
  List.forall_mem_cons.mpr ⟨loc_R,
  List.forall_mem_cons.mpr ⟨loc_D mo_inc,
  List.forall_mem_cons.mpr ⟨loc_D mo_goto,
  List.forall_mem_cons.mpr ⟨loc_D mo_ic,
  List.forall_mem_cons.mpr ⟨loc_R,
  fun _ h => absurd h List.not_mem_nil⟩⟩⟩⟩⟩⟩⟩⟩⟩⟩⟩⟩⟩⟩⟩⟩⟩
set_option maxRecDepth 100000 in
theorem sm_X4_oldestYear : SM yX4_oldestYear cX4_oldestYear 2 (some .int) 1 w_X4_oldestYear := SM_of' RX4 "oldestYear" rfl rfl (by decide) (by decide) (by decide) lo_X4_oldestYear (List.forall_mem_cons.mpr ⟨STP.r mo_ic (q_iconst dX4_oldestYear_0 (by decide)),
  List.forall_mem_cons.mpr ⟨STP.r mo_is (q_istore_n dX4_oldestYear_1 rfl),
  List.forall_mem_cons.mpr ⟨STP.r mo_il (q_iload_n dX4_oldestYear_2 rfl),
  List.forall_mem_cons.mpr ⟨STP.r mo_al (q_aload_n dX4_oldestYear_3 rfl),
  List.forall_mem_cons.mpr ⟨STP.r mo_gI (q_gI ⟨by decide, by decide⟩ (by decide) rfl kf_X4_15 dX4_oldestYear_4),
  List.forall_mem_cons.mpr ⟨(q_ic_ge dX4_oldestYear_7 (by decide)).r,
  List.forall_mem_cons.mpr ⟨STP.r mo_al (q_aload_n dX4_oldestYear_10 rfl),
  List.forall_mem_cons.mpr ⟨STP.r mo_gY (q_gY kf_X4_9 dX4_oldestYear_11),
  List.forall_mem_cons.mpr ⟨STP.r mo_il (q_iload_n dX4_oldestYear_14 rfl),
  List.forall_mem_cons.mpr ⟨STP.r mo_iald (q_iald dX4_oldestYear_15),
  List.forall_mem_cons.mpr ⟨(q_if_le dX4_oldestYear_16 (by decide)).r,
  List.forall_mem_cons.mpr ⟨STP.r mo_il (q_iload_n dX4_oldestYear_19 rfl),
  List.forall_mem_cons.mpr ⟨r_iret dX4_oldestYear_20,
  List.forall_mem_cons.mpr ⟨STP.r mo_inc (q_inc dX4_oldestYear_21 (by decide)),
  List.forall_mem_cons.mpr ⟨STP.r mo_goto (q_goto dX4_oldestYear_24 (by decide)),
  List.forall_mem_cons.mpr ⟨STP.r mo_ic (q_bipush dX4_oldestYear_27 (by decide)),
  List.forall_mem_cons.mpr ⟨r_iret dX4_oldestYear_29,
  fun _ h => absurd h List.not_mem_nil⟩⟩⟩⟩⟩⟩⟩⟩⟩⟩⟩⟩⟩⟩⟩⟩⟩)
theorem e_X4_oldestYear_0 {Q : mQ} {ls st : List Value} {g : mG} : WP m_X4_oldestYear Q 0 ls st g = WP m_X4_oldestYear Q 1 ls (.int (nI 0) :: st) g := E_ic (v := nI 0) (n := 1) lo_X4_oldestYear rfl
theorem e_X4_oldestYear_1 {Q : mQ} {l0 l1 : Value} {st : List Value} {g : mG} {x : Int32} : WP m_X4_oldestYear Q 1 [l0, l1] (.int x :: st) g = (nl1 l0 ∧ WP m_X4_oldestYear Q 2 [l0, .int x] st g) := E_is (i := 1) (n := 1) lo_X4_oldestYear rfl (Nat.le_of_ble_eq_true rfl)
theorem e_X4_oldestYear_2 {Q : mQ} {l0 : Value} {st : List Value} {g : mG} {x : Int32} : WP m_X4_oldestYear Q 2 [l0, .int x] st g = WP m_X4_oldestYear Q 3 [l0, .int x] (.int x :: st) g := E_il (i := 1) (n := 1) lo_X4_oldestYear rfl rfl
theorem e_X4_oldestYear_3 {Q : mQ} {l1 : Value} {st : List Value} {g : mG} {x : Nat} : WP m_X4_oldestYear Q 3 [.ref x, l1] st g = WP m_X4_oldestYear Q 4 [.ref x, l1] (.ref x :: st) g := E_al (i := 0) (n := 1) lo_X4_oldestYear rfl rfl
theorem e_X4_oldestYear_4 {Q : mQ} {ls st : List Value} {g : mG} {a : Nat} : WP m_X4_oldestYear Q 4 ls (.ref a :: st) g = (gK g a = 5 ∧ WP m_X4_oldestYear Q 7 ls (.int (gI g a 1) :: st) g) := E_gI lo_X4_oldestYear rfl
theorem e_X4_oldestYear_7 {Q : mQ} {ls st : List Value} {g : mG} {x y : Int32} : WP m_X4_oldestYear Q 7 ls (.int y :: .int x :: st) g = ((y ≤ x → WP m_X4_oldestYear Q 27 ls st g) ∧ (¬ (y ≤ x) → WP m_X4_oldestYear Q 10 ls st g)) := E_I2 (c := fun x y => y ≤ x) (t := 27) lo_X4_oldestYear rfl
theorem e_X4_oldestYear_10 {Q : mQ} {l1 : Value} {st : List Value} {g : mG} {x : Nat} : WP m_X4_oldestYear Q 10 [.ref x, l1] st g = WP m_X4_oldestYear Q 11 [.ref x, l1] (.ref x :: st) g := E_al (i := 0) (n := 1) lo_X4_oldestYear rfl rfl
theorem e_X4_oldestYear_11 {Q : mQ} {ls st : List Value} {g : mG} {a : Nat} : WP m_X4_oldestYear Q 11 ls (.ref a :: st) g = ((gK g a = 5 ∧ gK g (a + 1) = 12) ∧ WP m_X4_oldestYear Q 14 ls (.ref (a + 1) :: st) g) := E_gY lo_X4_oldestYear rfl
theorem e_X4_oldestYear_14 {Q : mQ} {l0 : Value} {st : List Value} {g : mG} {x : Int32} : WP m_X4_oldestYear Q 14 [l0, .int x] st g = WP m_X4_oldestYear Q 15 [l0, .int x] (.int x :: st) g := E_il (i := 1) (n := 1) lo_X4_oldestYear rfl rfl
theorem e_X4_oldestYear_15 {Q : mQ} {ls st : List Value} {g : mG} {a : Nat} {i : Int32} : WP m_X4_oldestYear Q 15 ls (.int i :: .ref a :: st) g = ((isIA g a ∧ vp_in i (gN g a)) ∧ WP m_X4_oldestYear Q 16 ls (.int (gI g a i.toNatClampNeg) :: st) g) := E_iald lo_X4_oldestYear rfl
theorem e_X4_oldestYear_16 {Q : mQ} {ls st : List Value} {g : mG} {x : Int32} : WP m_X4_oldestYear Q 16 ls (.int x :: st) g = ((x ≤ 0 → WP m_X4_oldestYear Q 21 ls st g) ∧ (¬ (x ≤ 0) → WP m_X4_oldestYear Q 19 ls st g)) := E_I1 (c := fun x => x ≤ 0) (t := 21) lo_X4_oldestYear rfl
theorem e_X4_oldestYear_19 {Q : mQ} {l0 : Value} {st : List Value} {g : mG} {x : Int32} : WP m_X4_oldestYear Q 19 [l0, .int x] st g = WP m_X4_oldestYear Q 20 [l0, .int x] (.int x :: st) g := E_il (i := 1) (n := 1) lo_X4_oldestYear rfl rfl
theorem e_X4_oldestYear_20 {Q : mQ} {ls : List Value} {g : mG} {v : Int32} : WP m_X4_oldestYear Q 20 ls [.int v] g = Q (some (.int v)) g := E_iret lo_X4_oldestYear rfl
theorem e_X4_oldestYear_21 {Q : mQ} {l0 : Value} {st : List Value} {g : mG} {x : Int32} : WP m_X4_oldestYear Q 21 [l0, .int x] st g = (nl1 l0 ∧ WP m_X4_oldestYear Q 24 [l0, .int (x + nI 1)] st g) := E_inc (i := 1) (d := nI 1) lo_X4_oldestYear rfl rfl
theorem e_X4_oldestYear_24 {Q : mQ} {ls st : List Value} {g : mG} : WP m_X4_oldestYear Q 24 ls st g = WP m_X4_oldestYear Q 2 ls st g := E_goto lo_X4_oldestYear rfl
theorem e_X4_oldestYear_27 {Q : mQ} {ls st : List Value} {g : mG} : WP m_X4_oldestYear Q 27 ls st g = WP m_X4_oldestYear Q 29 ls (.int ((-5)) :: st) g := E_ic (v := (-5)) (n := 2) lo_X4_oldestYear rfl
theorem e_X4_oldestYear_29 {Q : mQ} {ls : List Value} {g : mG} {v : Int32} : WP m_X4_oldestYear Q 29 ls [.int v] g = Q (some (.int v)) g := E_iret lo_X4_oldestYear rfl
/-! KilnPermits$Permits.<init>()V -/
def m_X4_init : List (Nat × mT) := [(0, tD (f_al 0 1)),
  (1, tD (f_obj)),
  (4, tD (f_al 0 1)),
  (5, tD (f_ic (nI 8) 2)),
  (7, tE (f_newa 12)),
  (9, tD (f_pY)),
  (12, tR f_ret)]
abbrev w_X4_init : mS := wm m_X4_init 1 0
set_option maxRecDepth 100000 in
theorem lo_X4_init : locs_ok m_X4_init := List.forall_mem_cons.mpr ⟨loc_D mo_al,
  List.forall_mem_cons.mpr ⟨loc_D mo_obj,
  List.forall_mem_cons.mpr ⟨loc_D mo_al,
  List.forall_mem_cons.mpr ⟨loc_D mo_ic,
  List.forall_mem_cons.mpr ⟨loc_E (fun _ => mo_newa),
  List.forall_mem_cons.mpr ⟨loc_D mo_pY,
  List.forall_mem_cons.mpr ⟨loc_R,
  fun _ h => absurd h List.not_mem_nil⟩⟩⟩⟩⟩⟩⟩
set_option maxRecDepth 100000 in
theorem sm_X4_init : SM yX4_init cX4_init 1 none 1 w_X4_init := SM_of' RX4 "<init>" rfl rfl (by decide) (by decide) (by decide) lo_X4_init (List.forall_mem_cons.mpr ⟨STP.r mo_al (q_aload_n dX4_init_0 rfl),
  List.forall_mem_cons.mpr ⟨STP.r mo_obj (q_obj km_X4_3 kz_oi kz_oc dX4_init_1),
  List.forall_mem_cons.mpr ⟨STP.r mo_al (q_aload_n dX4_init_4 rfl),
  List.forall_mem_cons.mpr ⟨STP.r mo_ic (q_bipush dX4_init_5 (by decide)),
  List.forall_mem_cons.mpr ⟨STE.r (fun _ => mo_newa) (q_newa (Or.inl ⟨Or.inr rfl, rfl⟩) ka_int dX4_init_7),
  List.forall_mem_cons.mpr ⟨STP.r mo_pY (q_pY kf_X4_9 dX4_init_9),
  List.forall_mem_cons.mpr ⟨r_ret dX4_init_12,
  fun _ h => absurd h List.not_mem_nil⟩⟩⟩⟩⟩⟩⟩)
theorem e_X4_init_0 {Q : mQ} {st : List Value} {g : mG} {x : Nat} : WP m_X4_init Q 0 [.ref x] st g = WP m_X4_init Q 1 [.ref x] (.ref x :: st) g := E_al (i := 0) (n := 1) lo_X4_init rfl rfl
theorem e_X4_init_1 {Q : mQ} {ls st : List Value} {g : mG} {x : Nat} : WP m_X4_init Q 1 ls (.ref x :: st) g = (st.length ≤ 4 ∧ WP m_X4_init Q 4 ls st g) := E_obj lo_X4_init rfl
theorem e_X4_init_4 {Q : mQ} {st : List Value} {g : mG} {x : Nat} : WP m_X4_init Q 4 [.ref x] st g = WP m_X4_init Q 5 [.ref x] (.ref x :: st) g := E_al (i := 0) (n := 1) lo_X4_init rfl rfl
theorem e_X4_init_5 {Q : mQ} {ls st : List Value} {g : mG} : WP m_X4_init Q 5 ls st g = WP m_X4_init Q 7 ls (.int (nI 8) :: st) g := E_ic (v := nI 8) (n := 2) lo_X4_init rfl
theorem e_X4_init_7 {Q : mQ} {ls st : List Value} {g : mG} {n : Int32} : WP m_X4_init Q 7 ls (.int n :: st) g = ∃ a : Nat, (frsh g a ∧ ¬ n < 0 ∧ n.toNatClampNeg ≤ 100000 ∧ alv g ls ∧ alv g st) ∧ WP m_X4_init Q 9 ls (.ref a :: st) (nw g a 12 n.toNatClampNeg n.toNatClampNeg (fun _ => 0)) := E_newa lo_X4_init rfl
theorem e_X4_init_9 {Q : mQ} {ls st : List Value} {g : mG} {a q : Nat} : WP m_X4_init Q 9 ls (.ref q :: .ref a :: st) g = ((gK g a = 5 ∧ gK g q = 12 ∧ q ≠ a + 1 ∧ (gK g (a + 1) = 0 ∨ gK g (a + 1) = 12) ∧ gK g (q - 1) ≠ 5 ∧ stbs g ls ∧ stbs g st) ∧ WP m_X4_init Q 12 ls st (mY g a q)) := E_pY lo_X4_init rfl
theorem e_X4_init_12 {Q : mQ} {ls : List Value} {g : mG} : WP m_X4_init Q 12 ls [] g = Q none g := E_ret lo_X4_init rfl
/-! KilnPermits$Line.<init>()V -/
def m_X1_init : List (Nat × mT) := [(0, tD (f_al 0 1)),
  (1, tD (f_obj)),
  (4, tR f_ret)]
abbrev w_X1_init : mS := wm m_X1_init 1 0
set_option maxRecDepth 100000 in
theorem lo_X1_init : locs_ok m_X1_init := List.forall_mem_cons.mpr ⟨loc_D mo_al,
  List.forall_mem_cons.mpr ⟨loc_D mo_obj,
  List.forall_mem_cons.mpr ⟨loc_R,
  fun _ h => absurd h List.not_mem_nil⟩⟩⟩
set_option maxRecDepth 100000 in
theorem sm_X1_init : SM yX1_init cX1_init 1 none 1 w_X1_init := SM_of' RX1 "<init>" rfl rfl (by decide) (by decide) (by decide) lo_X1_init (List.forall_mem_cons.mpr ⟨STP.r mo_al (q_aload_n dX1_init_0 rfl),
  List.forall_mem_cons.mpr ⟨STP.r mo_obj (q_obj km_X1_1 kz_oi kz_oc dX1_init_1),
  List.forall_mem_cons.mpr ⟨r_ret dX1_init_4,
  fun _ h => absurd h List.not_mem_nil⟩⟩⟩)
theorem e_X1_init_0 {Q : mQ} {st : List Value} {g : mG} {x : Nat} : WP m_X1_init Q 0 [.ref x] st g = WP m_X1_init Q 1 [.ref x] (.ref x :: st) g := E_al (i := 0) (n := 1) lo_X1_init rfl rfl
theorem e_X1_init_1 {Q : mQ} {ls st : List Value} {g : mG} {x : Nat} : WP m_X1_init Q 1 ls (.ref x :: st) g = (st.length ≤ 4 ∧ WP m_X1_init Q 4 ls st g) := E_obj lo_X1_init rfl
theorem e_X1_init_4 {Q : mQ} {ls : List Value} {g : mG} : WP m_X1_init Q 4 ls [] g = Q none g := E_ret lo_X1_init rfl
