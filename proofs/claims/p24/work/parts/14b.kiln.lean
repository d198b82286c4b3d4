/-! ===== programs ===== -/
/-! KilnPermits$Order.start(IZIII)V -/
def m_X2_start : List (Nat × mT) := [(0, tD (f_al 0 1)),
  (1, tD (f_il 1 1)),
  (2, tD (f_pI 3 0)),
  (5, tD (f_al 0 1)),
  (6, tD (f_il 2 1)),
  (7, tD (f_pB 3 1)),
  (10, tD (f_al 0 1)),
  (11, tD (f_il 3 1)),
  (12, tD (f_pI 3 2)),
  (15, tD (f_al 0 1)),
  (16, tD (f_il 4 2)),
  (18, tD (f_pI 3 3)),
  (21, tD (f_al 0 1)),
  (22, tD (f_il 5 2)),
  (24, tD (f_pI 3 4)),
  (27, tR f_ret)]
abbrev w_X2_start : mS := wm m_X2_start 6 0
set_option maxRecDepth 100000 in
theorem lo_X2_start : locs_ok m_X2_start := List.forall_mem_cons.mpr ⟨loc_D mo_al,
  List.forall_mem_cons.mpr ⟨loc_D mo_il,
  List.forall_mem_cons.mpr ⟨loc_D mo_pI,
  List.forall_mem_cons.mpr ⟨loc_D mo_al,
  List.forall_mem_cons.mpr ⟨loc_D mo_il,
  List.forall_mem_cons.mpr ⟨loc_D mo_pB,
  List.forall_mem_cons.mpr ⟨loc_D mo_al,
  List.forall_mem_cons.mpr ⟨loc_D mo_il,
  List.forall_mem_cons.mpr ⟨loc_D mo_pI,
  List.forall_mem_cons.mpr ⟨loc_D mo_al,
  List.forall_mem_cons.mpr ⟨loc_D mo_il,
  List.forall_mem_cons.mpr ⟨loc_D mo_pI,
  List.forall_mem_cons.mpr ⟨loc_D mo_al,
  List.forall_mem_cons.mpr ⟨loc_D mo_il,
  List.forall_mem_cons.mpr ⟨loc_D mo_pI,
  List.forall_mem_cons.mpr ⟨loc_R,
  fun _ h => absurd h List.not_mem_nil⟩⟩⟩⟩⟩⟩⟩⟩⟩⟩⟩⟩⟩⟩⟩⟩
set_option maxRecDepth 100000 in
theorem sm_X2_start : SM yX2_start cX2_start 6 none 1 w_X2_start := SM_of' RX2 "start" rfl rfl (by decide) (by decide) (by decide) lo_X2_start (List.forall_mem_cons.mpr ⟨STP.r mo_al (q_aload_n dX2_start_0 rfl),
  List.forall_mem_cons.mpr ⟨STP.r mo_il (q_iload_n dX2_start_1 rfl),
  List.forall_mem_cons.mpr ⟨STP.r mo_pI (q_pI ⟨by decide, by decide⟩ (by decide) rfl rfl kf_X2_16 dX2_start_2),
  List.forall_mem_cons.mpr ⟨STP.r mo_al (q_aload_n dX2_start_5 rfl),
  List.forall_mem_cons.mpr ⟨STP.r mo_il (q_iload_n dX2_start_6 rfl),
  List.forall_mem_cons.mpr ⟨STP.r mo_pB (q_pB ⟨by decide, by decide⟩ (by decide) rfl rfl kf_X2_20 dX2_start_7),
  List.forall_mem_cons.mpr ⟨STP.r mo_al (q_aload_n dX2_start_10 rfl),
  List.forall_mem_cons.mpr ⟨STP.r mo_il (q_iload_n dX2_start_11 rfl),
  List.forall_mem_cons.mpr ⟨STP.r mo_pI (q_pI ⟨by decide, by decide⟩ (by decide) rfl rfl kf_X2_24 dX2_start_12),
  List.forall_mem_cons.mpr ⟨STP.r mo_al (q_aload_n dX2_start_15 rfl),
  List.forall_mem_cons.mpr ⟨STP.r mo_il (q_iload dX2_start_16),
  List.forall_mem_cons.mpr ⟨STP.r mo_pI (q_pI ⟨by decide, by decide⟩ (by decide) rfl rfl kf_X2_27 dX2_start_18),
  List.forall_mem_cons.mpr ⟨STP.r mo_al (q_aload_n dX2_start_21 rfl),
  List.forall_mem_cons.mpr ⟨STP.r mo_il (q_iload dX2_start_22),
  List.forall_mem_cons.mpr ⟨STP.r mo_pI (q_pI ⟨by decide, by decide⟩ (by decide) rfl rfl kf_X2_30 dX2_start_24),
  List.forall_mem_cons.mpr ⟨r_ret dX2_start_27,
  fun _ h => absurd h List.not_mem_nil⟩⟩⟩⟩⟩⟩⟩⟩⟩⟩⟩⟩⟩⟩⟩⟩)
theorem e_X2_start_0 {Q : mQ} {l1 l2 l3 l4 l5 : Value} {st : List Value} {g : mG} {x : Nat} : WP m_X2_start Q 0 [.ref x, l1, l2, l3, l4, l5] st g = WP m_X2_start Q 1 [.ref x, l1, l2, l3, l4, l5] (.ref x :: st) g := E_al (i := 0) (n := 1) lo_X2_start rfl rfl
theorem e_X2_start_1 {Q : mQ} {l0 l2 l3 l4 l5 : Value} {st : List Value} {g : mG} {x : Int32} : WP m_X2_start Q 1 [l0, .int x, l2, l3, l4, l5] st g = WP m_X2_start Q 2 [l0, .int x, l2, l3, l4, l5] (.int x :: st) g := E_il (i := 1) (n := 1) lo_X2_start rfl rfl
theorem e_X2_start_2 {Q : mQ} {ls st : List Value} {g : mG} {a : Nat} {v : Int32} : WP m_X2_start Q 2 ls (.int v :: .ref a :: st) g = (gK g a = 3 ∧ WP m_X2_start Q 5 ls st (pI g a 0 v)) := E_pI lo_X2_start rfl
theorem e_X2_start_5 {Q : mQ} {l1 l2 l3 l4 l5 : Value} {st : List Value} {g : mG} {x : Nat} : WP m_X2_start Q 5 [.ref x, l1, l2, l3, l4, l5] st g = WP m_X2_start Q 6 [.ref x, l1, l2, l3, l4, l5] (.ref x :: st) g := E_al (i := 0) (n := 1) lo_X2_start rfl rfl
theorem e_X2_start_6 {Q : mQ} {l0 l1 l3 l4 l5 : Value} {st : List Value} {g : mG} {x : Int32} : WP m_X2_start Q 6 [l0, l1, .int x, l3, l4, l5] st g = WP m_X2_start Q 7 [l0, l1, .int x, l3, l4, l5] (.int x :: st) g := E_il (i := 2) (n := 1) lo_X2_start rfl rfl
theorem e_X2_start_7 {Q : mQ} {ls st : List Value} {g : mG} {a : Nat} {v : Int32} : WP m_X2_start Q 7 ls (.int v :: .ref a :: st) g = ((gK g a = 3 ∧ (v = 0 ∨ v = 1)) ∧ WP m_X2_start Q 10 ls st (pI g a 1 v)) := E_pB lo_X2_start rfl
theorem e_X2_start_10 {Q : mQ} {l1 l2 l3 l4 l5 : Value} {st : List Value} {g : mG} {x : Nat} : WP m_X2_start Q 10 [.ref x, l1, l2, l3, l4, l5] st g = WP m_X2_start Q 11 [.ref x, l1, l2, l3, l4, l5] (.ref x :: st) g := E_al (i := 0) (n := 1) lo_X2_start rfl rfl
theorem e_X2_start_11 {Q : mQ} {l0 l1 l2 l4 l5 : Value} {st : List Value} {g : mG} {x : Int32} : WP m_X2_start Q 11 [l0, l1, l2, .int x, l4, l5] st g = WP m_X2_start Q 12 [l0, l1, l2, .int x, l4, l5] (.int x :: st) g := E_il (i := 3) (n := 1) lo_X2_start rfl rfl
theorem e_X2_start_12 {Q : mQ} {ls st : List Value} {g : mG} {a : Nat} {v : Int32} : WP m_X2_start Q 12 ls (.int v :: .ref a :: st) g = (gK g a = 3 ∧ WP m_X2_start Q 15 ls st (pI g a 2 v)) := E_pI lo_X2_start rfl
theorem e_X2_start_15 {Q : mQ} {l1 l2 l3 l4 l5 : Value} {st : List Value} {g : mG} {x : Nat} : WP m_X2_start Q 15 [.ref x, l1, l2, l3, l4, l5] st g = WP m_X2_start Q 16 [.ref x, l1, l2, l3, l4, l5] (.ref x :: st) g := E_al (i := 0) (n := 1) lo_X2_start rfl rfl
theorem e_X2_start_16 {Q : mQ} {l0 l1 l2 l3 l5 : Value} {st : List Value} {g : mG} {x : Int32} : WP m_X2_start Q 16 [l0, l1, l2, l3, .int x, l5] st g = WP m_X2_start Q 18 [l0, l1, l2, l3, .int x, l5] (.int x :: st) g := E_il (i := 4) (n := 2) lo_X2_start rfl rfl
theorem e_X2_start_18 {Q : mQ} {ls st : List Value} {g : mG} {a : Nat} {v : Int32} : WP m_X2_start Q 18 ls (.int v :: .ref a :: st) g = (gK g a = 3 ∧ WP m_X2_start Q 21 ls st (pI g a 3 v)) := E_pI lo_X2_start rfl
theorem e_X2_start_21 {Q : mQ} {l1 l2 l3 l4 l5 : Value} {st : List Value} {g : mG} {x : Nat} : WP m_X2_start Q 21 [.ref x, l1, l2, l3, l4, l5] st g = WP m_X2_start Q 22 [.ref x, l1, l2, l3, l4, l5] (.ref x :: st) g := E_al (i := 0) (n := 1) lo_X2_start rfl rfl
theorem e_X2_start_22 {Q : mQ} {l0 l1 l2 l3 l4 : Value} {st : List Value} {g : mG} {x : Int32} : WP m_X2_start Q 22 [l0, l1, l2, l3, l4, .int x] st g = WP m_X2_start Q 24 [l0, l1, l2, l3, l4, .int x] (.int x :: st) g := E_il (i := 5) (n := 2) lo_X2_start rfl rfl
theorem e_X2_start_24 {Q : mQ} {ls st : List Value} {g : mG} {a : Nat} {v : Int32} : WP m_X2_start Q 24 ls (.int v :: .ref a :: st) g = (gK g a = 3 ∧ WP m_X2_start Q 27 ls st (pI g a 4 v)) := E_pI lo_X2_start rfl
theorem e_X2_start_27 {Q : mQ} {ls : List Value} {g : mG} : WP m_X2_start Q 27 ls [] g = Q none g := E_ret lo_X2_start rfl
/-! KilnPermits$Order.copyFrom(LKilnPermits$Order;)V -/
def m_X2_copyFrom : List (Nat × mT) := [(0, tD (f_al 0 1)),
  (1, tD (f_al 1 1)),
  (2, tD (f_gI 3 0)),
  (5, tD (f_al 1 1)),
  (6, tD (f_gI 3 1)),
  (9, tD (f_al 1 1)),
  (10, tD (f_gI 3 2)),
  (13, tD (f_al 1 1)),
  (14, tD (f_gI 3 3)),
  (17, tD (f_al 1 1)),
  (18, tD (f_gI 3 4)),
  (21, tC w_X2_start 3 6),
  (24, tD (f_al 0 1)),
  (25, tD (f_gR 3 5)),
  (28, tD (f_al 1 1)),
  (29, tD (f_gR 3 5)),
  (32, tC w_X4_copyFrom 5 2),
  (35, tR f_ret)]
abbrev w_X2_copyFrom : mS := wm m_X2_copyFrom 2 0
set_option maxRecDepth 100000 in
theorem lo_X2_copyFrom : locs_ok m_X2_copyFrom := List.forall_mem_cons.mpr ⟨loc_D mo_al,
  List.forall_mem_cons.mpr ⟨loc_D mo_al,
  List.forall_mem_cons.mpr ⟨loc_D mo_gI,
  List.forall_mem_cons.mpr ⟨loc_D mo_al,
  List.forall_mem_cons.mpr ⟨loc_D mo_gI,
  List.forall_mem_cons.mpr ⟨loc_D mo_al,
  List.forall_mem_cons.mpr ⟨loc_D mo_gI,
  List.forall_mem_cons.mpr ⟨loc_D mo_al,
  List.forall_mem_cons.mpr ⟨loc_D mo_gI,
  List.forall_mem_cons.mpr ⟨loc_D mo_al,
  List.forall_mem_cons.mpr ⟨loc_D mo_gI,
  List.forall_mem_cons.mpr ⟨loc_C sm_X2_start.1,
  List.forall_mem_cons.mpr ⟨loc_D mo_al,
  List.forall_mem_cons.mpr ⟨loc_D mo_gR,
  List.forall_mem_cons.mpr ⟨loc_D mo_al,
  List.forall_mem_cons.mpr ⟨loc_D mo_gR,
  List.forall_mem_cons.mpr ⟨loc_C sm_X4_copyFrom.1,
  List.forall_mem_cons.mpr ⟨loc_R,
  fun _ h => absurd h List.not_mem_nil⟩⟩⟩⟩⟩⟩⟩⟩⟩⟩⟩⟩⟩⟩⟩⟩⟩⟩
set_option maxRecDepth 100000 in
theorem sm_X2_copyFrom : SM yX2_copyFrom cX2_copyFrom 2 none 2 w_X2_copyFrom := SM_of' RX2 "copyFrom" rfl rfl (by decide) (by decide) (by decide) lo_X2_copyFrom (List.forall_mem_cons.mpr ⟨STP.r mo_al (q_aload_n dX2_copyFrom_0 rfl),
  List.forall_mem_cons.mpr ⟨STP.r mo_al (q_aload_n dX2_copyFrom_1 rfl),
  List.forall_mem_cons.mpr ⟨STP.r mo_gI (q_gI ⟨by decide, by decide⟩ (by decide) rfl kf_X2_16 dX2_copyFrom_2),
  List.forall_mem_cons.mpr ⟨STP.r mo_al (q_aload_n dX2_copyFrom_5 rfl),
  List.forall_mem_cons.mpr ⟨STP.r mo_gI (q_gI ⟨by decide, by decide⟩ (by decide) rfl kf_X2_20 dX2_copyFrom_6),
  List.forall_mem_cons.mpr ⟨STP.r mo_al (q_aload_n dX2_copyFrom_9 rfl),
  List.forall_mem_cons.mpr ⟨STP.r mo_gI (q_gI ⟨by decide, by decide⟩ (by decide) rfl kf_X2_24 dX2_copyFrom_10),
  List.forall_mem_cons.mpr ⟨STP.r mo_al (q_aload_n dX2_copyFrom_13 rfl),
  List.forall_mem_cons.mpr ⟨STP.r mo_gI (q_gI ⟨by decide, by decide⟩ (by decide) rfl kf_X2_27 dX2_copyFrom_14),
  List.forall_mem_cons.mpr ⟨STP.r mo_al (q_aload_n dX2_copyFrom_17 rfl),
  List.forall_mem_cons.mpr ⟨STP.r mo_gI (q_gI ⟨by decide, by decide⟩ (by decide) rfl kf_X2_30 dX2_copyFrom_18),
  List.forall_mem_cons.mpr ⟨(snd_CV sm_X2_start ⟨by decide, by decide⟩ rfl km_X2_33 kt_X2_start kv_X2_start rfl ki_X2 kx_X2_start ⟨by decide, by decide, by decide +kernel⟩ (by decide) (by decide) dX2_copyFrom_21).r,
  List.forall_mem_cons.mpr ⟨STP.r mo_al (q_aload_n dX2_copyFrom_24 rfl),
  List.forall_mem_cons.mpr ⟨STP.r mo_gR (q_gR ⟨by decide, by decide⟩ (by decide) rfl (by decide) kf_X2_10 dX2_copyFrom_25),
  List.forall_mem_cons.mpr ⟨STP.r mo_al (q_aload_n dX2_copyFrom_28 rfl),
  List.forall_mem_cons.mpr ⟨STP.r mo_gR (q_gR ⟨by decide, by decide⟩ (by decide) rfl (by decide) kf_X2_10 dX2_copyFrom_29),
  List.forall_mem_cons.mpr ⟨(snd_CV sm_X4_copyFrom ⟨by decide, by decide⟩ rfl km_X2_37 kt_X4_copyFrom kv_X4_copyFrom rfl ki_X4 kx_X4_copyFrom ⟨by decide, by decide, by decide +kernel⟩ (by decide) (by decide) dX2_copyFrom_32).r,
  List.forall_mem_cons.mpr ⟨r_ret dX2_copyFrom_35,
  fun _ h => absurd h List.not_mem_nil⟩⟩⟩⟩⟩⟩⟩⟩⟩⟩⟩⟩⟩⟩⟩⟩⟩⟩)
theorem e_X2_copyFrom_0 {Q : mQ} {l1 : Value} {st : List Value} {g : mG} {x : Nat} : WP m_X2_copyFrom Q 0 [.ref x, l1] st g = WP m_X2_copyFrom Q 1 [.ref x, l1] (.ref x :: st) g := E_al (i := 0) (n := 1) lo_X2_copyFrom rfl rfl
theorem e_X2_copyFrom_1 {Q : mQ} {l0 : Value} {st : List Value} {g : mG} {x : Nat} : WP m_X2_copyFrom Q 1 [l0, .ref x] st g = WP m_X2_copyFrom Q 2 [l0, .ref x] (.ref x :: st) g := E_al (i := 1) (n := 1) lo_X2_copyFrom rfl rfl
theorem e_X2_copyFrom_1n {Q : mQ} {l0 : Value} {st : List Value} {g : mG} : WP m_X2_copyFrom Q 1 [l0, .null] st g = WP m_X2_copyFrom Q 2 [l0, .null] (.null :: st) g := E_aln (i := 1) (n := 1) lo_X2_copyFrom rfl rfl
theorem e_X2_copyFrom_2 {Q : mQ} {ls st : List Value} {g : mG} {a : Nat} : WP m_X2_copyFrom Q 2 ls (.ref a :: st) g = (gK g a = 3 ∧ WP m_X2_copyFrom Q 5 ls (.int (gI g a 0) :: st) g) := E_gI lo_X2_copyFrom rfl
theorem e_X2_copyFrom_5 {Q : mQ} {l0 : Value} {st : List Value} {g : mG} {x : Nat} : WP m_X2_copyFrom Q 5 [l0, .ref x] st g = WP m_X2_copyFrom Q 6 [l0, .ref x] (.ref x :: st) g := E_al (i := 1) (n := 1) lo_X2_copyFrom rfl rfl
theorem e_X2_copyFrom_5n {Q : mQ} {l0 : Value} {st : List Value} {g : mG} : WP m_X2_copyFrom Q 5 [l0, .null] st g = WP m_X2_copyFrom Q 6 [l0, .null] (.null :: st) g := E_aln (i := 1) (n := 1) lo_X2_copyFrom rfl rfl
theorem e_X2_copyFrom_6 {Q : mQ} {ls st : List Value} {g : mG} {a : Nat} : WP m_X2_copyFrom Q 6 ls (.ref a :: st) g = (gK g a = 3 ∧ WP m_X2_copyFrom Q 9 ls (.int (gI g a 1) :: st) g) := E_gI lo_X2_copyFrom rfl
theorem e_X2_copyFrom_9 {Q : mQ} {l0 : Value} {st : List Value} {g : mG} {x : Nat} : WP m_X2_copyFrom Q 9 [l0, .ref x] st g = WP m_X2_copyFrom Q 10 [l0, .ref x] (.ref x :: st) g := E_al (i := 1) (n := 1) lo_X2_copyFrom rfl rfl
theorem e_X2_copyFrom_9n {Q : mQ} {l0 : Value} {st : List Value} {g : mG} : WP m_X2_copyFrom Q 9 [l0, .null] st g = WP m_X2_copyFrom Q 10 [l0, .null] (.null :: st) g := E_aln (i := 1) (n := 1) lo_X2_copyFrom rfl rfl
theorem e_X2_copyFrom_10 {Q : mQ} {ls st : List Value} {g : mG} {a : Nat} : WP m_X2_copyFrom Q 10 ls (.ref a :: st) g = (gK g a = 3 ∧ WP m_X2_copyFrom Q 13 ls (.int (gI g a 2) :: st) g) := E_gI lo_X2_copyFrom rfl
theorem e_X2_copyFrom_13 {Q : mQ} {l0 : Value} {st : List Value} {g : mG} {x : Nat} : WP m_X2_copyFrom Q 13 [l0, .ref x] st g = WP m_X2_copyFrom Q 14 [l0, .ref x] (.ref x :: st) g := E_al (i := 1) (n := 1) lo_X2_copyFrom rfl rfl
theorem e_X2_copyFrom_13n {Q : mQ} {l0 : Value} {st : List Value} {g : mG} : WP m_X2_copyFrom Q 13 [l0, .null] st g = WP m_X2_copyFrom Q 14 [l0, .null] (.null :: st) g := E_aln (i := 1) (n := 1) lo_X2_copyFrom rfl rfl
theorem e_X2_copyFrom_14 {Q : mQ} {ls st : List Value} {g : mG} {a : Nat} : WP m_X2_copyFrom Q 14 ls (.ref a :: st) g = (gK g a = 3 ∧ WP m_X2_copyFrom Q 17 ls (.int (gI g a 3) :: st) g) := E_gI lo_X2_copyFrom rfl
theorem e_X2_copyFrom_17 {Q : mQ} {l0 : Value} {st : List Value} {g : mG} {x : Nat} : WP m_X2_copyFrom Q 17 [l0, .ref x] st g = WP m_X2_copyFrom Q 18 [l0, .ref x] (.ref x :: st) g := E_al (i := 1) (n := 1) lo_X2_copyFrom rfl rfl
theorem e_X2_copyFrom_17n {Q : mQ} {l0 : Value} {st : List Value} {g : mG} : WP m_X2_copyFrom Q 17 [l0, .null] st g = WP m_X2_copyFrom Q 18 [l0, .null] (.null :: st) g := E_aln (i := 1) (n := 1) lo_X2_copyFrom rfl rfl
theorem e_X2_copyFrom_18 {Q : mQ} {ls st : List Value} {g : mG} {a : Nat} : WP m_X2_copyFrom Q 18 ls (.ref a :: st) g = (gK g a = 3 ∧ WP m_X2_copyFrom Q 21 ls (.int (gI g a 4) :: st) g) := E_gI lo_X2_copyFrom rfl
theorem e_X2_copyFrom_21 {Q : mQ} {ls st : List Value} {g : mG} {b : Nat} {a0 a1 a2 a3 a4 : Value} : WP m_X2_copyFrom Q 21 ls (a4 :: a3 :: a2 :: a1 :: a0 :: .ref b :: st) g = (st.length ≤ 4 ∧ gK g b = 3 ∧ stbs g ls ∧ stbs g st ∧ w_X2_start [.ref b, a0, a1, a2, a3, a4] g (fun v g' => WP m_X2_copyFrom Q 24 ls (v.toList ++ st) g')) := E_CV (ar := [a4, a3, a2, a1, a0, .ref b]) lo_X2_copyFrom rfl rfl rfl (by decide)
theorem e_X2_copyFrom_24 {Q : mQ} {l1 : Value} {st : List Value} {g : mG} {x : Nat} : WP m_X2_copyFrom Q 24 [.ref x, l1] st g = WP m_X2_copyFrom Q 25 [.ref x, l1] (.ref x :: st) g := E_al (i := 0) (n := 1) lo_X2_copyFrom rfl rfl
theorem e_X2_copyFrom_25 {Q : mQ} {ls st : List Value} {g : mG} {a : Nat} : WP m_X2_copyFrom Q 25 ls (.ref a :: st) g = ((gK g a = 3 ∧ gR g a 5 ≠ 0) ∧ WP m_X2_copyFrom Q 28 ls (.ref (gR g a 5) :: st) g) := E_gR lo_X2_copyFrom rfl
theorem e_X2_copyFrom_28 {Q : mQ} {l0 : Value} {st : List Value} {g : mG} {x : Nat} : WP m_X2_copyFrom Q 28 [l0, .ref x] st g = WP m_X2_copyFrom Q 29 [l0, .ref x] (.ref x :: st) g := E_al (i := 1) (n := 1) lo_X2_copyFrom rfl rfl
theorem e_X2_copyFrom_28n {Q : mQ} {l0 : Value} {st : List Value} {g : mG} : WP m_X2_copyFrom Q 28 [l0, .null] st g = WP m_X2_copyFrom Q 29 [l0, .null] (.null :: st) g := E_aln (i := 1) (n := 1) lo_X2_copyFrom rfl rfl
theorem e_X2_copyFrom_29 {Q : mQ} {ls st : List Value} {g : mG} {a : Nat} : WP m_X2_copyFrom Q 29 ls (.ref a :: st) g = ((gK g a = 3 ∧ gR g a 5 ≠ 0) ∧ WP m_X2_copyFrom Q 32 ls (.ref (gR g a 5) :: st) g) := E_gR lo_X2_copyFrom rfl
theorem e_X2_copyFrom_32 {Q : mQ} {ls st : List Value} {g : mG} {b : Nat} {a0 : Value} : WP m_X2_copyFrom Q 32 ls (a0 :: .ref b :: st) g = (st.length ≤ 4 ∧ gK g b = 5 ∧ stbs g ls ∧ stbs g st ∧ w_X4_copyFrom [.ref b, a0] g (fun v g' => WP m_X2_copyFrom Q 35 ls (v.toList ++ st) g')) := E_CV (ar := [a0, .ref b]) lo_X2_copyFrom rfl rfl rfl (by decide)
theorem e_X2_copyFrom_35 {Q : mQ} {ls : List Value} {g : mG} : WP m_X2_copyFrom Q 35 ls [] g = Q none g := E_ret lo_X2_copyFrom rfl
/-! KilnPermits$Kiln.copyFrom(LKilnPermits$Kiln;)V -/
def m_X0_copyFrom : List (Nat × mT) := [(0, tD (f_al 0 1)),
  (1, tD (f_al 1 1)),
  (2, tD (f_gI 1 0)),
  (5, tD (f_pI 1 0)),
  (8, tD (f_al 0 1)),
  (9, tD (f_al 1 1)),
  (10, tD (f_gI 1 1)),
  (13, tD (f_pI 1 1)),
  (16, tD (f_al 0 1)),
  (17, tD (f_al 1 1)),
  (18, tD (f_gI 1 2)),
  (21, tD (f_pI 1 2)),
  (24, tD (f_al 0 1)),
  (25, tD (f_al 1 1)),
  (26, tD (f_gI 1 3)),
  (29, tD (f_pI 1 3)),
  (32, tD (f_al 0 1)),
  (33, tD (f_al 1 1)),
  (34, tD (f_gI 1 4)),
  (37, tD (f_pI 1 4)),
  (40, tD (f_al 0 1)),
  (41, tD (f_al 1 1)),
  (42, tD (f_gI 1 5)),
  (45, tD (f_pI 1 5)),
  (48, tD (f_al 0 1)),
  (49, tD (f_al 1 1)),
  (50, tD (f_gI 1 6)),
  (53, tD (f_pI 1 6)),
  (56, tD (f_al 0 1)),
  (57, tD (f_gR 1 7)),
  (60, tD (f_al 1 1)),
  (61, tD (f_gR 1 7)),
  (64, tC w_X4_copyFrom 5 2),
  (67, tR f_ret)]
abbrev w_X0_copyFrom : mS := wm m_X0_copyFrom 2 0
set_option maxRecDepth 100000 in
theorem lo_X0_copyFrom : locs_ok m_X0_copyFrom := List.forall_mem_cons.mpr ⟨loc_D mo_al,
  List.forall_mem_cons.mpr ⟨loc_D mo_al,
  List.forall_mem_cons.mpr ⟨loc_D mo_gI,
  List.forall_mem_cons.mpr ⟨loc_D mo_pI,
  List.forall_mem_cons.mpr ⟨loc_D mo_al,
  List.forall_mem_cons.mpr ⟨loc_D mo_al,
  List.forall_mem_cons.mpr ⟨loc_D mo_gI,
  List.forall_mem_cons.mpr ⟨loc_D mo_pI,
  List.forall_mem_cons.mpr ⟨loc_D mo_al,
  List.forall_mem_cons.mpr ⟨loc_D mo_al,
  List.forall_mem_cons.mpr ⟨loc_D mo_gI,
  List.forall_mem_cons.mpr ⟨loc_D mo_pI,
  List.forall_mem_cons.mpr ⟨loc_D mo_al,
  List.forall_mem_cons.mpr ⟨loc_D mo_al,
  List.forall_mem_cons.mpr ⟨loc_D mo_gI,
  List.forall_mem_cons.mpr ⟨loc_D mo_pI,
  List.forall_mem_cons.mpr ⟨loc_D mo_al,
  List.forall_mem_cons.mpr ⟨loc_D mo_al,
  List.forall_mem_cons.mpr ⟨loc_D mo_gI,
  List.forall_mem_cons.mpr ⟨loc_D mo_pI,
  List.forall_mem_cons.mpr ⟨loc_D mo_al,
  List.forall_mem_cons.mpr ⟨loc_D mo_al,
  List.forall_mem_cons.mpr ⟨loc_D mo_gI,
  List.forall_mem_cons.mpr ⟨loc_D mo_pI,
  List.forall_mem_cons.mpr ⟨loc_D mo_al,
  List.forall_mem_cons.mpr ⟨loc_D mo_al,
  List.forall_mem_cons.mpr ⟨loc_D mo_gI,
  List.forall_mem_cons.mpr ⟨loc_D mo_pI,
  List.forall_mem_cons.mpr ⟨loc_D mo_al,
  List.forall_mem_cons.mpr ⟨loc_D mo_gR,
  List.forall_mem_cons.mpr ⟨loc_D mo_al,
  List.forall_mem_cons.mpr ⟨loc_D mo_gR,
  List.forall_mem_cons.mpr ⟨loc_C sm_X4_copyFrom.1,
  List.forall_mem_cons.mpr ⟨loc_R,
  fun _ h => absurd h List.not_mem_nil⟩⟩⟩⟩⟩⟩⟩⟩⟩⟩⟩⟩⟩⟩⟩⟩⟩⟩⟩⟩⟩⟩⟩⟩⟩⟩⟩⟩⟩⟩⟩⟩⟩⟩
set_option maxRecDepth 100000 in
theorem sm_X0_copyFrom : SM yX0_copyFrom cX0_copyFrom 2 none 2 w_X0_copyFrom := SM_of' RX0 "copyFrom" rfl rfl (by decide) (by decide) (by decide) lo_X0_copyFrom (List.forall_mem_cons.mpr ⟨STP.r mo_al (q_aload_n dX0_copyFrom_0 rfl),
  List.forall_mem_cons.mpr ⟨STP.r mo_al (q_aload_n dX0_copyFrom_1 rfl),
  List.forall_mem_cons.mpr ⟨STP.r mo_gI (q_gI ⟨by decide, by decide⟩ (by decide) rfl kf_X0_9 dX0_copyFrom_2),
  List.forall_mem_cons.mpr ⟨STP.r mo_pI (q_pI ⟨by decide, by decide⟩ (by decide) rfl rfl kf_X0_9 dX0_copyFrom_5),
  List.forall_mem_cons.mpr ⟨STP.r mo_al (q_aload_n dX0_copyFrom_8 rfl),
  List.forall_mem_cons.mpr ⟨STP.r mo_al (q_aload_n dX0_copyFrom_9 rfl),
  List.forall_mem_cons.mpr ⟨STP.r mo_gI (q_gI ⟨by decide, by decide⟩ (by decide) rfl kf_X0_22 dX0_copyFrom_10),
  List.forall_mem_cons.mpr ⟨STP.r mo_pI (q_pI ⟨by decide, by decide⟩ (by decide) rfl rfl kf_X0_22 dX0_copyFrom_13),
  List.forall_mem_cons.mpr ⟨STP.r mo_al (q_aload_n dX0_copyFrom_16 rfl),
  List.forall_mem_cons.mpr ⟨STP.r mo_al (q_aload_n dX0_copyFrom_17 rfl),
  List.forall_mem_cons.mpr ⟨STP.r mo_gI (q_gI ⟨by decide, by decide⟩ (by decide) rfl kf_X0_25 dX0_copyFrom_18),
  List.forall_mem_cons.mpr ⟨STP.r mo_pI (q_pI ⟨by decide, by decide⟩ (by decide) rfl rfl kf_X0_25 dX0_copyFrom_21),
  List.forall_mem_cons.mpr ⟨STP.r mo_al (q_aload_n dX0_copyFrom_24 rfl),
  List.forall_mem_cons.mpr ⟨STP.r mo_al (q_aload_n dX0_copyFrom_25 rfl),
  List.forall_mem_cons.mpr ⟨STP.r mo_gI (q_gI ⟨by decide, by decide⟩ (by decide) rfl kf_X0_28 dX0_copyFrom_26),
  List.forall_mem_cons.mpr ⟨STP.r mo_pI (q_pI ⟨by decide, by decide⟩ (by decide) rfl rfl kf_X0_28 dX0_copyFrom_29),
  List.forall_mem_cons.mpr ⟨STP.r mo_al (q_aload_n dX0_copyFrom_32 rfl),
  List.forall_mem_cons.mpr ⟨STP.r mo_al (q_aload_n dX0_copyFrom_33 rfl),
  List.forall_mem_cons.mpr ⟨STP.r mo_gI (q_gI ⟨by decide, by decide⟩ (by decide) rfl kf_X0_31 dX0_copyFrom_34),
  List.forall_mem_cons.mpr ⟨STP.r mo_pI (q_pI ⟨by decide, by decide⟩ (by decide) rfl rfl kf_X0_31 dX0_copyFrom_37),
  List.forall_mem_cons.mpr ⟨STP.r mo_al (q_aload_n dX0_copyFrom_40 rfl),
  List.forall_mem_cons.mpr ⟨STP.r mo_al (q_aload_n dX0_copyFrom_41 rfl),
  List.forall_mem_cons.mpr ⟨STP.r mo_gI (q_gI ⟨by decide, by decide⟩ (by decide) rfl kf_X0_34 dX0_copyFrom_42),
  List.forall_mem_cons.mpr ⟨STP.r mo_pI (q_pI ⟨by decide, by decide⟩ (by decide) rfl rfl kf_X0_34 dX0_copyFrom_45),
  List.forall_mem_cons.mpr ⟨STP.r mo_al (q_aload_n dX0_copyFrom_48 rfl),
  List.forall_mem_cons.mpr ⟨STP.r mo_al (q_aload_n dX0_copyFrom_49 rfl),
  List.forall_mem_cons.mpr ⟨STP.r mo_gI (q_gI ⟨by decide, by decide⟩ (by decide) rfl kf_X0_37 dX0_copyFrom_50),
  List.forall_mem_cons.mpr ⟨STP.r mo_pI (q_pI ⟨by decide, by decide⟩ (by decide) rfl rfl kf_X0_37 dX0_copyFrom_53),
  List.forall_mem_cons.mpr ⟨STP.r mo_al (q_aload_n dX0_copyFrom_56 rfl),
  List.forall_mem_cons.mpr ⟨STP.r mo_gR (q_gR ⟨by decide, by decide⟩ (by decide) rfl (by decide) kf_X0_18 dX0_copyFrom_57),
  List.forall_mem_cons.mpr ⟨STP.r mo_al (q_aload_n dX0_copyFrom_60 rfl),
  List.forall_mem_cons.mpr ⟨STP.r mo_gR (q_gR ⟨by decide, by decide⟩ (by decide) rfl (by decide) kf_X0_18 dX0_copyFrom_61),
  List.forall_mem_cons.mpr ⟨(snd_CV sm_X4_copyFrom ⟨by decide, by decide⟩ rfl km_X0_40 kt_X4_copyFrom kv_X4_copyFrom rfl ki_X4 kx_X4_copyFrom ⟨by decide, by decide, by decide +kernel⟩ (by decide) (by decide) dX0_copyFrom_64).r,
  List.forall_mem_cons.mpr ⟨r_ret dX0_copyFrom_67,
  fun _ h => absurd h List.not_mem_nil⟩⟩⟩⟩⟩⟩⟩⟩⟩⟩⟩⟩⟩⟩⟩⟩⟩⟩⟩⟩⟩⟩⟩⟩⟩⟩⟩⟩⟩⟩⟩⟩⟩⟩)
theorem e_X0_copyFrom_0 {Q : mQ} {l1 : Value} {st : List Value} {g : mG} {x : Nat} : WP m_X0_copyFrom Q 0 [.ref x, l1] st g = WP m_X0_copyFrom Q 1 [.ref x, l1] (.ref x :: st) g := E_al (i := 0) (n := 1) lo_X0_copyFrom rfl rfl
theorem e_X0_copyFrom_1 {Q : mQ} {l0 : Value} {st : List Value} {g : mG} {x : Nat} : WP m_X0_copyFrom Q 1 [l0, .ref x] st g = WP m_X0_copyFrom Q 2 [l0, .ref x] (.ref x :: st) g := E_al (i := 1) (n := 1) lo_X0_copyFrom rfl rfl
theorem e_X0_copyFrom_1n {Q : mQ} {l0 : Value} {st : List Value} {g : mG} : WP m_X0_copyFrom Q 1 [l0, .null] st g = WP m_X0_copyFrom Q 2 [l0, .null] (.null :: st) g := E_aln (i := 1) (n := 1) lo_X0_copyFrom rfl rfl
theorem e_X0_copyFrom_2 {Q : mQ} {ls st : List Value} {g : mG} {a : Nat} : WP m_X0_copyFrom Q 2 ls (.ref a :: st) g = (gK g a = 1 ∧ WP m_X0_copyFrom Q 5 ls (.int (gI g a 0) :: st) g) := E_gI lo_X0_copyFrom rfl
theorem e_X0_copyFrom_5 {Q : mQ} {ls st : List Value} {g : mG} {a : Nat} {v : Int32} : WP m_X0_copyFrom Q 5 ls (.int v :: .ref a :: st) g = (gK g a = 1 ∧ WP m_X0_copyFrom Q 8 ls st (pI g a 0 v)) := E_pI lo_X0_copyFrom rfl
theorem e_X0_copyFrom_8 {Q : mQ} {l1 : Value} {st : List Value} {g : mG} {x : Nat} : WP m_X0_copyFrom Q 8 [.ref x, l1] st g = WP m_X0_copyFrom Q 9 [.ref x, l1] (.ref x :: st) g := E_al (i := 0) (n := 1) lo_X0_copyFrom rfl rfl
theorem e_X0_copyFrom_9 {Q : mQ} {l0 : Value} {st : List Value} {g : mG} {x : Nat} : WP m_X0_copyFrom Q 9 [l0, .ref x] st g = WP m_X0_copyFrom Q 10 [l0, .ref x] (.ref x :: st) g := E_al (i := 1) (n := 1) lo_X0_copyFrom rfl rfl
theorem e_X0_copyFrom_9n {Q : mQ} {l0 : Value} {st : List Value} {g : mG} : WP m_X0_copyFrom Q 9 [l0, .null] st g = WP m_X0_copyFrom Q 10 [l0, .null] (.null :: st) g := E_aln (i := 1) (n := 1) lo_X0_copyFrom rfl rfl
theorem e_X0_copyFrom_10 {Q : mQ} {ls st : List Value} {g : mG} {a : Nat} : WP m_X0_copyFrom Q 10 ls (.ref a :: st) g = (gK g a = 1 ∧ WP m_X0_copyFrom Q 13 ls (.int (gI g a 1) :: st) g) := E_gI lo_X0_copyFrom rfl
theorem e_X0_copyFrom_13 {Q : mQ} {ls st : List Value} {g : mG} {a : Nat} {v : Int32} : WP m_X0_copyFrom Q 13 ls (.int v :: .ref a :: st) g = (gK g a = 1 ∧ WP m_X0_copyFrom Q 16 ls st (pI g a 1 v)) := E_pI lo_X0_copyFrom rfl
theorem e_X0_copyFrom_16 {Q : mQ} {l1 : Value} {st : List Value} {g : mG} {x : Nat} : WP m_X0_copyFrom Q 16 [.ref x, l1] st g = WP m_X0_copyFrom Q 17 [.ref x, l1] (.ref x :: st) g := E_al (i := 0) (n := 1) lo_X0_copyFrom rfl rfl
theorem e_X0_copyFrom_17 {Q : mQ} {l0 : Value} {st : List Value} {g : mG} {x : Nat} : WP m_X0_copyFrom Q 17 [l0, .ref x] st g = WP m_X0_copyFrom Q 18 [l0, .ref x] (.ref x :: st) g := E_al (i := 1) (n := 1) lo_X0_copyFrom rfl rfl
theorem e_X0_copyFrom_17n {Q : mQ} {l0 : Value} {st : List Value} {g : mG} : WP m_X0_copyFrom Q 17 [l0, .null] st g = WP m_X0_copyFrom Q 18 [l0, .null] (.null :: st) g := E_aln (i := 1) (n := 1) lo_X0_copyFrom rfl rfl
theorem e_X0_copyFrom_18 {Q : mQ} {ls st : List Value} {g : mG} {a : Nat} : WP m_X0_copyFrom Q 18 ls (.ref a :: st) g = (gK g a = 1 ∧ WP m_X0_copyFrom Q 21 ls (.int (gI g a 2) :: st) g) := E_gI lo_X0_copyFrom rfl
theorem e_X0_copyFrom_21 {Q : mQ} {ls st : List Value} {g : mG} {a : Nat} {v : Int32} : WP m_X0_copyFrom Q 21 ls (.int v :: .ref a :: st) g = (gK g a = 1 ∧ WP m_X0_copyFrom Q 24 ls st (pI g a 2 v)) := E_pI lo_X0_copyFrom rfl
theorem e_X0_copyFrom_24 {Q : mQ} {l1 : Value} {st : List Value} {g : mG} {x : Nat} : WP m_X0_copyFrom Q 24 [.ref x, l1] st g = WP m_X0_copyFrom Q 25 [.ref x, l1] (.ref x :: st) g := E_al (i := 0) (n := 1) lo_X0_copyFrom rfl rfl
theorem e_X0_copyFrom_25 {Q : mQ} {l0 : Value} {st : List Value} {g : mG} {x : Nat} : WP m_X0_copyFrom Q 25 [l0, .ref x] st g = WP m_X0_copyFrom Q 26 [l0, .ref x] (.ref x :: st) g := E_al (i := 1) (n := 1) lo_X0_copyFrom rfl rfl
theorem e_X0_copyFrom_25n {Q : mQ} {l0 : Value} {st : List Value} {g : mG} : WP m_X0_copyFrom Q 25 [l0, .null] st g = WP m_X0_copyFrom Q 26 [l0, .null] (.null :: st) g := E_aln (i := 1) (n := 1) lo_X0_copyFrom rfl rfl
theorem e_X0_copyFrom_26 {Q : mQ} {ls st : List Value} {g : mG} {a : Nat} : WP m_X0_copyFrom Q 26 ls (.ref a :: st) g = (gK g a = 1 ∧ WP m_X0_copyFrom Q 29 ls (.int (gI g a 3) :: st) g) := E_gI lo_X0_copyFrom rfl
theorem e_X0_copyFrom_29 {Q : mQ} {ls st : List Value} {g : mG} {a : Nat} {v : Int32} : WP m_X0_copyFrom Q 29 ls (.int v :: .ref a :: st) g = (gK g a = 1 ∧ WP m_X0_copyFrom Q 32 ls st (pI g a 3 v)) := E_pI lo_X0_copyFrom rfl
theorem e_X0_copyFrom_32 {Q : mQ} {l1 : Value} {st : List Value} {g : mG} {x : Nat} : WP m_X0_copyFrom Q 32 [.ref x, l1] st g = WP m_X0_copyFrom Q 33 [.ref x, l1] (.ref x :: st) g := E_al (i := 0) (n := 1) lo_X0_copyFrom rfl rfl
theorem e_X0_copyFrom_33 {Q : mQ} {l0 : Value} {st : List Value} {g : mG} {x : Nat} : WP m_X0_copyFrom Q 33 [l0, .ref x] st g = WP m_X0_copyFrom Q 34 [l0, .ref x] (.ref x :: st) g := E_al (i := 1) (n := 1) lo_X0_copyFrom rfl rfl
theorem e_X0_copyFrom_33n {Q : mQ} {l0 : Value} {st : List Value} {g : mG} : WP m_X0_copyFrom Q 33 [l0, .null] st g = WP m_X0_copyFrom Q 34 [l0, .null] (.null :: st) g := E_aln (i := 1) (n := 1) lo_X0_copyFrom rfl rfl
theorem e_X0_copyFrom_34 {Q : mQ} {ls st : List Value} {g : mG} {a : Nat} : WP m_X0_copyFrom Q 34 ls (.ref a :: st) g = (gK g a = 1 ∧ WP m_X0_copyFrom Q 37 ls (.int (gI g a 4) :: st) g) := E_gI lo_X0_copyFrom rfl
theorem e_X0_copyFrom_37 {Q : mQ} {ls st : List Value} {g : mG} {a : Nat} {v : Int32} : WP m_X0_copyFrom Q 37 ls (.int v :: .ref a :: st) g = (gK g a = 1 ∧ WP m_X0_copyFrom Q 40 ls st (pI g a 4 v)) := E_pI lo_X0_copyFrom rfl
theorem e_X0_copyFrom_40 {Q : mQ} {l1 : Value} {st : List Value} {g : mG} {x : Nat} : WP m_X0_copyFrom Q 40 [.ref x, l1] st g = WP m_X0_copyFrom Q 41 [.ref x, l1] (.ref x :: st) g := E_al (i := 0) (n := 1) lo_X0_copyFrom rfl rfl
theorem e_X0_copyFrom_41 {Q : mQ} {l0 : Value} {st : List Value} {g : mG} {x : Nat} : WP m_X0_copyFrom Q 41 [l0, .ref x] st g = WP m_X0_copyFrom Q 42 [l0, .ref x] (.ref x :: st) g := E_al (i := 1) (n := 1) lo_X0_copyFrom rfl rfl
theorem e_X0_copyFrom_41n {Q : mQ} {l0 : Value} {st : List Value} {g : mG} : WP m_X0_copyFrom Q 41 [l0, .null] st g = WP m_X0_copyFrom Q 42 [l0, .null] (.null :: st) g := E_aln (i := 1) (n := 1) lo_X0_copyFrom rfl rfl
theorem e_X0_copyFrom_42 {Q : mQ} {ls st : List Value} {g : mG} {a : Nat} : WP m_X0_copyFrom Q 42 ls (.ref a :: st) g = (gK g a = 1 ∧ WP m_X0_copyFrom Q 45 ls (.int (gI g a 5) :: st) g) := E_gI lo_X0_copyFrom rfl
theorem e_X0_copyFrom_45 {Q : mQ} {ls st : List Value} {g : mG} {a : Nat} {v : Int32} : WP m_X0_copyFrom Q 45 ls (.int v :: .ref a :: st) g = (gK g a = 1 ∧ WP m_X0_copyFrom Q 48 ls st (pI g a 5 v)) := E_pI lo_X0_copyFrom rfl
theorem e_X0_copyFrom_48 {Q : mQ} {l1 : Value} {st : List Value} {g : mG} {x : Nat} : WP m_X0_copyFrom Q 48 [.ref x, l1] st g = WP m_X0_copyFrom Q 49 [.ref x, l1] (.ref x :: st) g := E_al (i := 0) (n := 1) lo_X0_copyFrom rfl rfl
theorem e_X0_copyFrom_49 {Q : mQ} {l0 : Value} {st : List Value} {g : mG} {x : Nat} : WP m_X0_copyFrom Q 49 [l0, .ref x] st g = WP m_X0_copyFrom Q 50 [l0, .ref x] (.ref x :: st) g := E_al (i := 1) (n := 1) lo_X0_copyFrom rfl rfl
theorem e_X0_copyFrom_49n {Q : mQ} {l0 : Value} {st : List Value} {g : mG} : WP m_X0_copyFrom Q 49 [l0, .null] st g = WP m_X0_copyFrom Q 50 [l0, .null] (.null :: st) g := E_aln (i := 1) (n := 1) lo_X0_copyFrom rfl rfl
theorem e_X0_copyFrom_50 {Q : mQ} {ls st : List Value} {g : mG} {a : Nat} : WP m_X0_copyFrom Q 50 ls (.ref a :: st) g = (gK g a = 1 ∧ WP m_X0_copyFrom Q 53 ls (.int (gI g a 6) :: st) g) := E_gI lo_X0_copyFrom rfl
theorem e_X0_copyFrom_53 {Q : mQ} {ls st : List Value} {g : mG} {a : Nat} {v : Int32} : WP m_X0_copyFrom Q 53 ls (.int v :: .ref a :: st) g = (gK g a = 1 ∧ WP m_X0_copyFrom Q 56 ls st (pI g a 6 v)) := E_pI lo_X0_copyFrom rfl
theorem e_X0_copyFrom_56 {Q : mQ} {l1 : Value} {st : List Value} {g : mG} {x : Nat} : WP m_X0_copyFrom Q 56 [.ref x, l1] st g = WP m_X0_copyFrom Q 57 [.ref x, l1] (.ref x :: st) g := E_al (i := 0) (n := 1) lo_X0_copyFrom rfl rfl
theorem e_X0_copyFrom_57 {Q : mQ} {ls st : List Value} {g : mG} {a : Nat} : WP m_X0_copyFrom Q 57 ls (.ref a :: st) g = ((gK g a = 1 ∧ gR g a 7 ≠ 0) ∧ WP m_X0_copyFrom Q 60 ls (.ref (gR g a 7) :: st) g) := E_gR lo_X0_copyFrom rfl
theorem e_X0_copyFrom_60 {Q : mQ} {l0 : Value} {st : List Value} {g : mG} {x : Nat} : WP m_X0_copyFrom Q 60 [l0, .ref x] st g = WP m_X0_copyFrom Q 61 [l0, .ref x] (.ref x :: st) g := E_al (i := 1) (n := 1) lo_X0_copyFrom rfl rfl
theorem e_X0_copyFrom_60n {Q : mQ} {l0 : Value} {st : List Value} {g : mG} : WP m_X0_copyFrom Q 60 [l0, .null] st g = WP m_X0_copyFrom Q 61 [l0, .null] (.null :: st) g := E_aln (i := 1) (n := 1) lo_X0_copyFrom rfl rfl
theorem e_X0_copyFrom_61 {Q : mQ} {ls st : List Value} {g : mG} {a : Nat} : WP m_X0_copyFrom Q 61 ls (.ref a :: st) g = ((gK g a = 1 ∧ gR g a 7 ≠ 0) ∧ WP m_X0_copyFrom Q 64 ls (.ref (gR g a 7) :: st) g) := E_gR lo_X0_copyFrom rfl
theorem e_X0_copyFrom_64 {Q : mQ} {ls st : List Value} {g : mG} {b : Nat} {a0 : Value} : WP m_X0_copyFrom Q 64 ls (a0 :: .ref b :: st) g = (st.length ≤ 4 ∧ gK g b = 5 ∧ stbs g ls ∧ stbs g st ∧ w_X4_copyFrom [.ref b, a0] g (fun v g' => WP m_X0_copyFrom Q 67 ls (v.toList ++ st) g')) := E_CV (ar := [a0, .ref b]) lo_X0_copyFrom rfl rfl rfl (by decide)
theorem e_X0_copyFrom_67 {Q : mQ} {ls : List Value} {g : mG} : WP m_X0_copyFrom Q 67 ls [] g = Q none g := E_ret lo_X0_copyFrom rfl
/-! KilnPermits$Kiln.due()I -/
def m_X0_due : List (Nat × mT) := [(0, tD (f_al 0 1)),
  (1, tD (f_gI 1 2)),
  (4, tD (f_al 0 1)),
  (5, tD (f_gI 1 4)),
  (8, tD (f_b2 fun x y => x + y)),
  (9, tD (f_al 0 1)),
  (10, tD (f_gI 1 5)),
  (13, tD (f_b2 fun x y => x + y)),
  (14, tR f_iret)]
abbrev w_X0_due : mS := wm m_X0_due 1 0
set_option maxRecDepth 100000 in
theorem lo_X0_due : locs_ok m_X0_due := List.forall_mem_cons.mpr ⟨loc_D mo_al,
  List.forall_mem_cons.mpr ⟨loc_D mo_gI,
  List.forall_mem_cons.mpr ⟨loc_D mo_al,
  List.forall_mem_cons.mpr ⟨loc_D mo_gI,
  List.forall_mem_cons.mpr ⟨loc_D mo_b2,
  List.forall_mem_cons.mpr ⟨loc_D mo_al,
  List.forall_mem_cons.mpr ⟨loc_D mo_gI,
  List.forall_mem_cons.mpr ⟨loc_D mo_b2,
  List.forall_mem_cons.mpr ⟨loc_R,
  fun _ h => absurd h List.not_mem_nil⟩⟩⟩⟩⟩⟩⟩⟩⟩
set_option maxRecDepth 100000 in
theorem sm_X0_due : SM yX0_due cX0_due 1 (some .int) 1 w_X0_due := SM_of' RX0 "due" rfl rfl (by decide) (by decide) (by decide) lo_X0_due (List.forall_mem_cons.mpr ⟨STP.r mo_al (q_aload_n dX0_due_0 rfl),
  List.forall_mem_cons.mpr ⟨STP.r mo_gI (q_gI ⟨by decide, by decide⟩ (by decide) rfl kf_X0_25 dX0_due_1),
  List.forall_mem_cons.mpr ⟨STP.r mo_al (q_aload_n dX0_due_4 rfl),
  List.forall_mem_cons.mpr ⟨STP.r mo_gI (q_gI ⟨by decide, by decide⟩ (by decide) rfl kf_X0_31 dX0_due_5),
  List.forall_mem_cons.mpr ⟨STP.r mo_b2 (q_iadd dX0_due_8),
  List.forall_mem_cons.mpr ⟨STP.r mo_al (q_aload_n dX0_due_9 rfl),
  List.forall_mem_cons.mpr ⟨STP.r mo_gI (q_gI ⟨by decide, by decide⟩ (by decide) rfl kf_X0_34 dX0_due_10),
  List.forall_mem_cons.mpr ⟨STP.r mo_b2 (q_iadd dX0_due_13),
  List.forall_mem_cons.mpr ⟨r_iret dX0_due_14,
  fun _ h => absurd h List.not_mem_nil⟩⟩⟩⟩⟩⟩⟩⟩⟩)
theorem e_X0_due_0 {Q : mQ} {st : List Value} {g : mG} {x : Nat} : WP m_X0_due Q 0 [.ref x] st g = WP m_X0_due Q 1 [.ref x] (.ref x :: st) g := E_al (i := 0) (n := 1) lo_X0_due rfl rfl
theorem e_X0_due_1 {Q : mQ} {ls st : List Value} {g : mG} {a : Nat} : WP m_X0_due Q 1 ls (.ref a :: st) g = (gK g a = 1 ∧ WP m_X0_due Q 4 ls (.int (gI g a 2) :: st) g) := E_gI lo_X0_due rfl
theorem e_X0_due_4 {Q : mQ} {st : List Value} {g : mG} {x : Nat} : WP m_X0_due Q 4 [.ref x] st g = WP m_X0_due Q 5 [.ref x] (.ref x :: st) g := E_al (i := 0) (n := 1) lo_X0_due rfl rfl
theorem e_X0_due_5 {Q : mQ} {ls st : List Value} {g : mG} {a : Nat} : WP m_X0_due Q 5 ls (.ref a :: st) g = (gK g a = 1 ∧ WP m_X0_due Q 8 ls (.int (gI g a 4) :: st) g) := E_gI lo_X0_due rfl
theorem e_X0_due_8 {Q : mQ} {ls st : List Value} {g : mG} {x y : Int32} : WP m_X0_due Q 8 ls (.int y :: .int x :: st) g = WP m_X0_due Q 9 ls (.int (x + y) :: st) g := E_b2 (f := fun x y => x + y) lo_X0_due rfl
theorem e_X0_due_9 {Q : mQ} {st : List Value} {g : mG} {x : Nat} : WP m_X0_due Q 9 [.ref x] st g = WP m_X0_due Q 10 [.ref x] (.ref x :: st) g := E_al (i := 0) (n := 1) lo_X0_due rfl rfl
theorem e_X0_due_10 {Q : mQ} {ls st : List Value} {g : mG} {a : Nat} : WP m_X0_due Q 10 ls (.ref a :: st) g = (gK g a = 1 ∧ WP m_X0_due Q 13 ls (.int (gI g a 5) :: st) g) := E_gI lo_X0_due rfl
theorem e_X0_due_13 {Q : mQ} {ls st : List Value} {g : mG} {x y : Int32} : WP m_X0_due Q 13 ls (.int y :: .int x :: st) g = WP m_X0_due Q 14 ls (.int (x + y) :: st) g := E_b2 (f := fun x y => x + y) lo_X0_due rfl
theorem e_X0_due_14 {Q : mQ} {ls : List Value} {g : mG} {v : Int32} : WP m_X0_due Q 14 ls [.int v] g = Q (some (.int v)) g := E_iret lo_X0_due rfl
/-! KilnPermits$Kiln.startYear(I)V -/
def m_X0_startYear : List (Nat × mT) := [(0, tD (f_al 0 1)),
  (1, tD (f_il 1 1)),
  (2, tD (f_pI 1 5)),
  (5, tD (f_al 0 1)),
  (6, tD (f_ic (nI 0) 1)),
  (7, tD (f_pI 1 1)),
  (10, tD (f_al 0 1)),
  (11, tD (f_ic (nI 0) 1)),
  (12, tD (f_pI 1 2)),
  (15, tD (f_al 0 1)),
  (16, tD (f_ic (nI 0) 1)),
  (17, tD (f_pI 1 3)),
  (20, tD (f_al 0 1)),
  (21, tD (f_ic (nI 0) 1)),
  (22, tD (f_pI 1 4)),
  (25, tR f_ret)]
abbrev w_X0_startYear : mS := wm m_X0_startYear 2 0
set_option maxRecDepth 100000 in
theorem lo_X0_startYear : locs_ok m_X0_startYear := List.forall_mem_cons.mpr ⟨loc_D mo_al,
  List.forall_mem_cons.mpr ⟨loc_D mo_il,
  List.forall_mem_cons.mpr ⟨loc_D mo_pI,
  List.forall_mem_cons.mpr ⟨loc_D mo_al,
  List.forall_mem_cons.mpr ⟨loc_D mo_ic,
  List.forall_mem_cons.mpr ⟨loc_D mo_pI,
  List.forall_mem_cons.mpr ⟨loc_D mo_al,
  List.forall_mem_cons.mpr ⟨loc_D mo_ic,
  List.forall_mem_cons.mpr ⟨loc_D mo_pI,
  List.forall_mem_cons.mpr ⟨loc_D mo_al,
  List.forall_mem_cons.mpr ⟨loc_D mo_ic,
  List.forall_mem_cons.mpr ⟨loc_D mo_pI,
  List.forall_mem_cons.mpr ⟨loc_D mo_al,
  List.forall_mem_cons.mpr ⟨loc_D mo_ic,
  List.forall_mem_cons.mpr ⟨loc_D mo_pI,
  List.forall_mem_cons.mpr ⟨loc_R,
  fun _ h => absurd h List.not_mem_nil⟩⟩⟩⟩⟩⟩⟩⟩⟩⟩⟩⟩⟩⟩⟩⟩
set_option maxRecDepth 100000 in
theorem sm_X0_startYear : SM yX0_startYear cX0_startYear 2 none 1 w_X0_startYear := SM_of' RX0 "startYear" rfl rfl (by decide) (by decide) (by decide) lo_X0_startYear (List.forall_mem_cons.mpr ⟨STP.r mo_al (q_aload_n dX0_startYear_0 rfl),
  List.forall_mem_cons.mpr ⟨STP.r mo_il (q_iload_n dX0_startYear_1 rfl),
  List.forall_mem_cons.mpr ⟨STP.r mo_pI (q_pI ⟨by decide, by decide⟩ (by decide) rfl rfl kf_X0_34 dX0_startYear_2),
  List.forall_mem_cons.mpr ⟨STP.r mo_al (q_aload_n dX0_startYear_5 rfl),
  List.forall_mem_cons.mpr ⟨STP.r mo_ic (q_iconst dX0_startYear_6 (by decide)),
  List.forall_mem_cons.mpr ⟨STP.r mo_pI (q_pI ⟨by decide, by decide⟩ (by decide) rfl rfl kf_X0_22 dX0_startYear_7),
  List.forall_mem_cons.mpr ⟨STP.r mo_al (q_aload_n dX0_startYear_10 rfl),
  List.forall_mem_cons.mpr ⟨STP.r mo_ic (q_iconst dX0_startYear_11 (by decide)),
  List.forall_mem_cons.mpr ⟨STP.r mo_pI (q_pI ⟨by decide, by decide⟩ (by decide) rfl rfl kf_X0_25 dX0_startYear_12),
  List.forall_mem_cons.mpr ⟨STP.r mo_al (q_aload_n dX0_startYear_15 rfl),
  List.forall_mem_cons.mpr ⟨STP.r mo_ic (q_iconst dX0_startYear_16 (by decide)),
  List.forall_mem_cons.mpr ⟨STP.r mo_pI (q_pI ⟨by decide, by decide⟩ (by decide) rfl rfl kf_X0_28 dX0_startYear_17),
  List.forall_mem_cons.mpr ⟨STP.r mo_al (q_aload_n dX0_startYear_20 rfl),
  List.forall_mem_cons.mpr ⟨STP.r mo_ic (q_iconst dX0_startYear_21 (by decide)),
  List.forall_mem_cons.mpr ⟨STP.r mo_pI (q_pI ⟨by decide, by decide⟩ (by decide) rfl rfl kf_X0_31 dX0_startYear_22),
  List.forall_mem_cons.mpr ⟨r_ret dX0_startYear_25,
  fun _ h => absurd h List.not_mem_nil⟩⟩⟩⟩⟩⟩⟩⟩⟩⟩⟩⟩⟩⟩⟩⟩)
theorem e_X0_startYear_0 {Q : mQ} {l1 : Value} {st : List Value} {g : mG} {x : Nat} : WP m_X0_startYear Q 0 [.ref x, l1] st g = WP m_X0_startYear Q 1 [.ref x, l1] (.ref x :: st) g := E_al (i := 0) (n := 1) lo_X0_startYear rfl rfl
theorem e_X0_startYear_1 {Q : mQ} {l0 : Value} {st : List Value} {g : mG} {x : Int32} : WP m_X0_startYear Q 1 [l0, .int x] st g = WP m_X0_startYear Q 2 [l0, .int x] (.int x :: st) g := E_il (i := 1) (n := 1) lo_X0_startYear rfl rfl
theorem e_X0_startYear_2 {Q : mQ} {ls st : List Value} {g : mG} {a : Nat} {v : Int32} : WP m_X0_startYear Q 2 ls (.int v :: .ref a :: st) g = (gK g a = 1 ∧ WP m_X0_startYear Q 5 ls st (pI g a 5 v)) := E_pI lo_X0_startYear rfl
theorem e_X0_startYear_5 {Q : mQ} {l1 : Value} {st : List Value} {g : mG} {x : Nat} : WP m_X0_startYear Q 5 [.ref x, l1] st g = WP m_X0_startYear Q 6 [.ref x, l1] (.ref x :: st) g := E_al (i := 0) (n := 1) lo_X0_startYear rfl rfl
theorem e_X0_startYear_6 {Q : mQ} {ls st : List Value} {g : mG} : WP m_X0_startYear Q 6 ls st g = WP m_X0_startYear Q 7 ls (.int (nI 0) :: st) g := E_ic (v := nI 0) (n := 1) lo_X0_startYear rfl
theorem e_X0_startYear_7 {Q : mQ} {ls st : List Value} {g : mG} {a : Nat} {v : Int32} : WP m_X0_startYear Q 7 ls (.int v :: .ref a :: st) g = (gK g a = 1 ∧ WP m_X0_startYear Q 10 ls st (pI g a 1 v)) := E_pI lo_X0_startYear rfl
theorem e_X0_startYear_10 {Q : mQ} {l1 : Value} {st : List Value} {g : mG} {x : Nat} : WP m_X0_startYear Q 10 [.ref x, l1] st g = WP m_X0_startYear Q 11 [.ref x, l1] (.ref x :: st) g := E_al (i := 0) (n := 1) lo_X0_startYear rfl rfl
theorem e_X0_startYear_11 {Q : mQ} {ls st : List Value} {g : mG} : WP m_X0_startYear Q 11 ls st g = WP m_X0_startYear Q 12 ls (.int (nI 0) :: st) g := E_ic (v := nI 0) (n := 1) lo_X0_startYear rfl
theorem e_X0_startYear_12 {Q : mQ} {ls st : List Value} {g : mG} {a : Nat} {v : Int32} : WP m_X0_startYear Q 12 ls (.int v :: .ref a :: st) g = (gK g a = 1 ∧ WP m_X0_startYear Q 15 ls st (pI g a 2 v)) := E_pI lo_X0_startYear rfl
theorem e_X0_startYear_15 {Q : mQ} {l1 : Value} {st : List Value} {g : mG} {x : Nat} : WP m_X0_startYear Q 15 [.ref x, l1] st g = WP m_X0_startYear Q 16 [.ref x, l1] (.ref x :: st) g := E_al (i := 0) (n := 1) lo_X0_startYear rfl rfl
theorem e_X0_startYear_16 {Q : mQ} {ls st : List Value} {g : mG} : WP m_X0_startYear Q 16 ls st g = WP m_X0_startYear Q 17 ls (.int (nI 0) :: st) g := E_ic (v := nI 0) (n := 1) lo_X0_startYear rfl
theorem e_X0_startYear_17 {Q : mQ} {ls st : List Value} {g : mG} {a : Nat} {v : Int32} : WP m_X0_startYear Q 17 ls (.int v :: .ref a :: st) g = (gK g a = 1 ∧ WP m_X0_startYear Q 20 ls st (pI g a 3 v)) := E_pI lo_X0_startYear rfl
theorem e_X0_startYear_20 {Q : mQ} {l1 : Value} {st : List Value} {g : mG} {x : Nat} : WP m_X0_startYear Q 20 [.ref x, l1] st g = WP m_X0_startYear Q 21 [.ref x, l1] (.ref x :: st) g := E_al (i := 0) (n := 1) lo_X0_startYear rfl rfl
theorem e_X0_startYear_21 {Q : mQ} {ls st : List Value} {g : mG} : WP m_X0_startYear Q 21 ls st g = WP m_X0_startYear Q 22 ls (.int (nI 0) :: st) g := E_ic (v := nI 0) (n := 1) lo_X0_startYear rfl
theorem e_X0_startYear_22 {Q : mQ} {ls st : List Value} {g : mG} {a : Nat} {v : Int32} : WP m_X0_startYear Q 22 ls (.int v :: .ref a :: st) g = (gK g a = 1 ∧ WP m_X0_startYear Q 25 ls st (pI g a 4 v)) := E_pI lo_X0_startYear rfl
theorem e_X0_startYear_25 {Q : mQ} {ls : List Value} {g : mG} : WP m_X0_startYear Q 25 ls [] g = Q none g := E_ret lo_X0_startYear rfl
/-! KilnPermits$Order.heldBack()I -/
def m_X2_heldBack : List (Nat × mT) := [(0, tD (f_al 0 1)),
  (1, tD (f_gI 3 1)),
  (4, tI1 (fun x => x = 0) 19),
  (7, tD (f_al 0 1)),
  (8, tD (f_gI 3 3)),
  (11, tD (f_al 0 1)),
  (12, tD (f_gI 3 4)),
  (15, tD (f_b2 fun x y => x * y)),
  (16, tD (f_goto 20)),
  (19, tD (f_ic (nI 0) 1)),
  (20, tR f_iret)]
abbrev w_X2_heldBack : mS := wm m_X2_heldBack 1 0
set_option maxRecDepth 100000 in
theorem lo_X2_heldBack : locs_ok m_X2_heldBack := List.forall_mem_cons.mpr ⟨loc_D mo_al,
  List.forall_mem_cons.mpr ⟨loc_D mo_gI,
  List.forall_mem_cons.mpr ⟨loc_I1,
  List.forall_mem_cons.mpr ⟨loc_D mo_al,
  List.forall_mem_cons.mpr ⟨loc_D mo_gI,
  List.forall_mem_cons.mpr ⟨loc_D mo_al,
  List.forall_mem_cons.mpr ⟨loc_D mo_gI,
  List.forall_mem_cons.mpr ⟨loc_D mo_b2,
  List.forall_mem_cons.mpr ⟨loc_D mo_goto,
  List.forall_mem_cons.mpr ⟨loc_D mo_ic,
  List.forall_mem_cons.mpr ⟨loc_R,
  fun _ h => absurd h List.not_mem_nil⟩⟩⟩⟩⟩⟩⟩⟩⟩⟩⟩
set_option maxRecDepth 100000 in
theorem sm_X2_heldBack : SM yX2_heldBack cX2_heldBack 1 (some .int) 1 w_X2_heldBack := SM_of' RX2 "heldBack" rfl rfl (by decide) (by decide) (by decide) lo_X2_heldBack (List.forall_mem_cons.mpr ⟨STP.r mo_al (q_aload_n dX2_heldBack_0 rfl),
  List.forall_mem_cons.mpr ⟨STP.r mo_gI (q_gI ⟨by decide, by decide⟩ (by decide) rfl kf_X2_20 dX2_heldBack_1),
  List.forall_mem_cons.mpr ⟨(q_if_eq dX2_heldBack_4 (by decide)).r,
  List.forall_mem_cons.mpr ⟨STP.r mo_al (q_aload_n dX2_heldBack_7 rfl),
  List.forall_mem_cons.mpr ⟨STP.r mo_gI (q_gI ⟨by decide, by decide⟩ (by decide) rfl kf_X2_27 dX2_heldBack_8),
  List.forall_mem_cons.mpr ⟨STP.r mo_al (q_aload_n dX2_heldBack_11 rfl),
  List.forall_mem_cons.mpr ⟨STP.r mo_gI (q_gI ⟨by decide, by decide⟩ (by decide) rfl kf_X2_30 dX2_heldBack_12),
  List.forall_mem_cons.mpr ⟨STP.r mo_b2 (q_imul dX2_heldBack_15),
  List.forall_mem_cons.mpr ⟨STP.r mo_goto (q_goto dX2_heldBack_16 (by decide)),
  List.forall_mem_cons.mpr ⟨STP.r mo_ic (q_iconst dX2_heldBack_19 (by decide)),
  List.forall_mem_cons.mpr ⟨r_iret dX2_heldBack_20,
  fun _ h => absurd h List.not_mem_nil⟩⟩⟩⟩⟩⟩⟩⟩⟩⟩⟩)
theorem e_X2_heldBack_0 {Q : mQ} {st : List Value} {g : mG} {x : Nat} : WP m_X2_heldBack Q 0 [.ref x] st g = WP m_X2_heldBack Q 1 [.ref x] (.ref x :: st) g := E_al (i := 0) (n := 1) lo_X2_heldBack rfl rfl
theorem e_X2_heldBack_1 {Q : mQ} {ls st : List Value} {g : mG} {a : Nat} : WP m_X2_heldBack Q 1 ls (.ref a :: st) g = (gK g a = 3 ∧ WP m_X2_heldBack Q 4 ls (.int (gI g a 1) :: st) g) := E_gI lo_X2_heldBack rfl
theorem e_X2_heldBack_4 {Q : mQ} {ls st : List Value} {g : mG} {x : Int32} : WP m_X2_heldBack Q 4 ls (.int x :: st) g = ((x = 0 → WP m_X2_heldBack Q 19 ls st g) ∧ (¬ (x = 0) → WP m_X2_heldBack Q 7 ls st g)) := E_I1 (c := fun x => x = 0) (t := 19) lo_X2_heldBack rfl
theorem e_X2_heldBack_7 {Q : mQ} {st : List Value} {g : mG} {x : Nat} : WP m_X2_heldBack Q 7 [.ref x] st g = WP m_X2_heldBack Q 8 [.ref x] (.ref x :: st) g := E_al (i := 0) (n := 1) lo_X2_heldBack rfl rfl
theorem e_X2_heldBack_8 {Q : mQ} {ls st : List Value} {g : mG} {a : Nat} : WP m_X2_heldBack Q 8 ls (.ref a :: st) g = (gK g a = 3 ∧ WP m_X2_heldBack Q 11 ls (.int (gI g a 3) :: st) g) := E_gI lo_X2_heldBack rfl
theorem e_X2_heldBack_11 {Q : mQ} {st : List Value} {g : mG} {x : Nat} : WP m_X2_heldBack Q 11 [.ref x] st g = WP m_X2_heldBack Q 12 [.ref x] (.ref x :: st) g := E_al (i := 0) (n := 1) lo_X2_heldBack rfl rfl
theorem e_X2_heldBack_12 {Q : mQ} {ls st : List Value} {g : mG} {a : Nat} : WP m_X2_heldBack Q 12 ls (.ref a :: st) g = (gK g a = 3 ∧ WP m_X2_heldBack Q 15 ls (.int (gI g a 4) :: st) g) := E_gI lo_X2_heldBack rfl
theorem e_X2_heldBack_15 {Q : mQ} {ls st : List Value} {g : mG} {x y : Int32} : WP m_X2_heldBack Q 15 ls (.int y :: .int x :: st) g = WP m_X2_heldBack Q 16 ls (.int (x * y) :: st) g := E_b2 (f := fun x y => x * y) lo_X2_heldBack rfl
theorem e_X2_heldBack_16 {Q : mQ} {ls st : List Value} {g : mG} : WP m_X2_heldBack Q 16 ls st g = WP m_X2_heldBack Q 20 ls st g := E_goto lo_X2_heldBack rfl
theorem e_X2_heldBack_19 {Q : mQ} {ls st : List Value} {g : mG} : WP m_X2_heldBack Q 19 ls st g = WP m_X2_heldBack Q 20 ls (.int (nI 0) :: st) g := E_ic (v := nI 0) (n := 1) lo_X2_heldBack rfl
theorem e_X2_heldBack_20 {Q : mQ} {ls : List Value} {g : mG} {v : Int32} : WP m_X2_heldBack Q 20 ls [.int v] g = Q (some (.int v)) g := E_iret lo_X2_heldBack rfl
/-! KilnPermits$Order.standsAs(Z)Z -/
def m_X2_standsAs : List (Nat × mT) := [(0, tD (f_al 0 1)),
  (1, tD (f_gI 3 3)),
  (4, tI1 (fun x => x ≤ 0) 19),
  (7, tD (f_al 0 1)),
  (8, tD (f_gI 3 1)),
  (11, tD (f_il 1 1)),
  (12, tI2 (fun x y => ¬ x = y) 19),
  (15, tD (f_ic (nI 1) 1)),
  (16, tD (f_goto 20)),
  (19, tD (f_ic (nI 0) 1)),
  (20, tR f_zret)]
abbrev w_X2_standsAs : mS := wm m_X2_standsAs 2 0
set_option maxRecDepth 100000 in
theorem lo_X2_standsAs : locs_ok m_X2_standsAs := List.forall_mem_cons.mpr ⟨loc_D mo_al,
  List.forall_mem_cons.mpr ⟨loc_D mo_gI,
  List.forall_mem_cons.mpr ⟨loc_I1,
  List.forall_mem_cons.mpr ⟨loc_D mo_al,
  List.forall_mem_cons.mpr ⟨loc_D mo_gI,
  List.forall_mem_cons.mpr ⟨loc_D mo_il,
  List.forall_mem_cons.mpr ⟨loc_I2,
  List.forall_mem_cons.mpr ⟨loc_D mo_ic,
  List.forall_mem_cons.mpr ⟨loc_D mo_goto,
  List.forall_mem_cons.mpr ⟨loc_D mo_ic,
  List.forall_mem_cons.mpr ⟨loc_R,
  fun _ h => absurd h List.not_mem_nil⟩⟩⟩⟩⟩⟩⟩⟩⟩⟩⟩
set_option maxRecDepth 100000 in
theorem sm_X2_standsAs : SM yX2_standsAs cX2_standsAs 2 (some .boolean) 1 w_X2_standsAs := SM_of' RX2 "standsAs" rfl rfl (by decide) (by decide) (by decide) lo_X2_standsAs (List.forall_mem_cons.mpr ⟨STP.r mo_al (q_aload_n dX2_standsAs_0 rfl),
  List.forall_mem_cons.mpr ⟨STP.r mo_gI (q_gI ⟨by decide, by decide⟩ (by decide) rfl kf_X2_27 dX2_standsAs_1),
  List.forall_mem_cons.mpr ⟨(q_if_le dX2_standsAs_4 (by decide)).r,
  List.forall_mem_cons.mpr ⟨STP.r mo_al (q_aload_n dX2_standsAs_7 rfl),
  List.forall_mem_cons.mpr ⟨STP.r mo_gI (q_gI ⟨by decide, by decide⟩ (by decide) rfl kf_X2_20 dX2_standsAs_8),
  List.forall_mem_cons.mpr ⟨STP.r mo_il (q_iload_n dX2_standsAs_11 rfl),
  List.forall_mem_cons.mpr ⟨(q_ic_ne dX2_standsAs_12 (by decide)).r,
  List.forall_mem_cons.mpr ⟨STP.r mo_ic (q_iconst dX2_standsAs_15 (by decide)),
  List.forall_mem_cons.mpr ⟨STP.r mo_goto (q_goto dX2_standsAs_16 (by decide)),
  List.forall_mem_cons.mpr ⟨STP.r mo_ic (q_iconst dX2_standsAs_19 (by decide)),
  List.forall_mem_cons.mpr ⟨r_zret dX2_standsAs_20,
  fun _ h => absurd h List.not_mem_nil⟩⟩⟩⟩⟩⟩⟩⟩⟩⟩⟩)
theorem e_X2_standsAs_0 {Q : mQ} {l1 : Value} {st : List Value} {g : mG} {x : Nat} : WP m_X2_standsAs Q 0 [.ref x, l1] st g = WP m_X2_standsAs Q 1 [.ref x, l1] (.ref x :: st) g := E_al (i := 0) (n := 1) lo_X2_standsAs rfl rfl
theorem e_X2_standsAs_1 {Q : mQ} {ls st : List Value} {g : mG} {a : Nat} : WP m_X2_standsAs Q 1 ls (.ref a :: st) g = (gK g a = 3 ∧ WP m_X2_standsAs Q 4 ls (.int (gI g a 3) :: st) g) := E_gI lo_X2_standsAs rfl
theorem e_X2_standsAs_4 {Q : mQ} {ls st : List Value} {g : mG} {x : Int32} : WP m_X2_standsAs Q 4 ls (.int x :: st) g = ((x ≤ 0 → WP m_X2_standsAs Q 19 ls st g) ∧ (¬ (x ≤ 0) → WP m_X2_standsAs Q 7 ls st g)) := E_I1 (c := fun x => x ≤ 0) (t := 19) lo_X2_standsAs rfl
theorem e_X2_standsAs_7 {Q : mQ} {l1 : Value} {st : List Value} {g : mG} {x : Nat} : WP m_X2_standsAs Q 7 [.ref x, l1] st g = WP m_X2_standsAs Q 8 [.ref x, l1] (.ref x :: st) g := E_al (i := 0) (n := 1) lo_X2_standsAs rfl rfl
theorem e_X2_standsAs_8 {Q : mQ} {ls st : List Value} {g : mG} {a : Nat} : WP m_X2_standsAs Q 8 ls (.ref a :: st) g = (gK g a = 3 ∧ WP m_X2_standsAs Q 11 ls (.int (gI g a 1) :: st) g) := E_gI lo_X2_standsAs rfl
theorem e_X2_standsAs_11 {Q : mQ} {l0 : Value} {st : List Value} {g : mG} {x : Int32} : WP m_X2_standsAs Q 11 [l0, .int x] st g = WP m_X2_standsAs Q 12 [l0, .int x] (.int x :: st) g := E_il (i := 1) (n := 1) lo_X2_standsAs rfl rfl
theorem e_X2_standsAs_12 {Q : mQ} {ls st : List Value} {g : mG} {x y : Int32} : WP m_X2_standsAs Q 12 ls (.int y :: .int x :: st) g = ((¬ x = y → WP m_X2_standsAs Q 19 ls st g) ∧ (¬ (¬ x = y) → WP m_X2_standsAs Q 15 ls st g)) := E_I2 (c := fun x y => ¬ x = y) (t := 19) lo_X2_standsAs rfl
theorem e_X2_standsAs_15 {Q : mQ} {ls st : List Value} {g : mG} : WP m_X2_standsAs Q 15 ls st g = WP m_X2_standsAs Q 16 ls (.int (nI 1) :: st) g := E_ic (v := nI 1) (n := 1) lo_X2_standsAs rfl
theorem e_X2_standsAs_16 {Q : mQ} {ls st : List Value} {g : mG} : WP m_X2_standsAs Q 16 ls st g = WP m_X2_standsAs Q 20 ls st g := E_goto lo_X2_standsAs rfl
theorem e_X2_standsAs_19 {Q : mQ} {ls st : List Value} {g : mG} : WP m_X2_standsAs Q 19 ls st g = WP m_X2_standsAs Q 20 ls (.int (nI 0) :: st) g := E_ic (v := nI 0) (n := 1) lo_X2_standsAs rfl
theorem e_X2_standsAs_20 {Q : mQ} {ls : List Value} {g : mG} {v : Int32} : WP m_X2_standsAs Q 20 ls [.int v] g = ((v = 0 ∨ v = 1) ∧ Q (some (.int v)) g) := E_zret lo_X2_standsAs rfl
/-! KilnPermits$Order.isBetterThan(LKilnPermits$Order;)Z -/
def m_X2_isBetterThan : List (Nat × mT) := [(0, tD (f_al 0 1)),
  (1, tD (f_gI 3 4)),
  (4, tD (f_al 1 1)),
  (5, tD (f_gI 3 4)),
  (8, tI2 (fun x y => ¬ x = y) 28),
  (11, tD (f_al 0 1)),
  (12, tD (f_gI 3 0)),
  (15, tD (f_al 1 1)),
  (16, tD (f_gI 3 0)),
  (19, tI2 (fun x y => y ≤ x) 26),
  (22, tD (f_ic (nI 1) 1)),
  (23, tD (f_goto 27)),
  (26, tD (f_ic (nI 0) 1)),
  (27, tR f_zret),
  (28, tD (f_al 0 1)),
  (29, tD (f_gI 3 1)),
  (32, tI1 (fun x => x = 0) 54),
  (35, tD (f_al 0 1)),
  (36, tD (f_gI 3 4)),
  (39, tD (f_al 1 1)),
  (40, tD (f_gI 3 4)),
  (43, tI2 (fun x y => x ≤ y) 50),
  (46, tD (f_ic (nI 1) 1)),
  (47, tD (f_goto 70)),
  (50, tD (f_ic (nI 0) 1)),
  (51, tD (f_goto 70)),
  (54, tD (f_al 0 1)),
  (55, tD (f_gI 3 4)),
  (58, tD (f_al 1 1)),
  (59, tD (f_gI 3 4)),
  (62, tI2 (fun x y => y ≤ x) 69),
  (65, tD (f_ic (nI 1) 1)),
  (66, tD (f_goto 70)),
  (69, tD (f_ic (nI 0) 1)),
  (70, tR f_zret)]
abbrev w_X2_isBetterThan : mS := wm m_X2_isBetterThan 2 0
set_option maxRecDepth 100000 in
theorem lo_X2_isBetterThan : locs_ok m_X2_isBetterThan := List.forall_mem_cons.mpr ⟨loc_D mo_al,
  List.forall_mem_cons.mpr ⟨loc_D mo_gI,
  List.forall_mem_cons.mpr ⟨loc_D mo_al,
  List.forall_mem_cons.mpr ⟨loc_D mo_gI,
  List.forall_mem_cons.mpr ⟨loc_I2,
  List.forall_mem_cons.mpr ⟨loc_D mo_al,
  List.forall_mem_cons.mpr ⟨loc_D mo_gI,
  List.forall_mem_cons.mpr ⟨loc_D mo_al,
  List.forall_mem_cons.mpr ⟨loc_D mo_gI,
  List.forall_mem_cons.mpr ⟨loc_I2,
  List.forall_mem_cons.mpr ⟨loc_D mo_ic,
  List.forall_mem_cons.mpr ⟨loc_D mo_goto,
  List.forall_mem_cons.mpr ⟨loc_D mo_ic,
  List.forall_mem_cons.mpr ⟨loc_R,
  List.forall_mem_cons.mpr ⟨loc_D mo_al,
  List.forall_mem_cons.mpr ⟨loc_D mo_gI,
  List.forall_mem_cons.mpr ⟨loc_I1,
  List.forall_mem_cons.mpr ⟨loc_D mo_al,
  List.forall_mem_cons.mpr ⟨loc_D mo_gI,
  List.forall_mem_cons.mpr ⟨loc_D mo_al,
  List.forall_mem_cons.mpr ⟨loc_D mo_gI,
  List.forall_mem_cons.mpr ⟨loc_I2,
  List.forall_mem_cons.mpr ⟨loc_D mo_ic,
  List.forall_mem_cons.mpr ⟨loc_D mo_goto,
  List.forall_mem_cons.mpr ⟨loc_D mo_ic,
  List.forall_mem_cons.mpr ⟨loc_D mo_goto,
  List.forall_mem_cons.mpr ⟨loc_D mo_al,
  List.forall_mem_cons.mpr ⟨loc_D mo_gI,
  List.forall_mem_cons.mpr ⟨loc_D mo_al,
  List.forall_mem_cons.mpr ⟨loc_D mo_gI,
  List.forall_mem_cons.mpr ⟨loc_I2,
  List.forall_mem_cons.mpr ⟨loc_D mo_ic,
  List.forall_mem_cons.mpr ⟨loc_D mo_goto,
  List.forall_mem_cons.mpr ⟨loc_D mo_ic,
  List.forall_mem_cons.mpr ⟨loc_R,
  fun _ h => absurd h List.not_mem_nil⟩⟩⟩⟩⟩⟩⟩⟩⟩⟩⟩⟩⟩⟩⟩⟩⟩⟩⟩⟩⟩⟩⟩⟩⟩⟩⟩⟩⟩⟩⟩⟩⟩⟩⟩
set_option maxRecDepth 100000 in
theorem sm_X2_isBetterThan : SM yX2_isBetterThan cX2_isBetterThan 2 (some .boolean) 1 w_X2_isBetterThan := SM_of' RX2 "isBetterThan" rfl rfl (by decide) (by decide) (by decide) lo_X2_isBetterThan (List.forall_mem_cons.mpr ⟨STP.r mo_al (q_aload_n dX2_isBetterThan_0 rfl),
  List.forall_mem_cons.mpr ⟨STP.r mo_gI (q_gI ⟨by decide, by decide⟩ (by decide) rfl kf_X2_30 dX2_isBetterThan_1),
  List.forall_mem_cons.mpr ⟨STP.r mo_al (q_aload_n dX2_isBetterThan_4 rfl),
  List.forall_mem_cons.mpr ⟨STP.r mo_gI (q_gI ⟨by decide, by decide⟩ (by decide) rfl kf_X2_30 dX2_isBetterThan_5),
  List.forall_mem_cons.mpr ⟨(q_ic_ne dX2_isBetterThan_8 (by decide)).r,
  List.forall_mem_cons.mpr ⟨STP.r mo_al (q_aload_n dX2_isBetterThan_11 rfl),
  List.forall_mem_cons.mpr ⟨STP.r mo_gI (q_gI ⟨by decide, by decide⟩ (by decide) rfl kf_X2_16 dX2_isBetterThan_12),
  List.forall_mem_cons.mpr ⟨STP.r mo_al (q_aload_n dX2_isBetterThan_15 rfl),
  List.forall_mem_cons.mpr ⟨STP.r mo_gI (q_gI ⟨by decide, by decide⟩ (by decide) rfl kf_X2_16 dX2_isBetterThan_16),
  List.forall_mem_cons.mpr ⟨(q_ic_ge dX2_isBetterThan_19 (by decide)).r,
  List.forall_mem_cons.mpr ⟨STP.r mo_ic (q_iconst dX2_isBetterThan_22 (by decide)),
  List.forall_mem_cons.mpr ⟨STP.r mo_goto (q_goto dX2_isBetterThan_23 (by decide)),
  List.forall_mem_cons.mpr ⟨STP.r mo_ic (q_iconst dX2_isBetterThan_26 (by decide)),
  List.forall_mem_cons.mpr ⟨r_zret dX2_isBetterThan_27,
  List.forall_mem_cons.mpr ⟨STP.r mo_al (q_aload_n dX2_isBetterThan_28 rfl),
  List.forall_mem_cons.mpr ⟨STP.r mo_gI (q_gI ⟨by decide, by decide⟩ (by decide) rfl kf_X2_20 dX2_isBetterThan_29),
  List.forall_mem_cons.mpr ⟨(q_if_eq dX2_isBetterThan_32 (by decide)).r,
  List.forall_mem_cons.mpr ⟨STP.r mo_al (q_aload_n dX2_isBetterThan_35 rfl),
  List.forall_mem_cons.mpr ⟨STP.r mo_gI (q_gI ⟨by decide, by decide⟩ (by decide) rfl kf_X2_30 dX2_isBetterThan_36),
  List.forall_mem_cons.mpr ⟨STP.r mo_al (q_aload_n dX2_isBetterThan_39 rfl),
  List.forall_mem_cons.mpr ⟨STP.r mo_gI (q_gI ⟨by decide, by decide⟩ (by decide) rfl kf_X2_30 dX2_isBetterThan_40),
  List.forall_mem_cons.mpr ⟨(q_ic_le dX2_isBetterThan_43 (by decide)).r,
  List.forall_mem_cons.mpr ⟨STP.r mo_ic (q_iconst dX2_isBetterThan_46 (by decide)),
  List.forall_mem_cons.mpr ⟨STP.r mo_goto (q_goto dX2_isBetterThan_47 (by decide)),
  List.forall_mem_cons.mpr ⟨STP.r mo_ic (q_iconst dX2_isBetterThan_50 (by decide)),
  List.forall_mem_cons.mpr ⟨STP.r mo_goto (q_goto dX2_isBetterThan_51 (by decide)),
  List.forall_mem_cons.mpr ⟨STP.r mo_al (q_aload_n dX2_isBetterThan_54 rfl),
  List.forall_mem_cons.mpr ⟨STP.r mo_gI (q_gI ⟨by decide, by decide⟩ (by decide) rfl kf_X2_30 dX2_isBetterThan_55),
  List.forall_mem_cons.mpr ⟨STP.r mo_al (q_aload_n dX2_isBetterThan_58 rfl),
  List.forall_mem_cons.mpr ⟨STP.r mo_gI (q_gI ⟨by decide, by decide⟩ (by decide) rfl kf_X2_30 dX2_isBetterThan_59),
  List.forall_mem_cons.mpr ⟨(q_ic_ge dX2_isBetterThan_62 (by decide)).r,
  List.forall_mem_cons.mpr ⟨STP.r mo_ic (q_iconst dX2_isBetterThan_65 (by decide)),
  List.forall_mem_cons.mpr ⟨STP.r mo_goto (q_goto dX2_isBetterThan_66 (by decide)),
  List.forall_mem_cons.mpr ⟨STP.r mo_ic (q_iconst dX2_isBetterThan_69 (by decide)),
  List.forall_mem_cons.mpr ⟨r_zret dX2_isBetterThan_70,
  fun _ h => absurd h List.not_mem_nil⟩⟩⟩⟩⟩⟩⟩⟩⟩⟩⟩⟩⟩⟩⟩⟩⟩⟩⟩⟩⟩⟩⟩⟩⟩⟩⟩⟩⟩⟩⟩⟩⟩⟩⟩)
theorem e_X2_isBetterThan_0 {Q : mQ} {l1 : Value} {st : List Value} {g : mG} {x : Nat} : WP m_X2_isBetterThan Q 0 [.ref x, l1] st g = WP m_X2_isBetterThan Q 1 [.ref x, l1] (.ref x :: st) g := E_al (i := 0) (n := 1) lo_X2_isBetterThan rfl rfl
theorem e_X2_isBetterThan_1 {Q : mQ} {ls st : List Value} {g : mG} {a : Nat} : WP m_X2_isBetterThan Q 1 ls (.ref a :: st) g = (gK g a = 3 ∧ WP m_X2_isBetterThan Q 4 ls (.int (gI g a 4) :: st) g) := E_gI lo_X2_isBetterThan rfl
theorem e_X2_isBetterThan_4 {Q : mQ} {l0 : Value} {st : List Value} {g : mG} {x : Nat} : WP m_X2_isBetterThan Q 4 [l0, .ref x] st g = WP m_X2_isBetterThan Q 5 [l0, .ref x] (.ref x :: st) g := E_al (i := 1) (n := 1) lo_X2_isBetterThan rfl rfl
theorem e_X2_isBetterThan_4n {Q : mQ} {l0 : Value} {st : List Value} {g : mG} : WP m_X2_isBetterThan Q 4 [l0, .null] st g = WP m_X2_isBetterThan Q 5 [l0, .null] (.null :: st) g := E_aln (i := 1) (n := 1) lo_X2_isBetterThan rfl rfl
theorem e_X2_isBetterThan_5 {Q : mQ} {ls st : List Value} {g : mG} {a : Nat} : WP m_X2_isBetterThan Q 5 ls (.ref a :: st) g = (gK g a = 3 ∧ WP m_X2_isBetterThan Q 8 ls (.int (gI g a 4) :: st) g) := E_gI lo_X2_isBetterThan rfl
theorem e_X2_isBetterThan_8 {Q : mQ} {ls st : List Value} {g : mG} {x y : Int32} : WP m_X2_isBetterThan Q 8 ls (.int y :: .int x :: st) g = ((¬ x = y → WP m_X2_isBetterThan Q 28 ls st g) ∧ (¬ (¬ x = y) → WP m_X2_isBetterThan Q 11 ls st g)) := E_I2 (c := fun x y => ¬ x = y) (t := 28) lo_X2_isBetterThan rfl
theorem e_X2_isBetterThan_11 {Q : mQ} {l1 : Value} {st : List Value} {g : mG} {x : Nat} : WP m_X2_isBetterThan Q 11 [.ref x, l1] st g = WP m_X2_isBetterThan Q 12 [.ref x, l1] (.ref x :: st) g := E_al (i := 0) (n := 1) lo_X2_isBetterThan rfl rfl
theorem e_X2_isBetterThan_12 {Q : mQ} {ls st : List Value} {g : mG} {a : Nat} : WP m_X2_isBetterThan Q 12 ls (.ref a :: st) g = (gK g a = 3 ∧ WP m_X2_isBetterThan Q 15 ls (.int (gI g a 0) :: st) g) := E_gI lo_X2_isBetterThan rfl
theorem e_X2_isBetterThan_15 {Q : mQ} {l0 : Value} {st : List Value} {g : mG} {x : Nat} : WP m_X2_isBetterThan Q 15 [l0, .ref x] st g = WP m_X2_isBetterThan Q 16 [l0, .ref x] (.ref x :: st) g := E_al (i := 1) (n := 1) lo_X2_isBetterThan rfl rfl
theorem e_X2_isBetterThan_15n {Q : mQ} {l0 : Value} {st : List Value} {g : mG} : WP m_X2_isBetterThan Q 15 [l0, .null] st g = WP m_X2_isBetterThan Q 16 [l0, .null] (.null :: st) g := E_aln (i := 1) (n := 1) lo_X2_isBetterThan rfl rfl
theorem e_X2_isBetterThan_16 {Q : mQ} {ls st : List Value} {g : mG} {a : Nat} : WP m_X2_isBetterThan Q 16 ls (.ref a :: st) g = (gK g a = 3 ∧ WP m_X2_isBetterThan Q 19 ls (.int (gI g a 0) :: st) g) := E_gI lo_X2_isBetterThan rfl
theorem e_X2_isBetterThan_19 {Q : mQ} {ls st : List Value} {g : mG} {x y : Int32} : WP m_X2_isBetterThan Q 19 ls (.int y :: .int x :: st) g = ((y ≤ x → WP m_X2_isBetterThan Q 26 ls st g) ∧ (¬ (y ≤ x) → WP m_X2_isBetterThan Q 22 ls st g)) := E_I2 (c := fun x y => y ≤ x) (t := 26) lo_X2_isBetterThan rfl
theorem e_X2_isBetterThan_22 {Q : mQ} {ls st : List Value} {g : mG} : WP m_X2_isBetterThan Q 22 ls st g = WP m_X2_isBetterThan Q 23 ls (.int (nI 1) :: st) g := E_ic (v := nI 1) (n := 1) lo_X2_isBetterThan rfl
theorem e_X2_isBetterThan_23 {Q : mQ} {ls st : List Value} {g : mG} : WP m_X2_isBetterThan Q 23 ls st g = WP m_X2_isBetterThan Q 27 ls st g := E_goto lo_X2_isBetterThan rfl
theorem e_X2_isBetterThan_26 {Q : mQ} {ls st : List Value} {g : mG} : WP m_X2_isBetterThan Q 26 ls st g = WP m_X2_isBetterThan Q 27 ls (.int (nI 0) :: st) g := E_ic (v := nI 0) (n := 1) lo_X2_isBetterThan rfl
theorem e_X2_isBetterThan_27 {Q : mQ} {ls : List Value} {g : mG} {v : Int32} : WP m_X2_isBetterThan Q 27 ls [.int v] g = ((v = 0 ∨ v = 1) ∧ Q (some (.int v)) g) := E_zret lo_X2_isBetterThan rfl
theorem e_X2_isBetterThan_28 {Q : mQ} {l1 : Value} {st : List Value} {g : mG} {x : Nat} : WP m_X2_isBetterThan Q 28 [.ref x, l1] st g = WP m_X2_isBetterThan Q 29 [.ref x, l1] (.ref x :: st) g := E_al (i := 0) (n := 1) lo_X2_isBetterThan rfl rfl
theorem e_X2_isBetterThan_29 {Q : mQ} {ls st : List Value} {g : mG} {a : Nat} : WP m_X2_isBetterThan Q 29 ls (.ref a :: st) g = (gK g a = 3 ∧ WP m_X2_isBetterThan Q 32 ls (.int (gI g a 1) :: st) g) := E_gI lo_X2_isBetterThan rfl
theorem e_X2_isBetterThan_32 {Q : mQ} {ls st : List Value} {g : mG} {x : Int32} : WP m_X2_isBetterThan Q 32 ls (.int x :: st) g = ((x = 0 → WP m_X2_isBetterThan Q 54 ls st g) ∧ (¬ (x = 0) → WP m_X2_isBetterThan Q 35 ls st g)) := E_I1 (c := fun x => x = 0) (t := 54) lo_X2_isBetterThan rfl
theorem e_X2_isBetterThan_35 {Q : mQ} {l1 : Value} {st : List Value} {g : mG} {x : Nat} : WP m_X2_isBetterThan Q 35 [.ref x, l1] st g = WP m_X2_isBetterThan Q 36 [.ref x, l1] (.ref x :: st) g := E_al (i := 0) (n := 1) lo_X2_isBetterThan rfl rfl
theorem e_X2_isBetterThan_36 {Q : mQ} {ls st : List Value} {g : mG} {a : Nat} : WP m_X2_isBetterThan Q 36 ls (.ref a :: st) g = (gK g a = 3 ∧ WP m_X2_isBetterThan Q 39 ls (.int (gI g a 4) :: st) g) := E_gI lo_X2_isBetterThan rfl
theorem e_X2_isBetterThan_39 {Q : mQ} {l0 : Value} {st : List Value} {g : mG} {x : Nat} : WP m_X2_isBetterThan Q 39 [l0, .ref x] st g = WP m_X2_isBetterThan Q 40 [l0, .ref x] (.ref x :: st) g := E_al (i := 1) (n := 1) lo_X2_isBetterThan rfl rfl
theorem e_X2_isBetterThan_39n {Q : mQ} {l0 : Value} {st : List Value} {g : mG} : WP m_X2_isBetterThan Q 39 [l0, .null] st g = WP m_X2_isBetterThan Q 40 [l0, .null] (.null :: st) g := E_aln (i := 1) (n := 1) lo_X2_isBetterThan rfl rfl
theorem e_X2_isBetterThan_40 {Q : mQ} {ls st : List Value} {g : mG} {a : Nat} : WP m_X2_isBetterThan Q 40 ls (.ref a :: st) g = (gK g a = 3 ∧ WP m_X2_isBetterThan Q 43 ls (.int (gI g a 4) :: st) g) := E_gI lo_X2_isBetterThan rfl
theorem e_X2_isBetterThan_43 {Q : mQ} {ls st : List Value} {g : mG} {x y : Int32} : WP m_X2_isBetterThan Q 43 ls (.int y :: .int x :: st) g = ((x ≤ y → WP m_X2_isBetterThan Q 50 ls st g) ∧ (¬ (x ≤ y) → WP m_X2_isBetterThan Q 46 ls st g)) := E_I2 (c := fun x y => x ≤ y) (t := 50) lo_X2_isBetterThan rfl
theorem e_X2_isBetterThan_46 {Q : mQ} {ls st : List Value} {g : mG} : WP m_X2_isBetterThan Q 46 ls st g = WP m_X2_isBetterThan Q 47 ls (.int (nI 1) :: st) g := E_ic (v := nI 1) (n := 1) lo_X2_isBetterThan rfl
theorem e_X2_isBetterThan_47 {Q : mQ} {ls st : List Value} {g : mG} : WP m_X2_isBetterThan Q 47 ls st g = WP m_X2_isBetterThan Q 70 ls st g := E_goto lo_X2_isBetterThan rfl
theorem e_X2_isBetterThan_50 {Q : mQ} {ls st : List Value} {g : mG} : WP m_X2_isBetterThan Q 50 ls st g = WP m_X2_isBetterThan Q 51 ls (.int (nI 0) :: st) g := E_ic (v := nI 0) (n := 1) lo_X2_isBetterThan rfl
theorem e_X2_isBetterThan_51 {Q : mQ} {ls st : List Value} {g : mG} : WP m_X2_isBetterThan Q 51 ls st g = WP m_X2_isBetterThan Q 70 ls st g := E_goto lo_X2_isBetterThan rfl
theorem e_X2_isBetterThan_54 {Q : mQ} {l1 : Value} {st : List Value} {g : mG} {x : Nat} : WP m_X2_isBetterThan Q 54 [.ref x, l1] st g = WP m_X2_isBetterThan Q 55 [.ref x, l1] (.ref x :: st) g := E_al (i := 0) (n := 1) lo_X2_isBetterThan rfl rfl
theorem e_X2_isBetterThan_55 {Q : mQ} {ls st : List Value} {g : mG} {a : Nat} : WP m_X2_isBetterThan Q 55 ls (.ref a :: st) g = (gK g a = 3 ∧ WP m_X2_isBetterThan Q 58 ls (.int (gI g a 4) :: st) g) := E_gI lo_X2_isBetterThan rfl
theorem e_X2_isBetterThan_58 {Q : mQ} {l0 : Value} {st : List Value} {g : mG} {x : Nat} : WP m_X2_isBetterThan Q 58 [l0, .ref x] st g = WP m_X2_isBetterThan Q 59 [l0, .ref x] (.ref x :: st) g := E_al (i := 1) (n := 1) lo_X2_isBetterThan rfl rfl
theorem e_X2_isBetterThan_58n {Q : mQ} {l0 : Value} {st : List Value} {g : mG} : WP m_X2_isBetterThan Q 58 [l0, .null] st g = WP m_X2_isBetterThan Q 59 [l0, .null] (.null :: st) g := E_aln (i := 1) (n := 1) lo_X2_isBetterThan rfl rfl
theorem e_X2_isBetterThan_59 {Q : mQ} {ls st : List Value} {g : mG} {a : Nat} : WP m_X2_isBetterThan Q 59 ls (.ref a :: st) g = (gK g a = 3 ∧ WP m_X2_isBetterThan Q 62 ls (.int (gI g a 4) :: st) g) := E_gI lo_X2_isBetterThan rfl
theorem e_X2_isBetterThan_62 {Q : mQ} {ls st : List Value} {g : mG} {x y : Int32} : WP m_X2_isBetterThan Q 62 ls (.int y :: .int x :: st) g = ((y ≤ x → WP m_X2_isBetterThan Q 69 ls st g) ∧ (¬ (y ≤ x) → WP m_X2_isBetterThan Q 65 ls st g)) := E_I2 (c := fun x y => y ≤ x) (t := 69) lo_X2_isBetterThan rfl
theorem e_X2_isBetterThan_65 {Q : mQ} {ls st : List Value} {g : mG} : WP m_X2_isBetterThan Q 65 ls st g = WP m_X2_isBetterThan Q 66 ls (.int (nI 1) :: st) g := E_ic (v := nI 1) (n := 1) lo_X2_isBetterThan rfl
theorem e_X2_isBetterThan_66 {Q : mQ} {ls st : List Value} {g : mG} : WP m_X2_isBetterThan Q 66 ls st g = WP m_X2_isBetterThan Q 70 ls st g := E_goto lo_X2_isBetterThan rfl
theorem e_X2_isBetterThan_69 {Q : mQ} {ls st : List Value} {g : mG} : WP m_X2_isBetterThan Q 69 ls st g = WP m_X2_isBetterThan Q 70 ls (.int (nI 0) :: st) g := E_ic (v := nI 0) (n := 1) lo_X2_isBetterThan rfl
theorem e_X2_isBetterThan_70 {Q : mQ} {ls : List Value} {g : mG} {v : Int32} : WP m_X2_isBetterThan Q 70 ls [.int v] g = ((v = 0 ∨ v = 1) ∧ Q (some (.int v)) g) := E_zret lo_X2_isBetterThan rfl
/-! KilnPermits$Order.isMetAt(I)Z -/
def m_X2_isMetAt : List (Nat × mT) := [(0, tD (f_al 0 1)),
  (1, tD (f_gI 3 1)),
  (4, tI1 (fun x => x = 0) 23),
  (7, tD (f_al 0 1)),
  (8, tD (f_gI 3 4)),
  (11, tD (f_il 1 1)),
  (12, tI2 (fun x y => x < y) 19),
  (15, tD (f_ic (nI 1) 1)),
  (16, tD (f_goto 36)),
  (19, tD (f_ic (nI 0) 1)),
  (20, tD (f_goto 36)),
  (23, tD (f_al 0 1)),
  (24, tD (f_gI 3 4)),
  (27, tD (f_il 1 1)),
  (28, tI2 (fun x y => y < x) 35),
  (31, tD (f_ic (nI 1) 1)),
  (32, tD (f_goto 36)),
  (35, tD (f_ic (nI 0) 1)),
  (36, tR f_zret)]
abbrev w_X2_isMetAt : mS := wm m_X2_isMetAt 2 0
set_option maxRecDepth 100000 in
theorem lo_X2_isMetAt : locs_ok m_X2_isMetAt := List.forall_mem_cons.mpr ⟨loc_D mo_al,
  List.forall_mem_cons.mpr ⟨loc_D mo_gI,
  List.forall_mem_cons.mpr ⟨loc_I1,
  List.forall_mem_cons.mpr ⟨loc_D mo_al,
  List.forall_mem_cons.mpr ⟨loc_D mo_gI,
  List.forall_mem_cons.mpr ⟨loc_D mo_il,
  List.forall_mem_cons.mpr ⟨loc_I2,
  List.forall_mem_cons.mpr ⟨loc_D mo_ic,
  List.forall_mem_cons.mpr ⟨loc_D mo_goto,
  List.forall_mem_cons.mpr ⟨loc_D mo_ic,
  List.forall_mem_cons.mpr ⟨loc_D mo_goto,
  List.forall_mem_cons.mpr ⟨loc_D mo_al,
  List.forall_mem_cons.mpr ⟨loc_D mo_gI,
  List.forall_mem_cons.mpr ⟨loc_D mo_il,
  List.forall_mem_cons.mpr ⟨loc_I2,
  List.forall_mem_cons.mpr ⟨loc_D mo_ic,
  List.forall_mem_cons.mpr ⟨loc_D mo_goto,
  List.forall_mem_cons.mpr ⟨loc_D mo_ic,
  List.forall_mem_cons.mpr ⟨loc_R,
  fun _ h => absurd h List.not_mem_nil⟩⟩⟩⟩⟩⟩⟩⟩⟩⟩⟩⟩⟩⟩⟩⟩⟩⟩⟩
set_option maxRecDepth 100000 in
theorem sm_X2_isMetAt : SM yX2_isMetAt cX2_isMetAt 2 (some .boolean) 1 w_X2_isMetAt := SM_of' RX2 "isMetAt" rfl rfl (by decide) (by decide) (by decide) lo_X2_isMetAt (List.forall_mem_cons.mpr ⟨STP.r mo_al (q_aload_n dX2_isMetAt_0 rfl),
  List.forall_mem_cons.mpr ⟨STP.r mo_gI (q_gI ⟨by decide, by decide⟩ (by decide) rfl kf_X2_20 dX2_isMetAt_1),
  List.forall_mem_cons.mpr ⟨(q_if_eq dX2_isMetAt_4 (by decide)).r,
  List.forall_mem_cons.mpr ⟨STP.r mo_al (q_aload_n dX2_isMetAt_7 rfl),
  List.forall_mem_cons.mpr ⟨STP.r mo_gI (q_gI ⟨by decide, by decide⟩ (by decide) rfl kf_X2_30 dX2_isMetAt_8),
  List.forall_mem_cons.mpr ⟨STP.r mo_il (q_iload_n dX2_isMetAt_11 rfl),
  List.forall_mem_cons.mpr ⟨(q_ic_lt dX2_isMetAt_12 (by decide)).r,
  List.forall_mem_cons.mpr ⟨STP.r mo_ic (q_iconst dX2_isMetAt_15 (by decide)),
  List.forall_mem_cons.mpr ⟨STP.r mo_goto (q_goto dX2_isMetAt_16 (by decide)),
  List.forall_mem_cons.mpr ⟨STP.r mo_ic (q_iconst dX2_isMetAt_19 (by decide)),
  List.forall_mem_cons.mpr ⟨STP.r mo_goto (q_goto dX2_isMetAt_20 (by decide)),
  List.forall_mem_cons.mpr ⟨STP.r mo_al (q_aload_n dX2_isMetAt_23 rfl),
  List.forall_mem_cons.mpr ⟨STP.r mo_gI (q_gI ⟨by decide, by decide⟩ (by decide) rfl kf_X2_30 dX2_isMetAt_24),
  List.forall_mem_cons.mpr ⟨STP.r mo_il (q_iload_n dX2_isMetAt_27 rfl),
  List.forall_mem_cons.mpr ⟨(q_ic_gt dX2_isMetAt_28 (by decide)).r,
  List.forall_mem_cons.mpr ⟨STP.r mo_ic (q_iconst dX2_isMetAt_31 (by decide)),
  List.forall_mem_cons.mpr ⟨STP.r mo_goto (q_goto dX2_isMetAt_32 (by decide)),
  List.forall_mem_cons.mpr ⟨STP.r mo_ic (q_iconst dX2_isMetAt_35 (by decide)),
  List.forall_mem_cons.mpr ⟨r_zret dX2_isMetAt_36,
  fun _ h => absurd h List.not_mem_nil⟩⟩⟩⟩⟩⟩⟩⟩⟩⟩⟩⟩⟩⟩⟩⟩⟩⟩⟩)
theorem e_X2_isMetAt_0 {Q : mQ} {l1 : Value} {st : List Value} {g : mG} {x : Nat} : WP m_X2_isMetAt Q 0 [.ref x, l1] st g = WP m_X2_isMetAt Q 1 [.ref x, l1] (.ref x :: st) g := E_al (i := 0) (n := 1) lo_X2_isMetAt rfl rfl
theorem e_X2_isMetAt_1 {Q : mQ} {ls st : List Value} {g : mG} {a : Nat} : WP m_X2_isMetAt Q 1 ls (.ref a :: st) g = (gK g a = 3 ∧ WP m_X2_isMetAt Q 4 ls (.int (gI g a 1) :: st) g) := E_gI lo_X2_isMetAt rfl
theorem e_X2_isMetAt_4 {Q : mQ} {ls st : List Value} {g : mG} {x : Int32} : WP m_X2_isMetAt Q 4 ls (.int x :: st) g = ((x = 0 → WP m_X2_isMetAt Q 23 ls st g) ∧ (¬ (x = 0) → WP m_X2_isMetAt Q 7 ls st g)) := E_I1 (c := fun x => x = 0) (t := 23) lo_X2_isMetAt rfl
theorem e_X2_isMetAt_7 {Q : mQ} {l1 : Value} {st : List Value} {g : mG} {x : Nat} : WP m_X2_isMetAt Q 7 [.ref x, l1] st g = WP m_X2_isMetAt Q 8 [.ref x, l1] (.ref x :: st) g := E_al (i := 0) (n := 1) lo_X2_isMetAt rfl rfl
theorem e_X2_isMetAt_8 {Q : mQ} {ls st : List Value} {g : mG} {a : Nat} : WP m_X2_isMetAt Q 8 ls (.ref a :: st) g = (gK g a = 3 ∧ WP m_X2_isMetAt Q 11 ls (.int (gI g a 4) :: st) g) := E_gI lo_X2_isMetAt rfl
theorem e_X2_isMetAt_11 {Q : mQ} {l0 : Value} {st : List Value} {g : mG} {x : Int32} : WP m_X2_isMetAt Q 11 [l0, .int x] st g = WP m_X2_isMetAt Q 12 [l0, .int x] (.int x :: st) g := E_il (i := 1) (n := 1) lo_X2_isMetAt rfl rfl
theorem e_X2_isMetAt_12 {Q : mQ} {ls st : List Value} {g : mG} {x y : Int32} : WP m_X2_isMetAt Q 12 ls (.int y :: .int x :: st) g = ((x < y → WP m_X2_isMetAt Q 19 ls st g) ∧ (¬ (x < y) → WP m_X2_isMetAt Q 15 ls st g)) := E_I2 (c := fun x y => x < y) (t := 19) lo_X2_isMetAt rfl
theorem e_X2_isMetAt_15 {Q : mQ} {ls st : List Value} {g : mG} : WP m_X2_isMetAt Q 15 ls st g = WP m_X2_isMetAt Q 16 ls (.int (nI 1) :: st) g := E_ic (v := nI 1) (n := 1) lo_X2_isMetAt rfl
theorem e_X2_isMetAt_16 {Q : mQ} {ls st : List Value} {g : mG} : WP m_X2_isMetAt Q 16 ls st g = WP m_X2_isMetAt Q 36 ls st g := E_goto lo_X2_isMetAt rfl
theorem e_X2_isMetAt_19 {Q : mQ} {ls st : List Value} {g : mG} : WP m_X2_isMetAt Q 19 ls st g = WP m_X2_isMetAt Q 20 ls (.int (nI 0) :: st) g := E_ic (v := nI 0) (n := 1) lo_X2_isMetAt rfl
theorem e_X2_isMetAt_20 {Q : mQ} {ls st : List Value} {g : mG} : WP m_X2_isMetAt Q 20 ls st g = WP m_X2_isMetAt Q 36 ls st g := E_goto lo_X2_isMetAt rfl
theorem e_X2_isMetAt_23 {Q : mQ} {l1 : Value} {st : List Value} {g : mG} {x : Nat} : WP m_X2_isMetAt Q 23 [.ref x, l1] st g = WP m_X2_isMetAt Q 24 [.ref x, l1] (.ref x :: st) g := E_al (i := 0) (n := 1) lo_X2_isMetAt rfl rfl
theorem e_X2_isMetAt_24 {Q : mQ} {ls st : List Value} {g : mG} {a : Nat} : WP m_X2_isMetAt Q 24 ls (.ref a :: st) g = (gK g a = 3 ∧ WP m_X2_isMetAt Q 27 ls (.int (gI g a 4) :: st) g) := E_gI lo_X2_isMetAt rfl
theorem e_X2_isMetAt_27 {Q : mQ} {l0 : Value} {st : List Value} {g : mG} {x : Int32} : WP m_X2_isMetAt Q 27 [l0, .int x] st g = WP m_X2_isMetAt Q 28 [l0, .int x] (.int x :: st) g := E_il (i := 1) (n := 1) lo_X2_isMetAt rfl rfl
theorem e_X2_isMetAt_28 {Q : mQ} {ls st : List Value} {g : mG} {x y : Int32} : WP m_X2_isMetAt Q 28 ls (.int y :: .int x :: st) g = ((y < x → WP m_X2_isMetAt Q 35 ls st g) ∧ (¬ (y < x) → WP m_X2_isMetAt Q 31 ls st g)) := E_I2 (c := fun x y => y < x) (t := 35) lo_X2_isMetAt rfl
theorem e_X2_isMetAt_31 {Q : mQ} {ls st : List Value} {g : mG} : WP m_X2_isMetAt Q 31 ls st g = WP m_X2_isMetAt Q 32 ls (.int (nI 1) :: st) g := E_ic (v := nI 1) (n := 1) lo_X2_isMetAt rfl
theorem e_X2_isMetAt_32 {Q : mQ} {ls st : List Value} {g : mG} : WP m_X2_isMetAt Q 32 ls st g = WP m_X2_isMetAt Q 36 ls st g := E_goto lo_X2_isMetAt rfl
theorem e_X2_isMetAt_35 {Q : mQ} {ls st : List Value} {g : mG} : WP m_X2_isMetAt Q 35 ls st g = WP m_X2_isMetAt Q 36 ls (.int (nI 0) :: st) g := E_ic (v := nI 0) (n := 1) lo_X2_isMetAt rfl
theorem e_X2_isMetAt_36 {Q : mQ} {ls : List Value} {g : mG} {v : Int32} : WP m_X2_isMetAt Q 36 ls [.int v] g = ((v = 0 ∨ v = 1) ∧ Q (some (.int v)) g) := E_zret lo_X2_isMetAt rfl
/-! KilnPermits$Kiln.lack()I -/
def m_X0_lack : List (Nat × mT) := [(0, tD (f_ic (nI 0) 1)),
  (1, tD (f_al 0 1)),
  (2, tC w_X0_due 1 1),
  (5, tD (f_al 0 1)),
  (6, tD (f_gI 1 3)),
  (9, tD (f_b2 fun x y => x - y)),
  (10, tD (f_al 0 1)),
  (11, tD (f_gR 1 7)),
  (14, tD (f_gI 5 2)),
  (17, tD (f_b2 fun x y => x - y)),
  (18, tD (f_max)),
  (21, tR f_iret)]
abbrev w_X0_lack : mS := wm m_X0_lack 1 0
set_option maxRecDepth 100000 in
theorem lo_X0_lack : locs_ok m_X0_lack := List.forall_mem_cons.mpr ⟨loc_D mo_ic,
  List.forall_mem_cons.mpr ⟨loc_D mo_al,
  List.forall_mem_cons.mpr ⟨loc_C sm_X0_due.1,
  List.forall_mem_cons.mpr ⟨loc_D mo_al,
  List.forall_mem_cons.mpr ⟨loc_D mo_gI,
  List.forall_mem_cons.mpr ⟨loc_D mo_b2,
  List.forall_mem_cons.mpr ⟨loc_D mo_al,
  List.forall_mem_cons.mpr ⟨loc_D mo_gR,
  List.forall_mem_cons.mpr ⟨loc_D mo_gI,
  List.forall_mem_cons.mpr ⟨loc_D mo_b2,
  List.forall_mem_cons.mpr ⟨loc_D mo_max,
  List.forall_mem_cons.mpr ⟨loc_R,
  fun _ h => absurd h List.not_mem_nil⟩⟩⟩⟩⟩⟩⟩⟩⟩⟩⟩⟩
set_option maxRecDepth 100000 in
theorem sm_X0_lack : SM yX0_lack cX0_lack 1 (some .int) 2 w_X0_lack := SM_of' RX0 "lack" rfl rfl (by decide) (by decide) (by decide) lo_X0_lack (List.forall_mem_cons.mpr ⟨STP.r mo_ic (q_iconst dX0_lack_0 (by decide)),
  List.forall_mem_cons.mpr ⟨STP.r mo_al (q_aload_n dX0_lack_1 rfl),
  List.forall_mem_cons.mpr ⟨(snd_CV sm_X0_due ⟨by decide, by decide⟩ rfl km_X0_44 kt_X0_due kv_X0_due rfl ki_X0 kx_X0_due ⟨by decide, by decide, by decide +kernel⟩ (by decide) (by decide) dX0_lack_2).r,
  List.forall_mem_cons.mpr ⟨STP.r mo_al (q_aload_n dX0_lack_5 rfl),
  List.forall_mem_cons.mpr ⟨STP.r mo_gI (q_gI ⟨by decide, by decide⟩ (by decide) rfl kf_X0_28 dX0_lack_6),
  List.forall_mem_cons.mpr ⟨STP.r mo_b2 (q_isub dX0_lack_9),
  List.forall_mem_cons.mpr ⟨STP.r mo_al (q_aload_n dX0_lack_10 rfl),
  List.forall_mem_cons.mpr ⟨STP.r mo_gR (q_gR ⟨by decide, by decide⟩ (by decide) rfl (by decide) kf_X0_18 dX0_lack_11),
  List.forall_mem_cons.mpr ⟨STP.r mo_gI (q_gI ⟨by decide, by decide⟩ (by decide) rfl kf_X0_48 dX0_lack_14),
  List.forall_mem_cons.mpr ⟨STP.r mo_b2 (q_isub dX0_lack_17),
  List.forall_mem_cons.mpr ⟨STP.r mo_max (q_max km_X0_51 kz_maxs kz_mi kz_maxc dX0_lack_18),
  List.forall_mem_cons.mpr ⟨r_iret dX0_lack_21,
  fun _ h => absurd h List.not_mem_nil⟩⟩⟩⟩⟩⟩⟩⟩⟩⟩⟩⟩)
theorem e_X0_lack_0 {Q : mQ} {ls st : List Value} {g : mG} : WP m_X0_lack Q 0 ls st g = WP m_X0_lack Q 1 ls (.int (nI 0) :: st) g := E_ic (v := nI 0) (n := 1) lo_X0_lack rfl
theorem e_X0_lack_1 {Q : mQ} {st : List Value} {g : mG} {x : Nat} : WP m_X0_lack Q 1 [.ref x] st g = WP m_X0_lack Q 2 [.ref x] (.ref x :: st) g := E_al (i := 0) (n := 1) lo_X0_lack rfl rfl
theorem e_X0_lack_2 {Q : mQ} {ls st : List Value} {g : mG} {b : Nat} : WP m_X0_lack Q 2 ls (.ref b :: st) g = (st.length ≤ 4 ∧ gK g b = 1 ∧ stbs g ls ∧ stbs g st ∧ w_X0_due [.ref b] g (fun v g' => WP m_X0_lack Q 5 ls (v.toList ++ st) g')) := E_CV (ar := [.ref b]) lo_X0_lack rfl rfl rfl (by decide)
theorem e_X0_lack_5 {Q : mQ} {st : List Value} {g : mG} {x : Nat} : WP m_X0_lack Q 5 [.ref x] st g = WP m_X0_lack Q 6 [.ref x] (.ref x :: st) g := E_al (i := 0) (n := 1) lo_X0_lack rfl rfl
theorem e_X0_lack_6 {Q : mQ} {ls st : List Value} {g : mG} {a : Nat} : WP m_X0_lack Q 6 ls (.ref a :: st) g = (gK g a = 1 ∧ WP m_X0_lack Q 9 ls (.int (gI g a 3) :: st) g) := E_gI lo_X0_lack rfl
theorem e_X0_lack_9 {Q : mQ} {ls st : List Value} {g : mG} {x y : Int32} : WP m_X0_lack Q 9 ls (.int y :: .int x :: st) g = WP m_X0_lack Q 10 ls (.int (x - y) :: st) g := E_b2 (f := fun x y => x - y) lo_X0_lack rfl
theorem e_X0_lack_10 {Q : mQ} {st : List Value} {g : mG} {x : Nat} : WP m_X0_lack Q 10 [.ref x] st g = WP m_X0_lack Q 11 [.ref x] (.ref x :: st) g := E_al (i := 0) (n := 1) lo_X0_lack rfl rfl
theorem e_X0_lack_11 {Q : mQ} {ls st : List Value} {g : mG} {a : Nat} : WP m_X0_lack Q 11 ls (.ref a :: st) g = ((gK g a = 1 ∧ gR g a 7 ≠ 0) ∧ WP m_X0_lack Q 14 ls (.ref (gR g a 7) :: st) g) := E_gR lo_X0_lack rfl
theorem e_X0_lack_14 {Q : mQ} {ls st : List Value} {g : mG} {a : Nat} : WP m_X0_lack Q 14 ls (.ref a :: st) g = (gK g a = 5 ∧ WP m_X0_lack Q 17 ls (.int (gI g a 2) :: st) g) := E_gI lo_X0_lack rfl
theorem e_X0_lack_17 {Q : mQ} {ls st : List Value} {g : mG} {x y : Int32} : WP m_X0_lack Q 17 ls (.int y :: .int x :: st) g = WP m_X0_lack Q 18 ls (.int (x - y) :: st) g := E_b2 (f := fun x y => x - y) lo_X0_lack rfl
theorem e_X0_lack_18 {Q : mQ} {ls st : List Value} {g : mG} {x y : Int32} : WP m_X0_lack Q 18 ls (.int y :: .int x :: st) g = (st.length ≤ 4 ∧ WP m_X0_lack Q 21 ls (.int (if x < y then y else x) :: st) g) := E_max lo_X0_lack rfl
theorem e_X0_lack_21 {Q : mQ} {ls : List Value} {g : mG} {v : Int32} : WP m_X0_lack Q 21 ls [.int v] g = Q (some (.int v)) g := E_iret lo_X0_lack rfl
/-! KilnPermits$Order.<init>()V -/
def m_X2_init : List (Nat × mT) := [(0, tD (f_al 0 1)),
  (1, tD (f_obj)),
  (4, tD (f_al 0 1)),
  (5, tE (f_new 5)),
  (8, tD (f_dup)),
  (9, tC w_X4_init 5 1),
  (12, tD (f_pR 3 5)),
  (15, tR f_ret)]
abbrev w_X2_init : mS := wm m_X2_init 1 0
set_option maxRecDepth 100000 in
theorem lo_X2_init : locs_ok m_X2_init := List.forall_mem_cons.mpr ⟨loc_D mo_al,
  List.forall_mem_cons.mpr ⟨loc_D mo_obj,
  List.forall_mem_cons.mpr ⟨loc_D mo_al,
  List.forall_mem_cons.mpr ⟨loc_E (fun _ => mo_new),
  List.forall_mem_cons.mpr ⟨loc_D mo_dup,
  List.forall_mem_cons.mpr ⟨loc_C sm_X4_init.1,
  List.forall_mem_cons.mpr ⟨loc_D mo_pR,
  List.forall_mem_cons.mpr ⟨loc_R,
  fun _ h => absurd h List.not_mem_nil⟩⟩⟩⟩⟩⟩⟩⟩
set_option maxRecDepth 100000 in
theorem sm_X2_init : SM yX2_init cX2_init 1 none 2 w_X2_init := SM_of' RX2 "<init>" rfl rfl (by decide) (by decide) (by decide) lo_X2_init (List.forall_mem_cons.mpr ⟨STP.r mo_al (q_aload_n dX2_init_0 rfl),
  List.forall_mem_cons.mpr ⟨STP.r mo_obj (q_obj km_X2_1 kz_oi kz_oc dX2_init_1),
  List.forall_mem_cons.mpr ⟨STP.r mo_al (q_aload_n dX2_init_4 rfl),
  List.forall_mem_cons.mpr ⟨STE.r (fun _ => mo_new) (q_new ⟨by decide, by decide⟩ kc_X2_7 kn_X4 ki_X4 dX2_init_5),
  List.forall_mem_cons.mpr ⟨STP.r mo_dup (q_dup dX2_init_8),
  List.forall_mem_cons.mpr ⟨(snd_CIN sm_X4_init (by decide) rfl km_X2_9 kt_X4_init ki_X4 kx_X4_init ⟨by decide, by decide, by decide +kernel⟩ (by decide) (by decide) dX2_init_9).r,
  List.forall_mem_cons.mpr ⟨STP.r mo_pR (q_pR ⟨by decide, by decide⟩ (by decide) rfl (by decide) (Or.inr ⟨rfl, rfl⟩) (fun _ => rfl) kf_X2_10 dX2_init_12),
  List.forall_mem_cons.mpr ⟨r_ret dX2_init_15,
  fun _ h => absurd h List.not_mem_nil⟩⟩⟩⟩⟩⟩⟩⟩)
theorem e_X2_init_0 {Q : mQ} {st : List Value} {g : mG} {x : Nat} : WP m_X2_init Q 0 [.ref x] st g = WP m_X2_init Q 1 [.ref x] (.ref x :: st) g := E_al (i := 0) (n := 1) lo_X2_init rfl rfl
theorem e_X2_init_1 {Q : mQ} {ls st : List Value} {g : mG} {x : Nat} : WP m_X2_init Q 1 ls (.ref x :: st) g = (st.length ≤ 4 ∧ WP m_X2_init Q 4 ls st g) := E_obj lo_X2_init rfl
theorem e_X2_init_4 {Q : mQ} {st : List Value} {g : mG} {x : Nat} : WP m_X2_init Q 4 [.ref x] st g = WP m_X2_init Q 5 [.ref x] (.ref x :: st) g := E_al (i := 0) (n := 1) lo_X2_init rfl rfl
theorem e_X2_init_5 {Q : mQ} {ls st : List Value} {g : mG} : WP m_X2_init Q 5 ls st g = ∃ a : Nat, (frsh g a ∧ (5 = 5 → gK g (a + 1) = 0) ∧ alv g ls ∧ alv g st) ∧ WP m_X2_init Q 8 ls (.ref a :: st) (nw g a 5 0 (xn 5) (fun _ => 0)) := E_new lo_X2_init rfl
theorem e_X2_init_8 {Q : mQ} {ls st : List Value} {g : mG} {x : Value} : WP m_X2_init Q 8 ls (x :: st) g = (cat1 x ∧ WP m_X2_init Q 9 ls (x :: x :: st) g) := E_dup lo_X2_init rfl
theorem e_X2_init_9 {Q : mQ} {ls st : List Value} {g : mG} {b : Nat} : WP m_X2_init Q 9 ls (.ref b :: st) g = (st.length ≤ 4 ∧ gK g b = 5 ∧ stbs g ls ∧ stbs g st ∧ w_X4_init [.ref b] g (fun v g' => WP m_X2_init Q 12 ls (v.toList ++ st) g')) := E_CV (ar := [.ref b]) lo_X2_init rfl rfl rfl (by decide)
theorem e_X2_init_12 {Q : mQ} {ls st : List Value} {g : mG} {a v : Nat} : WP m_X2_init Q 12 ls (.ref v :: .ref a :: st) g = ((gK g a = 3 ∧ ok1 g v ∧ v ≠ 0) ∧ WP m_X2_init Q 15 ls st (pR g a 5 v)) := E_pR lo_X2_init rfl
theorem e_X2_init_15 {Q : mQ} {ls : List Value} {g : mG} : WP m_X2_init Q 15 ls [] g = Q none g := E_ret lo_X2_init rfl
/-! KilnPermits$Kiln.<init>()V -/
def m_X0_init : List (Nat × mT) := [(0, tD (f_al 0 1)),
  (1, tD (f_obj)),
  (4, tD (f_al 0 1)),
  (5, tD (f_ic (nI 1000) 3)),
  (8, tD (f_pI 1 0)),
  (11, tD (f_al 0 1)),
  (12, tE (f_new 5)),
  (15, tD (f_dup)),
  (16, tC w_X4_init 5 1),
  (19, tD (f_pR 1 7)),
  (22, tR f_ret)]
abbrev w_X0_init : mS := wm m_X0_init 1 0
set_option maxRecDepth 100000 in
theorem lo_X0_init : locs_ok m_X0_init := List.forall_mem_cons.mpr ⟨loc_D mo_al,
  List.forall_mem_cons.mpr ⟨loc_D mo_obj,
  List.forall_mem_cons.mpr ⟨loc_D mo_al,
  List.forall_mem_cons.mpr ⟨loc_D mo_ic,
  List.forall_mem_cons.mpr ⟨loc_D mo_pI,
  List.forall_mem_cons.mpr ⟨loc_D mo_al,
  List.forall_mem_cons.mpr ⟨loc_E (fun _ => mo_new),
  List.forall_mem_cons.mpr ⟨loc_D mo_dup,
  List.forall_mem_cons.mpr ⟨loc_C sm_X4_init.1,
  List.forall_mem_cons.mpr ⟨loc_D mo_pR,
  List.forall_mem_cons.mpr ⟨loc_R,
  fun _ h => absurd h List.not_mem_nil⟩⟩⟩⟩⟩⟩⟩⟩⟩⟩⟩
set_option maxRecDepth 100000 in
theorem sm_X0_init : SM yX0_init cX0_init 1 none 2 w_X0_init := SM_of' RX0 "<init>" rfl rfl (by decide) (by decide) (by decide) lo_X0_init (List.forall_mem_cons.mpr ⟨STP.r mo_al (q_aload_n dX0_init_0 rfl),
  List.forall_mem_cons.mpr ⟨STP.r mo_obj (q_obj km_X0_3 kz_oi kz_oc dX0_init_1),
  List.forall_mem_cons.mpr ⟨STP.r mo_al (q_aload_n dX0_init_4 rfl),
  List.forall_mem_cons.mpr ⟨STP.r mo_ic (q_sipush dX0_init_5 (by decide)),
  List.forall_mem_cons.mpr ⟨STP.r mo_pI (q_pI ⟨by decide, by decide⟩ (by decide) rfl rfl kf_X0_9 dX0_init_8),
  List.forall_mem_cons.mpr ⟨STP.r mo_al (q_aload_n dX0_init_11 rfl),
  List.forall_mem_cons.mpr ⟨STE.r (fun _ => mo_new) (q_new ⟨by decide, by decide⟩ kc_X0_15 kn_X4 ki_X4 dX0_init_12),
  List.forall_mem_cons.mpr ⟨STP.r mo_dup (q_dup dX0_init_15),
  List.forall_mem_cons.mpr ⟨(snd_CIN sm_X4_init (by decide) rfl km_X0_17 kt_X4_init ki_X4 kx_X4_init ⟨by decide, by decide, by decide +kernel⟩ (by decide) (by decide) dX0_init_16).r,
  List.forall_mem_cons.mpr ⟨STP.r mo_pR (q_pR ⟨by decide, by decide⟩ (by decide) rfl (by decide) (Or.inr ⟨rfl, rfl⟩) (fun _ => rfl) kf_X0_18 dX0_init_19),
  List.forall_mem_cons.mpr ⟨r_ret dX0_init_22,
  fun _ h => absurd h List.not_mem_nil⟩⟩⟩⟩⟩⟩⟩⟩⟩⟩⟩)
theorem e_X0_init_0 {Q : mQ} {st : List Value} {g : mG} {x : Nat} : WP m_X0_init Q 0 [.ref x] st g = WP m_X0_init Q 1 [.ref x] (.ref x :: st) g := E_al (i := 0) (n := 1) lo_X0_init rfl rfl
theorem e_X0_init_1 {Q : mQ} {ls st : List Value} {g : mG} {x : Nat} : WP m_X0_init Q 1 ls (.ref x :: st) g = (st.length ≤ 4 ∧ WP m_X0_init Q 4 ls st g) := E_obj lo_X0_init rfl
theorem e_X0_init_4 {Q : mQ} {st : List Value} {g : mG} {x : Nat} : WP m_X0_init Q 4 [.ref x] st g = WP m_X0_init Q 5 [.ref x] (.ref x :: st) g := E_al (i := 0) (n := 1) lo_X0_init rfl rfl
theorem e_X0_init_5 {Q : mQ} {ls st : List Value} {g : mG} : WP m_X0_init Q 5 ls st g = WP m_X0_init Q 8 ls (.int (nI 1000) :: st) g := E_ic (v := nI 1000) (n := 3) lo_X0_init rfl
theorem e_X0_init_8 {Q : mQ} {ls st : List Value} {g : mG} {a : Nat} {v : Int32} : WP m_X0_init Q 8 ls (.int v :: .ref a :: st) g = (gK g a = 1 ∧ WP m_X0_init Q 11 ls st (pI g a 0 v)) := E_pI lo_X0_init rfl
theorem e_X0_init_11 {Q : mQ} {st : List Value} {g : mG} {x : Nat} : WP m_X0_init Q 11 [.ref x] st g = WP m_X0_init Q 12 [.ref x] (.ref x :: st) g := E_al (i := 0) (n := 1) lo_X0_init rfl rfl
theorem e_X0_init_12 {Q : mQ} {ls st : List Value} {g : mG} : WP m_X0_init Q 12 ls st g = ∃ a : Nat, (frsh g a ∧ (5 = 5 → gK g (a + 1) = 0) ∧ alv g ls ∧ alv g st) ∧ WP m_X0_init Q 15 ls (.ref a :: st) (nw g a 5 0 (xn 5) (fun _ => 0)) := E_new lo_X0_init rfl
theorem e_X0_init_15 {Q : mQ} {ls st : List Value} {g : mG} {x : Value} : WP m_X0_init Q 15 ls (x :: st) g = (cat1 x ∧ WP m_X0_init Q 16 ls (x :: x :: st) g) := E_dup lo_X0_init rfl
theorem e_X0_init_16 {Q : mQ} {ls st : List Value} {g : mG} {b : Nat} : WP m_X0_init Q 16 ls (.ref b :: st) g = (st.length ≤ 4 ∧ gK g b = 5 ∧ stbs g ls ∧ stbs g st ∧ w_X4_init [.ref b] g (fun v g' => WP m_X0_init Q 19 ls (v.toList ++ st) g')) := E_CV (ar := [.ref b]) lo_X0_init rfl rfl rfl (by decide)
theorem e_X0_init_19 {Q : mQ} {ls st : List Value} {g : mG} {a v : Nat} : WP m_X0_init Q 19 ls (.ref v :: .ref a :: st) g = ((gK g a = 1 ∧ ok1 g v ∧ v ≠ 0) ∧ WP m_X0_init Q 22 ls st (pR g a 7 v)) := E_pR lo_X0_init rfl
theorem e_X0_init_22 {Q : mQ} {ls : List Value} {g : mG} : WP m_X0_init Q 22 ls [] g = Q none g := E_ret lo_X0_init rfl
