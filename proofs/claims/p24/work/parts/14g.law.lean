/-! ===== programs ===== -/
/-! KilnPermitsLaw.low(II)I -/
def m_L_low : List (Nat × mT) := [(0, tD (f_il 0 1)),
  (1, tD (f_ic (nI 2147483647) 2)),
  (3, tD (f_b2 fun x y => x &&& y)),
  (4, tD (f_il 1 1)),
  (5, tD (f_rem)),
  (6, tR f_iret)]
abbrev w_L_low : mS := wm m_L_low 2 0
set_option maxRecDepth 100000 in
theorem lo_L_low : locs_ok m_L_low := List.forall_mem_cons.mpr ⟨loc_D mo_il,
  List.forall_mem_cons.mpr ⟨loc_D mo_ic,
  List.forall_mem_cons.mpr ⟨loc_D mo_b2,
  List.forall_mem_cons.mpr ⟨loc_D mo_il,
  List.forall_mem_cons.mpr ⟨loc_D mo_rem,
  List.forall_mem_cons.mpr ⟨loc_R,
  fun _ h => absurd h List.not_mem_nil⟩⟩⟩⟩⟩⟩
set_option maxRecDepth 100000 in
theorem sm_L_low : SM yL_low cL_low 2 (some .int) 1 w_L_low := SM_of' RL "low" rfl rfl (by decide) (by decide) (by decide) lo_L_low (List.forall_mem_cons.mpr ⟨STP.r mo_il (q_iload_n dL_low_0 rfl),
  List.forall_mem_cons.mpr ⟨STP.r mo_ic (q_ldc kl_L_2147483647 dL_low_1),
  List.forall_mem_cons.mpr ⟨STP.r mo_b2 (q_iand dL_low_3),
  List.forall_mem_cons.mpr ⟨STP.r mo_il (q_iload_n dL_low_4 rfl),
  List.forall_mem_cons.mpr ⟨STP.r mo_rem (q_irem dL_low_5),
  List.forall_mem_cons.mpr ⟨r_iret dL_low_6,
  fun _ h => absurd h List.not_mem_nil⟩⟩⟩⟩⟩⟩)
theorem e_L_low_0 {Q : mQ} {l1 : Value} {st : List Value} {g : mG} {x : Int32} : WP m_L_low Q 0 [.int x, l1] st g = WP m_L_low Q 1 [.int x, l1] (.int x :: st) g := E_il (i := 0) (n := 1) lo_L_low rfl rfl
theorem e_L_low_1 {Q : mQ} {ls st : List Value} {g : mG} : WP m_L_low Q 1 ls st g = WP m_L_low Q 3 ls (.int (nI 2147483647) :: st) g := E_ic (v := nI 2147483647) (n := 2) lo_L_low rfl
theorem e_L_low_3 {Q : mQ} {ls st : List Value} {g : mG} {x y : Int32} : WP m_L_low Q 3 ls (.int y :: .int x :: st) g = WP m_L_low Q 4 ls (.int (x &&& y) :: st) g := E_b2 (f := fun x y => x &&& y) lo_L_low rfl
theorem e_L_low_4 {Q : mQ} {l0 : Value} {st : List Value} {g : mG} {x : Int32} : WP m_L_low Q 4 [l0, .int x] st g = WP m_L_low Q 5 [l0, .int x] (.int x :: st) g := E_il (i := 1) (n := 1) lo_L_low rfl rfl
theorem e_L_low_5 {Q : mQ} {ls st : List Value} {g : mG} {x y : Int32} : WP m_L_low Q 5 ls (.int y :: .int x :: st) g = (¬ y = 0 ∧ WP m_L_low Q 6 ls (.int (x - x / y * y) :: st) g) := E_rem lo_L_low rfl
theorem e_L_low_6 {Q : mQ} {ls : List Value} {g : mG} {v : Int32} : WP m_L_low Q 6 ls [.int v] g = Q (some (.int v)) g := E_iret lo_L_low rfl
/-! KilnPermitsLaw.act(LKilnPermits;II)I -/
def m_L_act : List (Nat × mT) := [(0, tD (f_il 1 1)),
  (1, tD (f_ic (nI 8) 2)),
  (3, tD (f_b2 fun x y => x >>> (y &&& 31))),
  (4, tD (f_ic (nI 6) 2)),
  (6, tC w_L_low 0 2),
  (9, tD (f_is 3 1)),
  (10, tD (f_il 1 1)),
  (11, tD (f_ic (nI 3) 1)),
  (12, tD (f_b2 fun x y => x >>> (y &&& 31))),
  (13, tD (f_ic (nI 14) 2)),
  (15, tC w_L_low 0 2),
  (18, tD (f_is 4 2)),
  (20, tD (f_il 4 2)),
  (22, tD (f_ic (nI 2) 1)),
  (23, tI2 (fun x y => y ≤ x) 40),
  (26, tD (f_al 0 1)),
  (27, tD (f_il 3 1)),
  (28, tD (f_ic (nI 1) 1)),
  (29, tD (f_il 2 1)),
  (30, tD (f_ic (nI 60) 2)),
  (32, tC w_L_low 0 2),
  (35, tD (f_b2 fun x y => x + y)),
  (36, tC w_X6_issue 7 3),
  (39, tR f_iret),
  (40, tD (f_il 4 2)),
  (42, tD (f_ic (nI 2) 1)),
  (43, tI2 (fun x y => ¬ x = y) 75),
  (46, tD (f_ic (nI 1) 1)),
  (47, tD (f_il 2 1)),
  (48, tD (f_ic (nI 90) 2)),
  (50, tC w_L_low 0 2),
  (53, tD (f_b2 fun x y => x + y)),
  (54, tD (f_is 5 2)),
  (56, tD (f_al 0 1)),
  (57, tD (f_il 3 1)),
  (58, tD (f_il 5 2)),
  (60, tD (f_il 2 1)),
  (61, tD (f_ic (nI 7) 2)),
  (63, tD (f_b2 fun x y => x >>> (y &&& 31))),
  (64, tD (f_il 5 2)),
  (66, tD (f_ic (nI 1) 1)),
  (67, tD (f_b2 fun x y => x + y)),
  (68, tC w_L_low 0 2),
  (71, tC w_X6_fire 7 4),
  (74, tR f_iret),
  (75, tD (f_il 4 2)),
  (77, tD (f_ic (nI 3) 1)),
  (78, tI2 (fun x y => ¬ x = y) 87),
  (81, tD (f_al 0 1)),
  (82, tD (f_il 3 1)),
  (83, tC w_X6_audit 7 2),
  (86, tR f_iret),
  (87, tD (f_il 4 2)),
  (89, tD (f_ic (nI 7) 2)),
  (91, tI2 (fun x y => y ≤ x) 123),
  (94, tD (f_al 0 1)),
  (95, tD (f_il 3 1)),
  (96, tD (f_ic (nI 1) 1)),
  (97, tD (f_il 2 1)),
  (98, tD (f_ic (nI 12) 2)),
  (100, tC w_L_low 0 2),
  (103, tD (f_b2 fun x y => x + y)),
  (104, tD (f_al 0 1)),
  (105, tD (f_ic (nI 14) 2)),
  (107, tC w_X6_count 7 2),
  (110, tD (f_il 2 1)),
  (111, tD (f_ic (nI 4) 1)),
  (112, tD (f_b2 fun x y => x >>> (y &&& 31))),
  (113, tD (f_ic (nI 30) 2)),
  (115, tC w_L_low 0 2),
  (118, tD (f_b2 fun x y => x + y)),
  (119, tC w_X6_bid 7 4),
  (122, tR f_iret),
  (123, tD (f_il 4 2)),
  (125, tD (f_ic (nI 10) 2)),
  (127, tI2 (fun x y => y ≤ x) 159),
  (130, tD (f_al 0 1)),
  (131, tD (f_il 3 1)),
  (132, tD (f_ic (nI 1) 1)),
  (133, tD (f_il 2 1)),
  (134, tD (f_ic (nI 20) 2)),
  (136, tC w_L_low 0 2),
  (139, tD (f_b2 fun x y => x + y)),
  (140, tD (f_al 0 1)),
  (141, tD (f_ic (nI 14) 2)),
  (143, tC w_X6_count 7 2),
  (146, tD (f_il 2 1)),
  (147, tD (f_ic (nI 5) 1)),
  (148, tD (f_b2 fun x y => x >>> (y &&& 31))),
  (149, tD (f_ic (nI 30) 2)),
  (151, tC w_L_low 0 2),
  (154, tD (f_b2 fun x y => x + y)),
  (155, tC w_X6_ask 7 4),
  (158, tR f_iret),
  (159, tD (f_il 4 2)),
  (161, tD (f_ic (nI 10) 2)),
  (163, tI2 (fun x y => ¬ x = y) 205),
  (166, tD (f_il 2 1)),
  (167, tD (f_ic (nI 2) 1)),
  (168, tC w_L_low 0 2),
  (171, tI1 (fun x => ¬ x = 0) 189),
  (174, tD (f_al 0 1)),
  (175, tD (f_il 2 1)),
  (176, tD (f_ic (nI 1) 1)),
  (177, tD (f_b2 fun x y => x >>> (y &&& 31))),
  (178, tD (f_ic (nI 20) 2)),
  (180, tC w_L_low 0 2),
  (183, tC w_X6_takeBack 7 2),
  (186, tD (f_goto 204)),
  (189, tD (f_al 0 1)),
  (190, tD (f_il 3 1)),
  (191, tD (f_ic (nI 1) 1)),
  (192, tD (f_il 2 1)),
  (193, tD (f_ic (nI 1) 1)),
  (194, tD (f_b2 fun x y => x >>> (y &&& 31))),
  (195, tD (f_ic (nI 9) 2)),
  (197, tC w_L_low 0 2),
  (200, tD (f_b2 fun x y => x + y)),
  (201, tC w_X6_buyReserve 7 3),
  (204, tR f_iret),
  (205, tD (f_il 4 2)),
  (207, tD (f_ic (nI 11) 2)),
  (209, tI2 (fun x y => ¬ x = y) 226),
  (212, tD (f_al 0 1)),
  (213, tD (f_il 3 1)),
  (214, tD (f_ic (nI 1) 1)),
  (215, tD (f_il 2 1)),
  (216, tD (f_ic (nI 12) 2)),
  (218, tC w_L_low 0 2),
  (221, tD (f_b2 fun x y => x + y)),
  (222, tC w_X6_borrow 7 3),
  (225, tR f_iret),
  (226, tD (f_il 4 2)),
  (228, tD (f_ic (nI 12) 2)),
  (230, tI2 (fun x y => ¬ x = y) 253),
  (233, tD (f_al 0 1)),
  (234, tD (f_il 2 1)),
  (235, tD (f_ic (nI 5) 1)),
  (236, tC w_L_low 0 2),
  (239, tD (f_ic (nI 1) 1)),
  (240, tD (f_il 2 1)),
  (241, tD (f_ic (nI 3) 1)),
  (242, tD (f_b2 fun x y => x >>> (y &&& 31))),
  (243, tD (f_ic (nI 120) 2)),
  (245, tC w_L_low 0 2),
  (248, tD (f_b2 fun x y => x + y)),
  (249, tC w_X6_set 7 3),
  (252, tR f_iret),
  (253, tD (f_al 0 1)),
  (254, tC w_X6_endYear 7 1),
  (257, tR f_iret)]
abbrev w_L_act : mS := wm m_L_act 3 3
set_option maxRecDepth 100000 in
theorem lo_L_act : locs_ok m_L_act := List.forall_mem_cons.mpr ⟨loc_D mo_il,
  List.forall_mem_cons.mpr ⟨loc_D mo_ic,
  List.forall_mem_cons.mpr ⟨loc_D mo_b2,
  List.forall_mem_cons.mpr ⟨loc_D mo_ic,
  List.forall_mem_cons.mpr ⟨loc_C sm_L_low.1,
  List.forall_mem_cons.mpr ⟨loc_D mo_is,
  List.forall_mem_cons.mpr ⟨loc_D mo_il,
  List.forall_mem_cons.mpr ⟨loc_D mo_ic,
  List.forall_mem_cons.mpr ⟨loc_D mo_b2,
  List.forall_mem_cons.mpr ⟨loc_D mo_ic,
  List.forall_mem_cons.mpr ⟨loc_C sm_L_low.1,
  List.forall_mem_cons.mpr ⟨loc_D mo_is,
  List.forall_mem_cons.mpr ⟨loc_D mo_il,
  List.forall_mem_cons.mpr ⟨loc_D mo_ic,
  List.forall_mem_cons.mpr ⟨loc_I2,
  List.forall_mem_cons.mpr ⟨loc_D mo_al,
  List.forall_mem_cons.mpr ⟨loc_D mo_il,
  List.forall_mem_cons.mpr ⟨loc_D mo_ic,
  List.forall_mem_cons.mpr ⟨loc_D mo_il,
  List.forall_mem_cons.mpr ⟨loc_D mo_ic,
  List.forall_mem_cons.mpr ⟨loc_C sm_L_low.1,
  List.forall_mem_cons.mpr ⟨loc_D mo_b2,
  List.forall_mem_cons.mpr ⟨loc_C sm_X6_issue.1,
  List.forall_mem_cons.mpr ⟨loc_R,
  List.forall_mem_cons.mpr ⟨loc_D mo_il,
  List.forall_mem_cons.mpr ⟨loc_D mo_ic,
  List.forall_mem_cons.mpr ⟨loc_I2,
  List.forall_mem_cons.mpr ⟨loc_D mo_ic,
  List.forall_mem_cons.mpr ⟨loc_D mo_il,
  List.forall_mem_cons.mpr ⟨loc_D mo_ic,
  List.forall_mem_cons.mpr ⟨loc_C sm_L_low.1,
  List.forall_mem_cons.mpr ⟨loc_D mo_b2,
  List.forall_mem_cons.mpr ⟨loc_D mo_is,
  List.forall_mem_cons.mpr ⟨loc_D mo_al,
  List.forall_mem_cons.mpr ⟨loc_D mo_il,
  List.forall_mem_cons.mpr ⟨loc_D mo_il,
  List.forall_mem_cons.mpr ⟨loc_D mo_il,
  List.forall_mem_cons.mpr ⟨loc_D mo_ic,
  List.forall_mem_cons.mpr ⟨loc_D mo_b2,
  List.forall_mem_cons.mpr ⟨loc_D mo_il,
  List.forall_mem_cons.mpr ⟨loc_D mo_ic,
  List.forall_mem_cons.mpr ⟨loc_D mo_b2,
  List.forall_mem_cons.mpr ⟨loc_C sm_L_low.1,
  List.forall_mem_cons.mpr ⟨loc_C sm_X6_fire.1,
  List.forall_mem_cons.mpr ⟨loc_R,
  List.forall_mem_cons.mpr ⟨loc_D mo_il,
  List.forall_mem_cons.mpr ⟨loc_D mo_ic,
  List.forall_mem_cons.mpr ⟨loc_I2,
  List.forall_mem_cons.mpr ⟨loc_D mo_al,
  List.forall_mem_cons.mpr ⟨loc_D mo_il,
  List.forall_mem_cons.mpr ⟨loc_C sm_X6_audit.1,
  List.forall_mem_cons.mpr ⟨loc_R,
  List.forall_mem_cons.mpr ⟨loc_D mo_il,
  List.forall_mem_cons.mpr ⟨loc_D mo_ic,
  List.forall_mem_cons.mpr ⟨loc_I2,
  List.forall_mem_cons.mpr ⟨loc_D mo_al,
  List.forall_mem_cons.mpr ⟨loc_D mo_il,
  List.forall_mem_cons.mpr ⟨loc_D mo_ic,
  List.forall_mem_cons.mpr ⟨loc_D mo_il,
  List.forall_mem_cons.mpr ⟨loc_D mo_ic,
  List.forall_mem_cons.mpr ⟨loc_C sm_L_low.1,
  List.forall_mem_cons.mpr ⟨loc_D mo_b2,
  List.forall_mem_cons.mpr ⟨loc_D mo_al,
  List.forall_mem_cons.mpr ⟨loc_D mo_ic,
  List.forall_mem_cons.mpr ⟨loc_C sm_X6_count.1,
  List.forall_mem_cons.mpr ⟨loc_D mo_il,
  List.forall_mem_cons.mpr ⟨loc_D mo_ic,
  List.forall_mem_cons.mpr ⟨loc_D mo_b2,
  List.forall_mem_cons.mpr ⟨loc_D mo_ic,
  List.forall_mem_cons.mpr ⟨loc_C sm_L_low.1,
  List.forall_mem_cons.mpr ⟨loc_D mo_b2,
  List.forall_mem_cons.mpr ⟨loc_C sm_X6_bid.1,
  List.forall_mem_cons.mpr ⟨loc_R,
  List.forall_mem_cons.mpr ⟨loc_D mo_il,
  List.forall_mem_cons.mpr ⟨loc_D mo_ic,
  List.forall_mem_cons.mpr ⟨loc_I2,
  List.forall_mem_cons.mpr ⟨loc_D mo_al,
  List.forall_mem_cons.mpr ⟨loc_D mo_il,
  List.forall_mem_cons.mpr ⟨loc_D mo_ic,
  List.forall_mem_cons.mpr ⟨loc_D mo_il,
  List.forall_mem_cons.mpr ⟨loc_D mo_ic,
  List.forall_mem_cons.mpr ⟨loc_C sm_L_low.1,
  List.forall_mem_cons.mpr ⟨loc_D mo_b2,
  List.forall_mem_cons.mpr ⟨loc_D mo_al,
  List.forall_mem_cons.mpr ⟨loc_D mo_ic,
  List.forall_mem_cons.mpr ⟨loc_C sm_X6_count.1,
  List.forall_mem_cons.mpr ⟨loc_D mo_il,
  List.forall_mem_cons.mpr ⟨loc_D mo_ic,
  List.forall_mem_cons.mpr ⟨loc_D mo_b2,
  List.forall_mem_cons.mpr ⟨loc_D mo_ic,
  List.forall_mem_cons.mpr ⟨loc_C sm_L_low.1,
  List.forall_mem_cons.mpr ⟨loc_D mo_b2,
  List.forall_mem_cons.mpr ⟨loc_C sm_X6_ask.1,
  List.forall_mem_cons.mpr ⟨loc_R,
  List.forall_mem_cons.mpr ⟨loc_D mo_il,
  List.forall_mem_cons.mpr ⟨loc_D mo_ic,
  List.forall_mem_cons.mpr ⟨loc_I2,
  List.forall_mem_cons.mpr ⟨loc_D mo_il,
  List.forall_mem_cons.mpr ⟨loc_D mo_ic,
  List.forall_mem_cons.mpr ⟨loc_C sm_L_low.1,
  List.forall_mem_cons.mpr ⟨loc_I1,
  List.forall_mem_cons.mpr ⟨loc_D mo_al,
  List.forall_mem_cons.mpr ⟨loc_D mo_il,
  List.forall_mem_cons.mpr ⟨loc_D mo_ic,
  List.forall_mem_cons.mpr ⟨loc_D mo_b2,
  List.forall_mem_cons.mpr ⟨loc_D mo_ic,
  List.forall_mem_cons.mpr ⟨loc_C sm_L_low.1,
  List.forall_mem_cons.mpr ⟨loc_C sm_X6_takeBack.1,
  List.forall_mem_cons.mpr ⟨loc_D mo_goto,
  List.forall_mem_cons.mpr ⟨loc_D mo_al,
  List.forall_mem_cons.mpr ⟨loc_D mo_il,
  List.forall_mem_cons.mpr ⟨loc_D mo_ic,
  List.forall_mem_cons.mpr ⟨loc_D mo_il,
  List.forall_mem_cons.mpr ⟨loc_D mo_ic,
  List.forall_mem_cons.mpr ⟨loc_D mo_b2,
  List.forall_mem_cons.mpr ⟨loc_D mo_ic,
  List.forall_mem_cons.mpr ⟨loc_C sm_L_low.1,
  List.forall_mem_cons.mpr ⟨loc_D mo_b2,
  List.forall_mem_cons.mpr ⟨loc_C sm_X6_buyReserve.1,
  List.forall_mem_cons.mpr ⟨loc_R,
  List.forall_mem_cons.mpr ⟨loc_D mo_il,
  List.forall_mem_cons.mpr ⟨loc_D mo_ic,
  List.forall_mem_cons.mpr ⟨loc_I2,
  List.forall_mem_cons.mpr ⟨loc_D mo_al,
  List.forall_mem_cons.mpr ⟨loc_D mo_il,
  List.forall_mem_cons.mpr ⟨loc_D mo_ic,
  List.forall_mem_cons.mpr ⟨loc_D mo_il,
  List.forall_mem_cons.mpr ⟨loc_D mo_ic,
  List.forall_mem_cons.mpr ⟨loc_C sm_L_low.1,
  List.forall_mem_cons.mpr ⟨loc_D mo_b2,
  List.forall_mem_cons.mpr ⟨loc_C sm_X6_borrow.1,
  List.forall_mem_cons.mpr ⟨loc_R,
  List.forall_mem_cons.mpr ⟨loc_D mo_il,
  List.forall_mem_cons.mpr ⟨loc_D mo_ic,
  List.forall_mem_cons.mpr ⟨loc_I2,
  List.forall_mem_cons.mpr ⟨loc_D mo_al,
  List.forall_mem_cons.mpr ⟨loc_D mo_il,
  List.forall_mem_cons.mpr ⟨loc_D mo_ic,
  List.forall_mem_cons.mpr ⟨loc_C sm_L_low.1,
  List.forall_mem_cons.mpr ⟨loc_D mo_ic,
  List.forall_mem_cons.mpr ⟨loc_D mo_il,
  List.forall_mem_cons.mpr ⟨loc_D mo_ic,
  List.forall_mem_cons.mpr ⟨loc_D mo_b2,
  List.forall_mem_cons.mpr ⟨loc_D mo_ic,
  List.forall_mem_cons.mpr ⟨loc_C sm_L_low.1,
  List.forall_mem_cons.mpr ⟨loc_D mo_b2,
  List.forall_mem_cons.mpr ⟨loc_C sm_X6_set.1,
  List.forall_mem_cons.mpr ⟨loc_R,
  List.forall_mem_cons.mpr ⟨loc_D mo_al,
  List.forall_mem_cons.mpr ⟨loc_C sm_X6_endYear.1,
  List.forall_mem_cons.mpr ⟨loc_R,
  fun _ h => absurd h List.not_mem_nil⟩⟩⟩⟩⟩⟩⟩⟩⟩⟩⟩⟩⟩⟩⟩⟩⟩⟩⟩⟩⟩⟩⟩⟩⟩⟩⟩⟩⟩⟩⟩⟩⟩⟩⟩⟩⟩⟩⟩⟩⟩⟩⟩⟩⟩⟩⟩⟩⟩⟩⟩⟩⟩⟩⟩⟩⟩⟩⟩⟩⟩⟩⟩⟩⟩⟩⟩⟩⟩⟩⟩⟩⟩⟩⟩⟩⟩⟩⟩⟩⟩⟩⟩⟩⟩⟩⟩⟩⟩⟩⟩⟩⟩⟩⟩⟩⟩⟩⟩⟩⟩⟩⟩⟩⟩⟩⟩⟩⟩⟩⟩⟩⟩⟩⟩⟩⟩⟩⟩⟩⟩⟩⟩⟩⟩⟩⟩⟩⟩⟩⟩⟩⟩⟩⟩⟩⟩⟩⟩⟩⟩⟩⟩⟩⟩⟩⟩⟩⟩⟩⟩
set_option maxRecDepth 100000 in
theorem sm_L_act : SM yL_act cL_act 6 (some .int) 9 w_L_act := SM_of' RL "act" rfl rfl (by decide) (by decide) (by decide) lo_L_act (List.forall_mem_cons.mpr ⟨STP.r mo_il (q_iload_n dL_act_0 rfl),
  List.forall_mem_cons.mpr ⟨STP.r mo_ic (q_bipush dL_act_1 (by decide)),
  List.forall_mem_cons.mpr ⟨STP.r mo_b2 (q_ishr dL_act_3),
  List.forall_mem_cons.mpr ⟨STP.r mo_ic (q_bipush dL_act_4 (by decide)),
  List.forall_mem_cons.mpr ⟨(snd_CS sm_L_low km_L_47 ks_L_low ki_L kx_L_low ⟨by decide, by decide, by decide +kernel⟩ (by decide) (by decide) dL_act_6).r,
  List.forall_mem_cons.mpr ⟨STP.r mo_is (q_istore_n dL_act_9 rfl),
  List.forall_mem_cons.mpr ⟨STP.r mo_il (q_iload_n dL_act_10 rfl),
  List.forall_mem_cons.mpr ⟨STP.r mo_ic (q_iconst dL_act_11 (by decide)),
  List.forall_mem_cons.mpr ⟨STP.r mo_b2 (q_ishr dL_act_12),
  List.forall_mem_cons.mpr ⟨STP.r mo_ic (q_bipush dL_act_13 (by decide)),
  List.forall_mem_cons.mpr ⟨(snd_CS sm_L_low km_L_47 ks_L_low ki_L kx_L_low ⟨by decide, by decide, by decide +kernel⟩ (by decide) (by decide) dL_act_15).r,
  List.forall_mem_cons.mpr ⟨STP.r mo_is (q_istore dL_act_18),
  List.forall_mem_cons.mpr ⟨STP.r mo_il (q_iload dL_act_20),
  List.forall_mem_cons.mpr ⟨STP.r mo_ic (q_iconst dL_act_22 (by decide)),
  List.forall_mem_cons.mpr ⟨(q_ic_ge dL_act_23 (by decide)).r,
  List.forall_mem_cons.mpr ⟨STP.r mo_al (q_aload_n dL_act_26 rfl),
  List.forall_mem_cons.mpr ⟨STP.r mo_il (q_iload_n dL_act_27 rfl),
  List.forall_mem_cons.mpr ⟨STP.r mo_ic (q_iconst dL_act_28 (by decide)),
  List.forall_mem_cons.mpr ⟨STP.r mo_il (q_iload_n dL_act_29 rfl),
  List.forall_mem_cons.mpr ⟨STP.r mo_ic (q_bipush dL_act_30 (by decide)),
  List.forall_mem_cons.mpr ⟨(snd_CS sm_L_low km_L_47 ks_L_low ki_L kx_L_low ⟨by decide, by decide, by decide +kernel⟩ (by decide) (by decide) dL_act_32).r,
  List.forall_mem_cons.mpr ⟨STP.r mo_b2 (q_iadd dL_act_35),
  List.forall_mem_cons.mpr ⟨(snd_CV sm_X6_issue ⟨by decide, by decide⟩ rfl km_L_50 kt_X6_issue kv_X6_issue rfl ki_X6 kx_X6_issue ⟨by decide, by decide, by decide +kernel⟩ (by decide) (by decide) dL_act_36).r,
  List.forall_mem_cons.mpr ⟨r_iret dL_act_39,
  List.forall_mem_cons.mpr ⟨STP.r mo_il (q_iload dL_act_40),
  List.forall_mem_cons.mpr ⟨STP.r mo_ic (q_iconst dL_act_42 (by decide)),
  List.forall_mem_cons.mpr ⟨(q_ic_ne dL_act_43 (by decide)).r,
  List.forall_mem_cons.mpr ⟨STP.r mo_ic (q_iconst dL_act_46 (by decide)),
  List.forall_mem_cons.mpr ⟨STP.r mo_il (q_iload_n dL_act_47 rfl),
  List.forall_mem_cons.mpr ⟨STP.r mo_ic (q_bipush dL_act_48 (by decide)),
  List.forall_mem_cons.mpr ⟨(snd_CS sm_L_low km_L_47 ks_L_low ki_L kx_L_low ⟨by decide, by decide, by decide +kernel⟩ (by decide) (by decide) dL_act_50).r,
  List.forall_mem_cons.mpr ⟨STP.r mo_b2 (q_iadd dL_act_53),
  List.forall_mem_cons.mpr ⟨STP.r mo_is (q_istore dL_act_54),
  List.forall_mem_cons.mpr ⟨STP.r mo_al (q_aload_n dL_act_56 rfl),
  List.forall_mem_cons.mpr ⟨STP.r mo_il (q_iload_n dL_act_57 rfl),
  List.forall_mem_cons.mpr ⟨STP.r mo_il (q_iload dL_act_58),
  List.forall_mem_cons.mpr ⟨STP.r mo_il (q_iload_n dL_act_60 rfl),
  List.forall_mem_cons.mpr ⟨STP.r mo_ic (q_bipush dL_act_61 (by decide)),
  List.forall_mem_cons.mpr ⟨STP.r mo_b2 (q_ishr dL_act_63),
  List.forall_mem_cons.mpr ⟨STP.r mo_il (q_iload dL_act_64),
  List.forall_mem_cons.mpr ⟨STP.r mo_ic (q_iconst dL_act_66 (by decide)),
  List.forall_mem_cons.mpr ⟨STP.r mo_b2 (q_iadd dL_act_67),
  List.forall_mem_cons.mpr ⟨(snd_CS sm_L_low km_L_47 ks_L_low ki_L kx_L_low ⟨by decide, by decide, by decide +kernel⟩ (by decide) (by decide) dL_act_68).r,
  List.forall_mem_cons.mpr ⟨(snd_CV sm_X6_fire ⟨by decide, by decide⟩ rfl km_L_53 kt_X6_fire kv_X6_fire rfl ki_X6 kx_X6_fire ⟨by decide, by decide, by decide +kernel⟩ (by decide) (by decide) dL_act_71).r,
  List.forall_mem_cons.mpr ⟨r_iret dL_act_74,
  List.forall_mem_cons.mpr ⟨STP.r mo_il (q_iload dL_act_75),
  List.forall_mem_cons.mpr ⟨STP.r mo_ic (q_iconst dL_act_77 (by decide)),
  List.forall_mem_cons.mpr ⟨(q_ic_ne dL_act_78 (by decide)).r,
  List.forall_mem_cons.mpr ⟨STP.r mo_al (q_aload_n dL_act_81 rfl),
  List.forall_mem_cons.mpr ⟨STP.r mo_il (q_iload_n dL_act_82 rfl),
  List.forall_mem_cons.mpr ⟨(snd_CV sm_X6_audit ⟨by decide, by decide⟩ rfl km_L_57 kt_X6_audit kv_X6_audit rfl ki_X6 kx_X6_audit ⟨by decide, by decide, by decide +kernel⟩ (by decide) (by decide) dL_act_83).r,
  List.forall_mem_cons.mpr ⟨r_iret dL_act_86,
  List.forall_mem_cons.mpr ⟨STP.r mo_il (q_iload dL_act_87),
  List.forall_mem_cons.mpr ⟨STP.r mo_ic (q_bipush dL_act_89 (by decide)),
  List.forall_mem_cons.mpr ⟨(q_ic_ge dL_act_91 (by decide)).r,
  List.forall_mem_cons.mpr ⟨STP.r mo_al (q_aload_n dL_act_94 rfl),
  List.forall_mem_cons.mpr ⟨STP.r mo_il (q_iload_n dL_act_95 rfl),
  List.forall_mem_cons.mpr ⟨STP.r mo_ic (q_iconst dL_act_96 (by decide)),
  List.forall_mem_cons.mpr ⟨STP.r mo_il (q_iload_n dL_act_97 rfl),
  List.forall_mem_cons.mpr ⟨STP.r mo_ic (q_bipush dL_act_98 (by decide)),
  List.forall_mem_cons.mpr ⟨(snd_CS sm_L_low km_L_47 ks_L_low ki_L kx_L_low ⟨by decide, by decide, by decide +kernel⟩ (by decide) (by decide) dL_act_100).r,
  List.forall_mem_cons.mpr ⟨STP.r mo_b2 (q_iadd dL_act_103),
  List.forall_mem_cons.mpr ⟨STP.r mo_al (q_aload_n dL_act_104 rfl),
  List.forall_mem_cons.mpr ⟨STP.r mo_ic (q_bipush dL_act_105 (by decide)),
  List.forall_mem_cons.mpr ⟨(snd_CV sm_X6_count ⟨by decide, by decide⟩ rfl km_L_13 kt_X6_count kv_X6_count rfl ki_X6 kx_X6_count ⟨by decide, by decide, by decide +kernel⟩ (by decide) (by decide) dL_act_107).r,
  List.forall_mem_cons.mpr ⟨STP.r mo_il (q_iload_n dL_act_110 rfl),
  List.forall_mem_cons.mpr ⟨STP.r mo_ic (q_iconst dL_act_111 (by decide)),
  List.forall_mem_cons.mpr ⟨STP.r mo_b2 (q_ishr dL_act_112),
  List.forall_mem_cons.mpr ⟨STP.r mo_ic (q_bipush dL_act_113 (by decide)),
  List.forall_mem_cons.mpr ⟨(snd_CS sm_L_low km_L_47 ks_L_low ki_L kx_L_low ⟨by decide, by decide, by decide +kernel⟩ (by decide) (by decide) dL_act_115).r,
  List.forall_mem_cons.mpr ⟨STP.r mo_b2 (q_iadd dL_act_118),
  List.forall_mem_cons.mpr ⟨(snd_CV sm_X6_bid ⟨by decide, by decide⟩ rfl km_L_60 kt_X6_bid kv_X6_bid rfl ki_X6 kx_X6_bid ⟨by decide, by decide, by decide +kernel⟩ (by decide) (by decide) dL_act_119).r,
  List.forall_mem_cons.mpr ⟨r_iret dL_act_122,
  List.forall_mem_cons.mpr ⟨STP.r mo_il (q_iload dL_act_123),
  List.forall_mem_cons.mpr ⟨STP.r mo_ic (q_bipush dL_act_125 (by decide)),
  List.forall_mem_cons.mpr ⟨(q_ic_ge dL_act_127 (by decide)).r,
  List.forall_mem_cons.mpr ⟨STP.r mo_al (q_aload_n dL_act_130 rfl),
  List.forall_mem_cons.mpr ⟨STP.r mo_il (q_iload_n dL_act_131 rfl),
  List.forall_mem_cons.mpr ⟨STP.r mo_ic (q_iconst dL_act_132 (by decide)),
  List.forall_mem_cons.mpr ⟨STP.r mo_il (q_iload_n dL_act_133 rfl),
  List.forall_mem_cons.mpr ⟨STP.r mo_ic (q_bipush dL_act_134 (by decide)),
  List.forall_mem_cons.mpr ⟨(snd_CS sm_L_low km_L_47 ks_L_low ki_L kx_L_low ⟨by decide, by decide, by decide +kernel⟩ (by decide) (by decide) dL_act_136).r,
  List.forall_mem_cons.mpr ⟨STP.r mo_b2 (q_iadd dL_act_139),
  List.forall_mem_cons.mpr ⟨STP.r mo_al (q_aload_n dL_act_140 rfl),
  List.forall_mem_cons.mpr ⟨STP.r mo_ic (q_bipush dL_act_141 (by decide)),
  List.forall_mem_cons.mpr ⟨(snd_CV sm_X6_count ⟨by decide, by decide⟩ rfl km_L_13 kt_X6_count kv_X6_count rfl ki_X6 kx_X6_count ⟨by decide, by decide, by decide +kernel⟩ (by decide) (by decide) dL_act_143).r,
  List.forall_mem_cons.mpr ⟨STP.r mo_il (q_iload_n dL_act_146 rfl),
  List.forall_mem_cons.mpr ⟨STP.r mo_ic (q_iconst dL_act_147 (by decide)),
  List.forall_mem_cons.mpr ⟨STP.r mo_b2 (q_ishr dL_act_148),
  List.forall_mem_cons.mpr ⟨STP.r mo_ic (q_bipush dL_act_149 (by decide)),
  List.forall_mem_cons.mpr ⟨(snd_CS sm_L_low km_L_47 ks_L_low ki_L kx_L_low ⟨by decide, by decide, by decide +kernel⟩ (by decide) (by decide) dL_act_151).r,
  List.forall_mem_cons.mpr ⟨STP.r mo_b2 (q_iadd dL_act_154),
  List.forall_mem_cons.mpr ⟨(snd_CV sm_X6_ask ⟨by decide, by decide⟩ rfl km_L_63 kt_X6_ask kv_X6_ask rfl ki_X6 kx_X6_ask ⟨by decide, by decide, by decide +kernel⟩ (by decide) (by decide) dL_act_155).r,
  List.forall_mem_cons.mpr ⟨r_iret dL_act_158,
  List.forall_mem_cons.mpr ⟨STP.r mo_il (q_iload dL_act_159),
  List.forall_mem_cons.mpr ⟨STP.r mo_ic (q_bipush dL_act_161 (by decide)),
  List.forall_mem_cons.mpr ⟨(q_ic_ne dL_act_163 (by decide)).r,
  List.forall_mem_cons.mpr ⟨STP.r mo_il (q_iload_n dL_act_166 rfl),
  List.forall_mem_cons.mpr ⟨STP.r mo_ic (q_iconst dL_act_167 (by decide)),
  List.forall_mem_cons.mpr ⟨(snd_CS sm_L_low km_L_47 ks_L_low ki_L kx_L_low ⟨by decide, by decide, by decide +kernel⟩ (by decide) (by decide) dL_act_168).r,
  List.forall_mem_cons.mpr ⟨(q_if_ne dL_act_171 (by decide)).r,
  List.forall_mem_cons.mpr ⟨STP.r mo_al (q_aload_n dL_act_174 rfl),
  List.forall_mem_cons.mpr ⟨STP.r mo_il (q_iload_n dL_act_175 rfl),
  List.forall_mem_cons.mpr ⟨STP.r mo_ic (q_iconst dL_act_176 (by decide)),
  List.forall_mem_cons.mpr ⟨STP.r mo_b2 (q_ishr dL_act_177),
  List.forall_mem_cons.mpr ⟨STP.r mo_ic (q_bipush dL_act_178 (by decide)),
  List.forall_mem_cons.mpr ⟨(snd_CS sm_L_low km_L_47 ks_L_low ki_L kx_L_low ⟨by decide, by decide, by decide +kernel⟩ (by decide) (by decide) dL_act_180).r,
  List.forall_mem_cons.mpr ⟨(snd_CV sm_X6_takeBack ⟨by decide, by decide⟩ rfl km_L_66 kt_X6_takeBack kv_X6_takeBack rfl ki_X6 kx_X6_takeBack ⟨by decide, by decide, by decide +kernel⟩ (by decide) (by decide) dL_act_183).r,
  List.forall_mem_cons.mpr ⟨STP.r mo_goto (q_goto dL_act_186 (by decide)),
  List.forall_mem_cons.mpr ⟨STP.r mo_al (q_aload_n dL_act_189 rfl),
  List.forall_mem_cons.mpr ⟨STP.r mo_il (q_iload_n dL_act_190 rfl),
  List.forall_mem_cons.mpr ⟨STP.r mo_ic (q_iconst dL_act_191 (by decide)),
  List.forall_mem_cons.mpr ⟨STP.r mo_il (q_iload_n dL_act_192 rfl),
  List.forall_mem_cons.mpr ⟨STP.r mo_ic (q_iconst dL_act_193 (by decide)),
  List.forall_mem_cons.mpr ⟨STP.r mo_b2 (q_ishr dL_act_194),
  List.forall_mem_cons.mpr ⟨STP.r mo_ic (q_bipush dL_act_195 (by decide)),
  List.forall_mem_cons.mpr ⟨(snd_CS sm_L_low km_L_47 ks_L_low ki_L kx_L_low ⟨by decide, by decide, by decide +kernel⟩ (by decide) (by decide) dL_act_197).r,
  List.forall_mem_cons.mpr ⟨STP.r mo_b2 (q_iadd dL_act_200),
  List.forall_mem_cons.mpr ⟨(snd_CV sm_X6_buyReserve ⟨by decide, by decide⟩ rfl km_L_69 kt_X6_buyReserve kv_X6_buyReserve rfl ki_X6 kx_X6_buyReserve ⟨by decide, by decide, by decide +kernel⟩ (by decide) (by decide) dL_act_201).r,
  List.forall_mem_cons.mpr ⟨r_iret dL_act_204,
  List.forall_mem_cons.mpr ⟨STP.r mo_il (q_iload dL_act_205),
  List.forall_mem_cons.mpr ⟨STP.r mo_ic (q_bipush dL_act_207 (by decide)),
  List.forall_mem_cons.mpr ⟨(q_ic_ne dL_act_209 (by decide)).r,
  List.forall_mem_cons.mpr ⟨STP.r mo_al (q_aload_n dL_act_212 rfl),
  List.forall_mem_cons.mpr ⟨STP.r mo_il (q_iload_n dL_act_213 rfl),
  List.forall_mem_cons.mpr ⟨STP.r mo_ic (q_iconst dL_act_214 (by decide)),
  List.forall_mem_cons.mpr ⟨STP.r mo_il (q_iload_n dL_act_215 rfl),
  List.forall_mem_cons.mpr ⟨STP.r mo_ic (q_bipush dL_act_216 (by decide)),
  List.forall_mem_cons.mpr ⟨(snd_CS sm_L_low km_L_47 ks_L_low ki_L kx_L_low ⟨by decide, by decide, by decide +kernel⟩ (by decide) (by decide) dL_act_218).r,
  List.forall_mem_cons.mpr ⟨STP.r mo_b2 (q_iadd dL_act_221),
  List.forall_mem_cons.mpr ⟨(snd_CV sm_X6_borrow ⟨by decide, by decide⟩ rfl km_L_72 kt_X6_borrow kv_X6_borrow rfl ki_X6 kx_X6_borrow ⟨by decide, by decide, by decide +kernel⟩ (by decide) (by decide) dL_act_222).r,
  List.forall_mem_cons.mpr ⟨r_iret dL_act_225,
  List.forall_mem_cons.mpr ⟨STP.r mo_il (q_iload dL_act_226),
  List.forall_mem_cons.mpr ⟨STP.r mo_ic (q_bipush dL_act_228 (by decide)),
  List.forall_mem_cons.mpr ⟨(q_ic_ne dL_act_230 (by decide)).r,
  List.forall_mem_cons.mpr ⟨STP.r mo_al (q_aload_n dL_act_233 rfl),
  List.forall_mem_cons.mpr ⟨STP.r mo_il (q_iload_n dL_act_234 rfl),
  List.forall_mem_cons.mpr ⟨STP.r mo_ic (q_iconst dL_act_235 (by decide)),
  List.forall_mem_cons.mpr ⟨(snd_CS sm_L_low km_L_47 ks_L_low ki_L kx_L_low ⟨by decide, by decide, by decide +kernel⟩ (by decide) (by decide) dL_act_236).r,
  List.forall_mem_cons.mpr ⟨STP.r mo_ic (q_iconst dL_act_239 (by decide)),
  List.forall_mem_cons.mpr ⟨STP.r mo_il (q_iload_n dL_act_240 rfl),
  List.forall_mem_cons.mpr ⟨STP.r mo_ic (q_iconst dL_act_241 (by decide)),
  List.forall_mem_cons.mpr ⟨STP.r mo_b2 (q_ishr dL_act_242),
  List.forall_mem_cons.mpr ⟨STP.r mo_ic (q_bipush dL_act_243 (by decide)),
  List.forall_mem_cons.mpr ⟨(snd_CS sm_L_low km_L_47 ks_L_low ki_L kx_L_low ⟨by decide, by decide, by decide +kernel⟩ (by decide) (by decide) dL_act_245).r,
  List.forall_mem_cons.mpr ⟨STP.r mo_b2 (q_iadd dL_act_248),
  List.forall_mem_cons.mpr ⟨(snd_CV sm_X6_set ⟨by decide, by decide⟩ rfl km_L_75 kt_X6_set kv_X6_set rfl ki_X6 kx_X6_set ⟨by decide, by decide, by decide +kernel⟩ (by decide) (by decide) dL_act_249).r,
  List.forall_mem_cons.mpr ⟨r_iret dL_act_252,
  List.forall_mem_cons.mpr ⟨STP.r mo_al (q_aload_n dL_act_253 rfl),
  List.forall_mem_cons.mpr ⟨(snd_CV sm_X6_endYear ⟨by decide, by decide⟩ rfl km_L_78 kt_X6_endYear kv_X6_endYear rfl ki_X6 kx_X6_endYear ⟨by decide, by decide, by decide +kernel⟩ (by decide) (by decide) dL_act_254).r,
  List.forall_mem_cons.mpr ⟨r_iret dL_act_257,
  fun _ h => absurd h List.not_mem_nil⟩⟩⟩⟩⟩⟩⟩⟩⟩⟩⟩⟩⟩⟩⟩⟩⟩⟩⟩⟩⟩⟩⟩⟩⟩⟩⟩⟩⟩⟩⟩⟩⟩⟩⟩⟩⟩⟩⟩⟩⟩⟩⟩⟩⟩⟩⟩⟩⟩⟩⟩⟩⟩⟩⟩⟩⟩⟩⟩⟩⟩⟩⟩⟩⟩⟩⟩⟩⟩⟩⟩⟩⟩⟩⟩⟩⟩⟩⟩⟩⟩⟩⟩⟩⟩⟩⟩⟩⟩⟩⟩⟩⟩⟩⟩⟩⟩⟩⟩⟩⟩⟩⟩⟩⟩⟩⟩⟩⟩⟩⟩⟩⟩⟩⟩⟩⟩⟩⟩⟩⟩⟩⟩⟩⟩⟩⟩⟩⟩⟩⟩⟩⟩⟩⟩⟩⟩⟩⟩⟩⟩⟩⟩⟩⟩⟩⟩⟩⟩⟩⟩)
set_option maxRecDepth 100000 in
theorem e_L_act_0 {Q : mQ} {l0 l2 l3 l4 l5 : Value} {st : List Value} {g : mG} {x : Int32} : WP m_L_act Q 0 [l0, .int x, l2, l3, l4, l5] st g = WP m_L_act Q 1 [l0, .int x, l2, l3, l4, l5] (.int x :: st) g := E_il (i := 1) (n := 1) lo_L_act rfl rfl
set_option maxRecDepth 100000 in
theorem e_L_act_1 {Q : mQ} {ls st : List Value} {g : mG} : WP m_L_act Q 1 ls st g = WP m_L_act Q 3 ls (.int (nI 8) :: st) g := E_ic (v := nI 8) (n := 2) lo_L_act rfl
set_option maxRecDepth 100000 in
theorem e_L_act_3 {Q : mQ} {ls st : List Value} {g : mG} {x y : Int32} : WP m_L_act Q 3 ls (.int y :: .int x :: st) g = WP m_L_act Q 4 ls (.int (x >>> (y &&& 31)) :: st) g := E_b2 (f := fun x y => x >>> (y &&& 31)) lo_L_act rfl
set_option maxRecDepth 100000 in
theorem e_L_act_4 {Q : mQ} {ls st : List Value} {g : mG} : WP m_L_act Q 4 ls st g = WP m_L_act Q 6 ls (.int (nI 6) :: st) g := E_ic (v := nI 6) (n := 2) lo_L_act rfl
set_option maxRecDepth 100000 in
theorem e_L_act_6 {Q : mQ} {ls st : List Value} {g : mG} {a0 a1 : Value} : WP m_L_act Q 6 ls (a1 :: a0 :: st) g = (st.length ≤ 4 ∧ stbs g ls ∧ stbs g st ∧ w_L_low [a0, a1] g (fun v g' => WP m_L_act Q 9 ls (v.toList ++ st) g')) := E_CS (ar := [a1, a0]) lo_L_act rfl rfl rfl
set_option maxRecDepth 100000 in
theorem e_L_act_9 {Q : mQ} {l0 l1 l2 l3 l4 l5 : Value} {st : List Value} {g : mG} {x : Int32} : WP m_L_act Q 9 [l0, l1, l2, l3, l4, l5] (.int x :: st) g = (nl1 l2 ∧ WP m_L_act Q 10 [l0, l1, l2, .int x, l4, l5] st g) := E_is (i := 3) (n := 1) lo_L_act rfl (Nat.le_of_ble_eq_true rfl)
set_option maxRecDepth 100000 in
theorem e_L_act_10 {Q : mQ} {l0 l2 l3 l4 l5 : Value} {st : List Value} {g : mG} {x : Int32} : WP m_L_act Q 10 [l0, .int x, l2, l3, l4, l5] st g = WP m_L_act Q 11 [l0, .int x, l2, l3, l4, l5] (.int x :: st) g := E_il (i := 1) (n := 1) lo_L_act rfl rfl
set_option maxRecDepth 100000 in
theorem e_L_act_11 {Q : mQ} {ls st : List Value} {g : mG} : WP m_L_act Q 11 ls st g = WP m_L_act Q 12 ls (.int (nI 3) :: st) g := E_ic (v := nI 3) (n := 1) lo_L_act rfl
set_option maxRecDepth 100000 in
theorem e_L_act_12 {Q : mQ} {ls st : List Value} {g : mG} {x y : Int32} : WP m_L_act Q 12 ls (.int y :: .int x :: st) g = WP m_L_act Q 13 ls (.int (x >>> (y &&& 31)) :: st) g := E_b2 (f := fun x y => x >>> (y &&& 31)) lo_L_act rfl
set_option maxRecDepth 100000 in
theorem e_L_act_13 {Q : mQ} {ls st : List Value} {g : mG} : WP m_L_act Q 13 ls st g = WP m_L_act Q 15 ls (.int (nI 14) :: st) g := E_ic (v := nI 14) (n := 2) lo_L_act rfl
set_option maxRecDepth 100000 in
theorem e_L_act_15 {Q : mQ} {ls st : List Value} {g : mG} {a0 a1 : Value} : WP m_L_act Q 15 ls (a1 :: a0 :: st) g = (st.length ≤ 4 ∧ stbs g ls ∧ stbs g st ∧ w_L_low [a0, a1] g (fun v g' => WP m_L_act Q 18 ls (v.toList ++ st) g')) := E_CS (ar := [a1, a0]) lo_L_act rfl rfl rfl
set_option maxRecDepth 100000 in
theorem e_L_act_18 {Q : mQ} {l0 l1 l2 l3 l4 l5 : Value} {st : List Value} {g : mG} {x : Int32} : WP m_L_act Q 18 [l0, l1, l2, l3, l4, l5] (.int x :: st) g = (nl1 l3 ∧ WP m_L_act Q 20 [l0, l1, l2, l3, .int x, l5] st g) := E_is (i := 4) (n := 2) lo_L_act rfl (Nat.le_of_ble_eq_true rfl)
set_option maxRecDepth 100000 in
theorem e_L_act_20 {Q : mQ} {l0 l1 l2 l3 l5 : Value} {st : List Value} {g : mG} {x : Int32} : WP m_L_act Q 20 [l0, l1, l2, l3, .int x, l5] st g = WP m_L_act Q 22 [l0, l1, l2, l3, .int x, l5] (.int x :: st) g := E_il (i := 4) (n := 2) lo_L_act rfl rfl
set_option maxRecDepth 100000 in
theorem e_L_act_22 {Q : mQ} {ls st : List Value} {g : mG} : WP m_L_act Q 22 ls st g = WP m_L_act Q 23 ls (.int (nI 2) :: st) g := E_ic (v := nI 2) (n := 1) lo_L_act rfl
set_option maxRecDepth 100000 in
theorem e_L_act_23 {Q : mQ} {ls st : List Value} {g : mG} {x y : Int32} : WP m_L_act Q 23 ls (.int y :: .int x :: st) g = ((y ≤ x → WP m_L_act Q 40 ls st g) ∧ (¬ (y ≤ x) → WP m_L_act Q 26 ls st g)) := E_I2 (c := fun x y => y ≤ x) (t := 40) lo_L_act rfl
set_option maxRecDepth 100000 in
theorem e_L_act_26 {Q : mQ} {l1 l2 l3 l4 l5 : Value} {st : List Value} {g : mG} {x : Nat} : WP m_L_act Q 26 [.ref x, l1, l2, l3, l4, l5] st g = WP m_L_act Q 27 [.ref x, l1, l2, l3, l4, l5] (.ref x :: st) g := E_al (i := 0) (n := 1) lo_L_act rfl rfl
set_option maxRecDepth 100000 in
theorem e_L_act_26n {Q : mQ} {l1 l2 l3 l4 l5 : Value} {st : List Value} {g : mG} : WP m_L_act Q 26 [.null, l1, l2, l3, l4, l5] st g = WP m_L_act Q 27 [.null, l1, l2, l3, l4, l5] (.null :: st) g := E_aln (i := 0) (n := 1) lo_L_act rfl rfl
set_option maxRecDepth 100000 in
theorem e_L_act_27 {Q : mQ} {l0 l1 l2 l4 l5 : Value} {st : List Value} {g : mG} {x : Int32} : WP m_L_act Q 27 [l0, l1, l2, .int x, l4, l5] st g = WP m_L_act Q 28 [l0, l1, l2, .int x, l4, l5] (.int x :: st) g := E_il (i := 3) (n := 1) lo_L_act rfl rfl
set_option maxRecDepth 100000 in
theorem e_L_act_28 {Q : mQ} {ls st : List Value} {g : mG} : WP m_L_act Q 28 ls st g = WP m_L_act Q 29 ls (.int (nI 1) :: st) g := E_ic (v := nI 1) (n := 1) lo_L_act rfl
set_option maxRecDepth 100000 in
theorem e_L_act_29 {Q : mQ} {l0 l1 l3 l4 l5 : Value} {st : List Value} {g : mG} {x : Int32} : WP m_L_act Q 29 [l0, l1, .int x, l3, l4, l5] st g = WP m_L_act Q 30 [l0, l1, .int x, l3, l4, l5] (.int x :: st) g := E_il (i := 2) (n := 1) lo_L_act rfl rfl
set_option maxRecDepth 100000 in
theorem e_L_act_30 {Q : mQ} {ls st : List Value} {g : mG} : WP m_L_act Q 30 ls st g = WP m_L_act Q 32 ls (.int (nI 60) :: st) g := E_ic (v := nI 60) (n := 2) lo_L_act rfl
set_option maxRecDepth 100000 in
theorem e_L_act_32 {Q : mQ} {ls st : List Value} {g : mG} {a0 a1 : Value} : WP m_L_act Q 32 ls (a1 :: a0 :: st) g = (st.length ≤ 4 ∧ stbs g ls ∧ stbs g st ∧ w_L_low [a0, a1] g (fun v g' => WP m_L_act Q 35 ls (v.toList ++ st) g')) := E_CS (ar := [a1, a0]) lo_L_act rfl rfl rfl
set_option maxRecDepth 100000 in
theorem e_L_act_35 {Q : mQ} {ls st : List Value} {g : mG} {x y : Int32} : WP m_L_act Q 35 ls (.int y :: .int x :: st) g = WP m_L_act Q 36 ls (.int (x + y) :: st) g := E_b2 (f := fun x y => x + y) lo_L_act rfl
set_option maxRecDepth 100000 in
theorem e_L_act_36 {Q : mQ} {ls st : List Value} {g : mG} {b : Nat} {a0 a1 : Value} : WP m_L_act Q 36 ls (a1 :: a0 :: .ref b :: st) g = (st.length ≤ 4 ∧ gK g b = 7 ∧ stbs g ls ∧ stbs g st ∧ w_X6_issue [.ref b, a0, a1] g (fun v g' => WP m_L_act Q 39 ls (v.toList ++ st) g')) := E_CV (ar := [a1, a0, .ref b]) lo_L_act rfl rfl rfl (by decide)
set_option maxRecDepth 100000 in
theorem e_L_act_39 {Q : mQ} {ls : List Value} {g : mG} {v : Int32} : WP m_L_act Q 39 ls [.int v] g = Q (some (.int v)) g := E_iret lo_L_act rfl
set_option maxRecDepth 100000 in
theorem e_L_act_40 {Q : mQ} {l0 l1 l2 l3 l5 : Value} {st : List Value} {g : mG} {x : Int32} : WP m_L_act Q 40 [l0, l1, l2, l3, .int x, l5] st g = WP m_L_act Q 42 [l0, l1, l2, l3, .int x, l5] (.int x :: st) g := E_il (i := 4) (n := 2) lo_L_act rfl rfl
set_option maxRecDepth 100000 in
theorem e_L_act_42 {Q : mQ} {ls st : List Value} {g : mG} : WP m_L_act Q 42 ls st g = WP m_L_act Q 43 ls (.int (nI 2) :: st) g := E_ic (v := nI 2) (n := 1) lo_L_act rfl
set_option maxRecDepth 100000 in
theorem e_L_act_43 {Q : mQ} {ls st : List Value} {g : mG} {x y : Int32} : WP m_L_act Q 43 ls (.int y :: .int x :: st) g = ((¬ x = y → WP m_L_act Q 75 ls st g) ∧ (¬ (¬ x = y) → WP m_L_act Q 46 ls st g)) := E_I2 (c := fun x y => ¬ x = y) (t := 75) lo_L_act rfl
set_option maxRecDepth 100000 in
theorem e_L_act_46 {Q : mQ} {ls st : List Value} {g : mG} : WP m_L_act Q 46 ls st g = WP m_L_act Q 47 ls (.int (nI 1) :: st) g := E_ic (v := nI 1) (n := 1) lo_L_act rfl
set_option maxRecDepth 100000 in
theorem e_L_act_47 {Q : mQ} {l0 l1 l3 l4 l5 : Value} {st : List Value} {g : mG} {x : Int32} : WP m_L_act Q 47 [l0, l1, .int x, l3, l4, l5] st g = WP m_L_act Q 48 [l0, l1, .int x, l3, l4, l5] (.int x :: st) g := E_il (i := 2) (n := 1) lo_L_act rfl rfl
set_option maxRecDepth 100000 in
theorem e_L_act_48 {Q : mQ} {ls st : List Value} {g : mG} : WP m_L_act Q 48 ls st g = WP m_L_act Q 50 ls (.int (nI 90) :: st) g := E_ic (v := nI 90) (n := 2) lo_L_act rfl
set_option maxRecDepth 100000 in
theorem e_L_act_50 {Q : mQ} {ls st : List Value} {g : mG} {a0 a1 : Value} : WP m_L_act Q 50 ls (a1 :: a0 :: st) g = (st.length ≤ 4 ∧ stbs g ls ∧ stbs g st ∧ w_L_low [a0, a1] g (fun v g' => WP m_L_act Q 53 ls (v.toList ++ st) g')) := E_CS (ar := [a1, a0]) lo_L_act rfl rfl rfl
set_option maxRecDepth 100000 in
theorem e_L_act_53 {Q : mQ} {ls st : List Value} {g : mG} {x y : Int32} : WP m_L_act Q 53 ls (.int y :: .int x :: st) g = WP m_L_act Q 54 ls (.int (x + y) :: st) g := E_b2 (f := fun x y => x + y) lo_L_act rfl
set_option maxRecDepth 100000 in
theorem e_L_act_54 {Q : mQ} {l0 l1 l2 l3 l4 l5 : Value} {st : List Value} {g : mG} {x : Int32} : WP m_L_act Q 54 [l0, l1, l2, l3, l4, l5] (.int x :: st) g = (nl1 l4 ∧ WP m_L_act Q 56 [l0, l1, l2, l3, l4, .int x] st g) := E_is (i := 5) (n := 2) lo_L_act rfl (Nat.le_of_ble_eq_true rfl)
set_option maxRecDepth 100000 in
theorem e_L_act_56 {Q : mQ} {l1 l2 l3 l4 l5 : Value} {st : List Value} {g : mG} {x : Nat} : WP m_L_act Q 56 [.ref x, l1, l2, l3, l4, l5] st g = WP m_L_act Q 57 [.ref x, l1, l2, l3, l4, l5] (.ref x :: st) g := E_al (i := 0) (n := 1) lo_L_act rfl rfl
set_option maxRecDepth 100000 in
theorem e_L_act_56n {Q : mQ} {l1 l2 l3 l4 l5 : Value} {st : List Value} {g : mG} : WP m_L_act Q 56 [.null, l1, l2, l3, l4, l5] st g = WP m_L_act Q 57 [.null, l1, l2, l3, l4, l5] (.null :: st) g := E_aln (i := 0) (n := 1) lo_L_act rfl rfl
set_option maxRecDepth 100000 in
theorem e_L_act_57 {Q : mQ} {l0 l1 l2 l4 l5 : Value} {st : List Value} {g : mG} {x : Int32} : WP m_L_act Q 57 [l0, l1, l2, .int x, l4, l5] st g = WP m_L_act Q 58 [l0, l1, l2, .int x, l4, l5] (.int x :: st) g := E_il (i := 3) (n := 1) lo_L_act rfl rfl
set_option maxRecDepth 100000 in
theorem e_L_act_58 {Q : mQ} {l0 l1 l2 l3 l4 : Value} {st : List Value} {g : mG} {x : Int32} : WP m_L_act Q 58 [l0, l1, l2, l3, l4, .int x] st g = WP m_L_act Q 60 [l0, l1, l2, l3, l4, .int x] (.int x :: st) g := E_il (i := 5) (n := 2) lo_L_act rfl rfl
set_option maxRecDepth 100000 in
theorem e_L_act_60 {Q : mQ} {l0 l1 l3 l4 l5 : Value} {st : List Value} {g : mG} {x : Int32} : WP m_L_act Q 60 [l0, l1, .int x, l3, l4, l5] st g = WP m_L_act Q 61 [l0, l1, .int x, l3, l4, l5] (.int x :: st) g := E_il (i := 2) (n := 1) lo_L_act rfl rfl
set_option maxRecDepth 100000 in
theorem e_L_act_61 {Q : mQ} {ls st : List Value} {g : mG} : WP m_L_act Q 61 ls st g = WP m_L_act Q 63 ls (.int (nI 7) :: st) g := E_ic (v := nI 7) (n := 2) lo_L_act rfl
set_option maxRecDepth 100000 in
theorem e_L_act_63 {Q : mQ} {ls st : List Value} {g : mG} {x y : Int32} : WP m_L_act Q 63 ls (.int y :: .int x :: st) g = WP m_L_act Q 64 ls (.int (x >>> (y &&& 31)) :: st) g := E_b2 (f := fun x y => x >>> (y &&& 31)) lo_L_act rfl
set_option maxRecDepth 100000 in
theorem e_L_act_64 {Q : mQ} {l0 l1 l2 l3 l4 : Value} {st : List Value} {g : mG} {x : Int32} : WP m_L_act Q 64 [l0, l1, l2, l3, l4, .int x] st g = WP m_L_act Q 66 [l0, l1, l2, l3, l4, .int x] (.int x :: st) g := E_il (i := 5) (n := 2) lo_L_act rfl rfl
set_option maxRecDepth 100000 in
theorem e_L_act_66 {Q : mQ} {ls st : List Value} {g : mG} : WP m_L_act Q 66 ls st g = WP m_L_act Q 67 ls (.int (nI 1) :: st) g := E_ic (v := nI 1) (n := 1) lo_L_act rfl
set_option maxRecDepth 100000 in
theorem e_L_act_67 {Q : mQ} {ls st : List Value} {g : mG} {x y : Int32} : WP m_L_act Q 67 ls (.int y :: .int x :: st) g = WP m_L_act Q 68 ls (.int (x + y) :: st) g := E_b2 (f := fun x y => x + y) lo_L_act rfl
set_option maxRecDepth 100000 in
theorem e_L_act_68 {Q : mQ} {ls st : List Value} {g : mG} {a0 a1 : Value} : WP m_L_act Q 68 ls (a1 :: a0 :: st) g = (st.length ≤ 4 ∧ stbs g ls ∧ stbs g st ∧ w_L_low [a0, a1] g (fun v g' => WP m_L_act Q 71 ls (v.toList ++ st) g')) := E_CS (ar := [a1, a0]) lo_L_act rfl rfl rfl
set_option maxRecDepth 100000 in
theorem e_L_act_71 {Q : mQ} {ls st : List Value} {g : mG} {b : Nat} {a0 a1 a2 : Value} : WP m_L_act Q 71 ls (a2 :: a1 :: a0 :: .ref b :: st) g = (st.length ≤ 4 ∧ gK g b = 7 ∧ stbs g ls ∧ stbs g st ∧ w_X6_fire [.ref b, a0, a1, a2] g (fun v g' => WP m_L_act Q 74 ls (v.toList ++ st) g')) := E_CV (ar := [a2, a1, a0, .ref b]) lo_L_act rfl rfl rfl (by decide)
set_option maxRecDepth 100000 in
theorem e_L_act_74 {Q : mQ} {ls : List Value} {g : mG} {v : Int32} : WP m_L_act Q 74 ls [.int v] g = Q (some (.int v)) g := E_iret lo_L_act rfl
set_option maxRecDepth 100000 in
theorem e_L_act_75 {Q : mQ} {l0 l1 l2 l3 l5 : Value} {st : List Value} {g : mG} {x : Int32} : WP m_L_act Q 75 [l0, l1, l2, l3, .int x, l5] st g = WP m_L_act Q 77 [l0, l1, l2, l3, .int x, l5] (.int x :: st) g := E_il (i := 4) (n := 2) lo_L_act rfl rfl
set_option maxRecDepth 100000 in
theorem e_L_act_77 {Q : mQ} {ls st : List Value} {g : mG} : WP m_L_act Q 77 ls st g = WP m_L_act Q 78 ls (.int (nI 3) :: st) g := E_ic (v := nI 3) (n := 1) lo_L_act rfl
set_option maxRecDepth 100000 in
theorem e_L_act_78 {Q : mQ} {ls st : List Value} {g : mG} {x y : Int32} : WP m_L_act Q 78 ls (.int y :: .int x :: st) g = ((¬ x = y → WP m_L_act Q 87 ls st g) ∧ (¬ (¬ x = y) → WP m_L_act Q 81 ls st g)) := E_I2 (c := fun x y => ¬ x = y) (t := 87) lo_L_act rfl
set_option maxRecDepth 100000 in
theorem e_L_act_81 {Q : mQ} {l1 l2 l3 l4 l5 : Value} {st : List Value} {g : mG} {x : Nat} : WP m_L_act Q 81 [.ref x, l1, l2, l3, l4, l5] st g = WP m_L_act Q 82 [.ref x, l1, l2, l3, l4, l5] (.ref x :: st) g := E_al (i := 0) (n := 1) lo_L_act rfl rfl
set_option maxRecDepth 100000 in
theorem e_L_act_81n {Q : mQ} {l1 l2 l3 l4 l5 : Value} {st : List Value} {g : mG} : WP m_L_act Q 81 [.null, l1, l2, l3, l4, l5] st g = WP m_L_act Q 82 [.null, l1, l2, l3, l4, l5] (.null :: st) g := E_aln (i := 0) (n := 1) lo_L_act rfl rfl
set_option maxRecDepth 100000 in
theorem e_L_act_82 {Q : mQ} {l0 l1 l2 l4 l5 : Value} {st : List Value} {g : mG} {x : Int32} : WP m_L_act Q 82 [l0, l1, l2, .int x, l4, l5] st g = WP m_L_act Q 83 [l0, l1, l2, .int x, l4, l5] (.int x :: st) g := E_il (i := 3) (n := 1) lo_L_act rfl rfl
set_option maxRecDepth 100000 in
theorem e_L_act_83 {Q : mQ} {ls st : List Value} {g : mG} {b : Nat} {a0 : Value} : WP m_L_act Q 83 ls (a0 :: .ref b :: st) g = (st.length ≤ 4 ∧ gK g b = 7 ∧ stbs g ls ∧ stbs g st ∧ w_X6_audit [.ref b, a0] g (fun v g' => WP m_L_act Q 86 ls (v.toList ++ st) g')) := E_CV (ar := [a0, .ref b]) lo_L_act rfl rfl rfl (by decide)
set_option maxRecDepth 100000 in
theorem e_L_act_86 {Q : mQ} {ls : List Value} {g : mG} {v : Int32} : WP m_L_act Q 86 ls [.int v] g = Q (some (.int v)) g := E_iret lo_L_act rfl
set_option maxRecDepth 100000 in
theorem e_L_act_87 {Q : mQ} {l0 l1 l2 l3 l5 : Value} {st : List Value} {g : mG} {x : Int32} : WP m_L_act Q 87 [l0, l1, l2, l3, .int x, l5] st g = WP m_L_act Q 89 [l0, l1, l2, l3, .int x, l5] (.int x :: st) g := E_il (i := 4) (n := 2) lo_L_act rfl rfl
set_option maxRecDepth 100000 in
theorem e_L_act_89 {Q : mQ} {ls st : List Value} {g : mG} : WP m_L_act Q 89 ls st g = WP m_L_act Q 91 ls (.int (nI 7) :: st) g := E_ic (v := nI 7) (n := 2) lo_L_act rfl
set_option maxRecDepth 100000 in
theorem e_L_act_91 {Q : mQ} {ls st : List Value} {g : mG} {x y : Int32} : WP m_L_act Q 91 ls (.int y :: .int x :: st) g = ((y ≤ x → WP m_L_act Q 123 ls st g) ∧ (¬ (y ≤ x) → WP m_L_act Q 94 ls st g)) := E_I2 (c := fun x y => y ≤ x) (t := 123) lo_L_act rfl
set_option maxRecDepth 100000 in
theorem e_L_act_94 {Q : mQ} {l1 l2 l3 l4 l5 : Value} {st : List Value} {g : mG} {x : Nat} : WP m_L_act Q 94 [.ref x, l1, l2, l3, l4, l5] st g = WP m_L_act Q 95 [.ref x, l1, l2, l3, l4, l5] (.ref x :: st) g := E_al (i := 0) (n := 1) lo_L_act rfl rfl
set_option maxRecDepth 100000 in
theorem e_L_act_94n {Q : mQ} {l1 l2 l3 l4 l5 : Value} {st : List Value} {g : mG} : WP m_L_act Q 94 [.null, l1, l2, l3, l4, l5] st g = WP m_L_act Q 95 [.null, l1, l2, l3, l4, l5] (.null :: st) g := E_aln (i := 0) (n := 1) lo_L_act rfl rfl
set_option maxRecDepth 100000 in
theorem e_L_act_95 {Q : mQ} {l0 l1 l2 l4 l5 : Value} {st : List Value} {g : mG} {x : Int32} : WP m_L_act Q 95 [l0, l1, l2, .int x, l4, l5] st g = WP m_L_act Q 96 [l0, l1, l2, .int x, l4, l5] (.int x :: st) g := E_il (i := 3) (n := 1) lo_L_act rfl rfl
set_option maxRecDepth 100000 in
theorem e_L_act_96 {Q : mQ} {ls st : List Value} {g : mG} : WP m_L_act Q 96 ls st g = WP m_L_act Q 97 ls (.int (nI 1) :: st) g := E_ic (v := nI 1) (n := 1) lo_L_act rfl
set_option maxRecDepth 100000 in
theorem e_L_act_97 {Q : mQ} {l0 l1 l3 l4 l5 : Value} {st : List Value} {g : mG} {x : Int32} : WP m_L_act Q 97 [l0, l1, .int x, l3, l4, l5] st g = WP m_L_act Q 98 [l0, l1, .int x, l3, l4, l5] (.int x :: st) g := E_il (i := 2) (n := 1) lo_L_act rfl rfl
set_option maxRecDepth 100000 in
theorem e_L_act_98 {Q : mQ} {ls st : List Value} {g : mG} : WP m_L_act Q 98 ls st g = WP m_L_act Q 100 ls (.int (nI 12) :: st) g := E_ic (v := nI 12) (n := 2) lo_L_act rfl
set_option maxRecDepth 100000 in
theorem e_L_act_100 {Q : mQ} {ls st : List Value} {g : mG} {a0 a1 : Value} : WP m_L_act Q 100 ls (a1 :: a0 :: st) g = (st.length ≤ 4 ∧ stbs g ls ∧ stbs g st ∧ w_L_low [a0, a1] g (fun v g' => WP m_L_act Q 103 ls (v.toList ++ st) g')) := E_CS (ar := [a1, a0]) lo_L_act rfl rfl rfl
set_option maxRecDepth 100000 in
theorem e_L_act_103 {Q : mQ} {ls st : List Value} {g : mG} {x y : Int32} : WP m_L_act Q 103 ls (.int y :: .int x :: st) g = WP m_L_act Q 104 ls (.int (x + y) :: st) g := E_b2 (f := fun x y => x + y) lo_L_act rfl
set_option maxRecDepth 100000 in
theorem e_L_act_104 {Q : mQ} {l1 l2 l3 l4 l5 : Value} {st : List Value} {g : mG} {x : Nat} : WP m_L_act Q 104 [.ref x, l1, l2, l3, l4, l5] st g = WP m_L_act Q 105 [.ref x, l1, l2, l3, l4, l5] (.ref x :: st) g := E_al (i := 0) (n := 1) lo_L_act rfl rfl
set_option maxRecDepth 100000 in
theorem e_L_act_104n {Q : mQ} {l1 l2 l3 l4 l5 : Value} {st : List Value} {g : mG} : WP m_L_act Q 104 [.null, l1, l2, l3, l4, l5] st g = WP m_L_act Q 105 [.null, l1, l2, l3, l4, l5] (.null :: st) g := E_aln (i := 0) (n := 1) lo_L_act rfl rfl
set_option maxRecDepth 100000 in
theorem e_L_act_105 {Q : mQ} {ls st : List Value} {g : mG} : WP m_L_act Q 105 ls st g = WP m_L_act Q 107 ls (.int (nI 14) :: st) g := E_ic (v := nI 14) (n := 2) lo_L_act rfl
set_option maxRecDepth 100000 in
theorem e_L_act_107 {Q : mQ} {ls st : List Value} {g : mG} {b : Nat} {a0 : Value} : WP m_L_act Q 107 ls (a0 :: .ref b :: st) g = (st.length ≤ 4 ∧ gK g b = 7 ∧ stbs g ls ∧ stbs g st ∧ w_X6_count [.ref b, a0] g (fun v g' => WP m_L_act Q 110 ls (v.toList ++ st) g')) := E_CV (ar := [a0, .ref b]) lo_L_act rfl rfl rfl (by decide)
set_option maxRecDepth 100000 in
theorem e_L_act_110 {Q : mQ} {l0 l1 l3 l4 l5 : Value} {st : List Value} {g : mG} {x : Int32} : WP m_L_act Q 110 [l0, l1, .int x, l3, l4, l5] st g = WP m_L_act Q 111 [l0, l1, .int x, l3, l4, l5] (.int x :: st) g := E_il (i := 2) (n := 1) lo_L_act rfl rfl
set_option maxRecDepth 100000 in
theorem e_L_act_111 {Q : mQ} {ls st : List Value} {g : mG} : WP m_L_act Q 111 ls st g = WP m_L_act Q 112 ls (.int (nI 4) :: st) g := E_ic (v := nI 4) (n := 1) lo_L_act rfl
set_option maxRecDepth 100000 in
theorem e_L_act_112 {Q : mQ} {ls st : List Value} {g : mG} {x y : Int32} : WP m_L_act Q 112 ls (.int y :: .int x :: st) g = WP m_L_act Q 113 ls (.int (x >>> (y &&& 31)) :: st) g := E_b2 (f := fun x y => x >>> (y &&& 31)) lo_L_act rfl
set_option maxRecDepth 100000 in
theorem e_L_act_113 {Q : mQ} {ls st : List Value} {g : mG} : WP m_L_act Q 113 ls st g = WP m_L_act Q 115 ls (.int (nI 30) :: st) g := E_ic (v := nI 30) (n := 2) lo_L_act rfl
set_option maxRecDepth 100000 in
theorem e_L_act_115 {Q : mQ} {ls st : List Value} {g : mG} {a0 a1 : Value} : WP m_L_act Q 115 ls (a1 :: a0 :: st) g = (st.length ≤ 4 ∧ stbs g ls ∧ stbs g st ∧ w_L_low [a0, a1] g (fun v g' => WP m_L_act Q 118 ls (v.toList ++ st) g')) := E_CS (ar := [a1, a0]) lo_L_act rfl rfl rfl
set_option maxRecDepth 100000 in
theorem e_L_act_118 {Q : mQ} {ls st : List Value} {g : mG} {x y : Int32} : WP m_L_act Q 118 ls (.int y :: .int x :: st) g = WP m_L_act Q 119 ls (.int (x + y) :: st) g := E_b2 (f := fun x y => x + y) lo_L_act rfl
set_option maxRecDepth 100000 in
theorem e_L_act_119 {Q : mQ} {ls st : List Value} {g : mG} {b : Nat} {a0 a1 a2 : Value} : WP m_L_act Q 119 ls (a2 :: a1 :: a0 :: .ref b :: st) g = (st.length ≤ 4 ∧ gK g b = 7 ∧ stbs g ls ∧ stbs g st ∧ w_X6_bid [.ref b, a0, a1, a2] g (fun v g' => WP m_L_act Q 122 ls (v.toList ++ st) g')) := E_CV (ar := [a2, a1, a0, .ref b]) lo_L_act rfl rfl rfl (by decide)
set_option maxRecDepth 100000 in
theorem e_L_act_122 {Q : mQ} {ls : List Value} {g : mG} {v : Int32} : WP m_L_act Q 122 ls [.int v] g = Q (some (.int v)) g := E_iret lo_L_act rfl
set_option maxRecDepth 100000 in
theorem e_L_act_123 {Q : mQ} {l0 l1 l2 l3 l5 : Value} {st : List Value} {g : mG} {x : Int32} : WP m_L_act Q 123 [l0, l1, l2, l3, .int x, l5] st g = WP m_L_act Q 125 [l0, l1, l2, l3, .int x, l5] (.int x :: st) g := E_il (i := 4) (n := 2) lo_L_act rfl rfl
set_option maxRecDepth 100000 in
theorem e_L_act_125 {Q : mQ} {ls st : List Value} {g : mG} : WP m_L_act Q 125 ls st g = WP m_L_act Q 127 ls (.int (nI 10) :: st) g := E_ic (v := nI 10) (n := 2) lo_L_act rfl
set_option maxRecDepth 100000 in
theorem e_L_act_127 {Q : mQ} {ls st : List Value} {g : mG} {x y : Int32} : WP m_L_act Q 127 ls (.int y :: .int x :: st) g = ((y ≤ x → WP m_L_act Q 159 ls st g) ∧ (¬ (y ≤ x) → WP m_L_act Q 130 ls st g)) := E_I2 (c := fun x y => y ≤ x) (t := 159) lo_L_act rfl
set_option maxRecDepth 100000 in
theorem e_L_act_130 {Q : mQ} {l1 l2 l3 l4 l5 : Value} {st : List Value} {g : mG} {x : Nat} : WP m_L_act Q 130 [.ref x, l1, l2, l3, l4, l5] st g = WP m_L_act Q 131 [.ref x, l1, l2, l3, l4, l5] (.ref x :: st) g := E_al (i := 0) (n := 1) lo_L_act rfl rfl
set_option maxRecDepth 100000 in
theorem e_L_act_130n {Q : mQ} {l1 l2 l3 l4 l5 : Value} {st : List Value} {g : mG} : WP m_L_act Q 130 [.null, l1, l2, l3, l4, l5] st g = WP m_L_act Q 131 [.null, l1, l2, l3, l4, l5] (.null :: st) g := E_aln (i := 0) (n := 1) lo_L_act rfl rfl
set_option maxRecDepth 100000 in
theorem e_L_act_131 {Q : mQ} {l0 l1 l2 l4 l5 : Value} {st : List Value} {g : mG} {x : Int32} : WP m_L_act Q 131 [l0, l1, l2, .int x, l4, l5] st g = WP m_L_act Q 132 [l0, l1, l2, .int x, l4, l5] (.int x :: st) g := E_il (i := 3) (n := 1) lo_L_act rfl rfl
set_option maxRecDepth 100000 in
theorem e_L_act_132 {Q : mQ} {ls st : List Value} {g : mG} : WP m_L_act Q 132 ls st g = WP m_L_act Q 133 ls (.int (nI 1) :: st) g := E_ic (v := nI 1) (n := 1) lo_L_act rfl
set_option maxRecDepth 100000 in
theorem e_L_act_133 {Q : mQ} {l0 l1 l3 l4 l5 : Value} {st : List Value} {g : mG} {x : Int32} : WP m_L_act Q 133 [l0, l1, .int x, l3, l4, l5] st g = WP m_L_act Q 134 [l0, l1, .int x, l3, l4, l5] (.int x :: st) g := E_il (i := 2) (n := 1) lo_L_act rfl rfl
set_option maxRecDepth 100000 in
theorem e_L_act_134 {Q : mQ} {ls st : List Value} {g : mG} : WP m_L_act Q 134 ls st g = WP m_L_act Q 136 ls (.int (nI 20) :: st) g := E_ic (v := nI 20) (n := 2) lo_L_act rfl
set_option maxRecDepth 100000 in
theorem e_L_act_136 {Q : mQ} {ls st : List Value} {g : mG} {a0 a1 : Value} : WP m_L_act Q 136 ls (a1 :: a0 :: st) g = (st.length ≤ 4 ∧ stbs g ls ∧ stbs g st ∧ w_L_low [a0, a1] g (fun v g' => WP m_L_act Q 139 ls (v.toList ++ st) g')) := E_CS (ar := [a1, a0]) lo_L_act rfl rfl rfl
set_option maxRecDepth 100000 in
theorem e_L_act_139 {Q : mQ} {ls st : List Value} {g : mG} {x y : Int32} : WP m_L_act Q 139 ls (.int y :: .int x :: st) g = WP m_L_act Q 140 ls (.int (x + y) :: st) g := E_b2 (f := fun x y => x + y) lo_L_act rfl
set_option maxRecDepth 100000 in
theorem e_L_act_140 {Q : mQ} {l1 l2 l3 l4 l5 : Value} {st : List Value} {g : mG} {x : Nat} : WP m_L_act Q 140 [.ref x, l1, l2, l3, l4, l5] st g = WP m_L_act Q 141 [.ref x, l1, l2, l3, l4, l5] (.ref x :: st) g := E_al (i := 0) (n := 1) lo_L_act rfl rfl
set_option maxRecDepth 100000 in
theorem e_L_act_140n {Q : mQ} {l1 l2 l3 l4 l5 : Value} {st : List Value} {g : mG} : WP m_L_act Q 140 [.null, l1, l2, l3, l4, l5] st g = WP m_L_act Q 141 [.null, l1, l2, l3, l4, l5] (.null :: st) g := E_aln (i := 0) (n := 1) lo_L_act rfl rfl
set_option maxRecDepth 100000 in
theorem e_L_act_141 {Q : mQ} {ls st : List Value} {g : mG} : WP m_L_act Q 141 ls st g = WP m_L_act Q 143 ls (.int (nI 14) :: st) g := E_ic (v := nI 14) (n := 2) lo_L_act rfl
set_option maxRecDepth 100000 in
theorem e_L_act_143 {Q : mQ} {ls st : List Value} {g : mG} {b : Nat} {a0 : Value} : WP m_L_act Q 143 ls (a0 :: .ref b :: st) g = (st.length ≤ 4 ∧ gK g b = 7 ∧ stbs g ls ∧ stbs g st ∧ w_X6_count [.ref b, a0] g (fun v g' => WP m_L_act Q 146 ls (v.toList ++ st) g')) := E_CV (ar := [a0, .ref b]) lo_L_act rfl rfl rfl (by decide)
set_option maxRecDepth 100000 in
theorem e_L_act_146 {Q : mQ} {l0 l1 l3 l4 l5 : Value} {st : List Value} {g : mG} {x : Int32} : WP m_L_act Q 146 [l0, l1, .int x, l3, l4, l5] st g = WP m_L_act Q 147 [l0, l1, .int x, l3, l4, l5] (.int x :: st) g := E_il (i := 2) (n := 1) lo_L_act rfl rfl
set_option maxRecDepth 100000 in
theorem e_L_act_147 {Q : mQ} {ls st : List Value} {g : mG} : WP m_L_act Q 147 ls st g = WP m_L_act Q 148 ls (.int (nI 5) :: st) g := E_ic (v := nI 5) (n := 1) lo_L_act rfl
set_option maxRecDepth 100000 in
theorem e_L_act_148 {Q : mQ} {ls st : List Value} {g : mG} {x y : Int32} : WP m_L_act Q 148 ls (.int y :: .int x :: st) g = WP m_L_act Q 149 ls (.int (x >>> (y &&& 31)) :: st) g := E_b2 (f := fun x y => x >>> (y &&& 31)) lo_L_act rfl
set_option maxRecDepth 100000 in
theorem e_L_act_149 {Q : mQ} {ls st : List Value} {g : mG} : WP m_L_act Q 149 ls st g = WP m_L_act Q 151 ls (.int (nI 30) :: st) g := E_ic (v := nI 30) (n := 2) lo_L_act rfl
set_option maxRecDepth 100000 in
theorem e_L_act_151 {Q : mQ} {ls st : List Value} {g : mG} {a0 a1 : Value} : WP m_L_act Q 151 ls (a1 :: a0 :: st) g = (st.length ≤ 4 ∧ stbs g ls ∧ stbs g st ∧ w_L_low [a0, a1] g (fun v g' => WP m_L_act Q 154 ls (v.toList ++ st) g')) := E_CS (ar := [a1, a0]) lo_L_act rfl rfl rfl
set_option maxRecDepth 100000 in
theorem e_L_act_154 {Q : mQ} {ls st : List Value} {g : mG} {x y : Int32} : WP m_L_act Q 154 ls (.int y :: .int x :: st) g = WP m_L_act Q 155 ls (.int (x + y) :: st) g := E_b2 (f := fun x y => x + y) lo_L_act rfl
set_option maxRecDepth 100000 in
theorem e_L_act_155 {Q : mQ} {ls st : List Value} {g : mG} {b : Nat} {a0 a1 a2 : Value} : WP m_L_act Q 155 ls (a2 :: a1 :: a0 :: .ref b :: st) g = (st.length ≤ 4 ∧ gK g b = 7 ∧ stbs g ls ∧ stbs g st ∧ w_X6_ask [.ref b, a0, a1, a2] g (fun v g' => WP m_L_act Q 158 ls (v.toList ++ st) g')) := E_CV (ar := [a2, a1, a0, .ref b]) lo_L_act rfl rfl rfl (by decide)
set_option maxRecDepth 100000 in
theorem e_L_act_158 {Q : mQ} {ls : List Value} {g : mG} {v : Int32} : WP m_L_act Q 158 ls [.int v] g = Q (some (.int v)) g := E_iret lo_L_act rfl
set_option maxRecDepth 100000 in
theorem e_L_act_159 {Q : mQ} {l0 l1 l2 l3 l5 : Value} {st : List Value} {g : mG} {x : Int32} : WP m_L_act Q 159 [l0, l1, l2, l3, .int x, l5] st g = WP m_L_act Q 161 [l0, l1, l2, l3, .int x, l5] (.int x :: st) g := E_il (i := 4) (n := 2) lo_L_act rfl rfl
set_option maxRecDepth 100000 in
theorem e_L_act_161 {Q : mQ} {ls st : List Value} {g : mG} : WP m_L_act Q 161 ls st g = WP m_L_act Q 163 ls (.int (nI 10) :: st) g := E_ic (v := nI 10) (n := 2) lo_L_act rfl
set_option maxRecDepth 100000 in
theorem e_L_act_163 {Q : mQ} {ls st : List Value} {g : mG} {x y : Int32} : WP m_L_act Q 163 ls (.int y :: .int x :: st) g = ((¬ x = y → WP m_L_act Q 205 ls st g) ∧ (¬ (¬ x = y) → WP m_L_act Q 166 ls st g)) := E_I2 (c := fun x y => ¬ x = y) (t := 205) lo_L_act rfl
set_option maxRecDepth 100000 in
theorem e_L_act_166 {Q : mQ} {l0 l1 l3 l4 l5 : Value} {st : List Value} {g : mG} {x : Int32} : WP m_L_act Q 166 [l0, l1, .int x, l3, l4, l5] st g = WP m_L_act Q 167 [l0, l1, .int x, l3, l4, l5] (.int x :: st) g := E_il (i := 2) (n := 1) lo_L_act rfl rfl
set_option maxRecDepth 100000 in
theorem e_L_act_167 {Q : mQ} {ls st : List Value} {g : mG} : WP m_L_act Q 167 ls st g = WP m_L_act Q 168 ls (.int (nI 2) :: st) g := E_ic (v := nI 2) (n := 1) lo_L_act rfl
set_option maxRecDepth 100000 in
theorem e_L_act_168 {Q : mQ} {ls st : List Value} {g : mG} {a0 a1 : Value} : WP m_L_act Q 168 ls (a1 :: a0 :: st) g = (st.length ≤ 4 ∧ stbs g ls ∧ stbs g st ∧ w_L_low [a0, a1] g (fun v g' => WP m_L_act Q 171 ls (v.toList ++ st) g')) := E_CS (ar := [a1, a0]) lo_L_act rfl rfl rfl
set_option maxRecDepth 100000 in
theorem e_L_act_171 {Q : mQ} {ls st : List Value} {g : mG} {x : Int32} : WP m_L_act Q 171 ls (.int x :: st) g = ((¬ x = 0 → WP m_L_act Q 189 ls st g) ∧ (¬ (¬ x = 0) → WP m_L_act Q 174 ls st g)) := E_I1 (c := fun x => ¬ x = 0) (t := 189) lo_L_act rfl
set_option maxRecDepth 100000 in
theorem e_L_act_174 {Q : mQ} {l1 l2 l3 l4 l5 : Value} {st : List Value} {g : mG} {x : Nat} : WP m_L_act Q 174 [.ref x, l1, l2, l3, l4, l5] st g = WP m_L_act Q 175 [.ref x, l1, l2, l3, l4, l5] (.ref x :: st) g := E_al (i := 0) (n := 1) lo_L_act rfl rfl
set_option maxRecDepth 100000 in
theorem e_L_act_174n {Q : mQ} {l1 l2 l3 l4 l5 : Value} {st : List Value} {g : mG} : WP m_L_act Q 174 [.null, l1, l2, l3, l4, l5] st g = WP m_L_act Q 175 [.null, l1, l2, l3, l4, l5] (.null :: st) g := E_aln (i := 0) (n := 1) lo_L_act rfl rfl
set_option maxRecDepth 100000 in
theorem e_L_act_175 {Q : mQ} {l0 l1 l3 l4 l5 : Value} {st : List Value} {g : mG} {x : Int32} : WP m_L_act Q 175 [l0, l1, .int x, l3, l4, l5] st g = WP m_L_act Q 176 [l0, l1, .int x, l3, l4, l5] (.int x :: st) g := E_il (i := 2) (n := 1) lo_L_act rfl rfl
set_option maxRecDepth 100000 in
theorem e_L_act_176 {Q : mQ} {ls st : List Value} {g : mG} : WP m_L_act Q 176 ls st g = WP m_L_act Q 177 ls (.int (nI 1) :: st) g := E_ic (v := nI 1) (n := 1) lo_L_act rfl
set_option maxRecDepth 100000 in
theorem e_L_act_177 {Q : mQ} {ls st : List Value} {g : mG} {x y : Int32} : WP m_L_act Q 177 ls (.int y :: .int x :: st) g = WP m_L_act Q 178 ls (.int (x >>> (y &&& 31)) :: st) g := E_b2 (f := fun x y => x >>> (y &&& 31)) lo_L_act rfl
set_option maxRecDepth 100000 in
theorem e_L_act_178 {Q : mQ} {ls st : List Value} {g : mG} : WP m_L_act Q 178 ls st g = WP m_L_act Q 180 ls (.int (nI 20) :: st) g := E_ic (v := nI 20) (n := 2) lo_L_act rfl
set_option maxRecDepth 100000 in
theorem e_L_act_180 {Q : mQ} {ls st : List Value} {g : mG} {a0 a1 : Value} : WP m_L_act Q 180 ls (a1 :: a0 :: st) g = (st.length ≤ 4 ∧ stbs g ls ∧ stbs g st ∧ w_L_low [a0, a1] g (fun v g' => WP m_L_act Q 183 ls (v.toList ++ st) g')) := E_CS (ar := [a1, a0]) lo_L_act rfl rfl rfl
set_option maxRecDepth 100000 in
theorem e_L_act_183 {Q : mQ} {ls st : List Value} {g : mG} {b : Nat} {a0 : Value} : WP m_L_act Q 183 ls (a0 :: .ref b :: st) g = (st.length ≤ 4 ∧ gK g b = 7 ∧ stbs g ls ∧ stbs g st ∧ w_X6_takeBack [.ref b, a0] g (fun v g' => WP m_L_act Q 186 ls (v.toList ++ st) g')) := E_CV (ar := [a0, .ref b]) lo_L_act rfl rfl rfl (by decide)
set_option maxRecDepth 100000 in
theorem e_L_act_186 {Q : mQ} {ls st : List Value} {g : mG} : WP m_L_act Q 186 ls st g = WP m_L_act Q 204 ls st g := E_goto lo_L_act rfl
set_option maxRecDepth 100000 in
theorem e_L_act_189 {Q : mQ} {l1 l2 l3 l4 l5 : Value} {st : List Value} {g : mG} {x : Nat} : WP m_L_act Q 189 [.ref x, l1, l2, l3, l4, l5] st g = WP m_L_act Q 190 [.ref x, l1, l2, l3, l4, l5] (.ref x :: st) g := E_al (i := 0) (n := 1) lo_L_act rfl rfl
set_option maxRecDepth 100000 in
theorem e_L_act_189n {Q : mQ} {l1 l2 l3 l4 l5 : Value} {st : List Value} {g : mG} : WP m_L_act Q 189 [.null, l1, l2, l3, l4, l5] st g = WP m_L_act Q 190 [.null, l1, l2, l3, l4, l5] (.null :: st) g := E_aln (i := 0) (n := 1) lo_L_act rfl rfl
set_option maxRecDepth 100000 in
theorem e_L_act_190 {Q : mQ} {l0 l1 l2 l4 l5 : Value} {st : List Value} {g : mG} {x : Int32} : WP m_L_act Q 190 [l0, l1, l2, .int x, l4, l5] st g = WP m_L_act Q 191 [l0, l1, l2, .int x, l4, l5] (.int x :: st) g := E_il (i := 3) (n := 1) lo_L_act rfl rfl
set_option maxRecDepth 100000 in
theorem e_L_act_191 {Q : mQ} {ls st : List Value} {g : mG} : WP m_L_act Q 191 ls st g = WP m_L_act Q 192 ls (.int (nI 1) :: st) g := E_ic (v := nI 1) (n := 1) lo_L_act rfl
set_option maxRecDepth 100000 in
theorem e_L_act_192 {Q : mQ} {l0 l1 l3 l4 l5 : Value} {st : List Value} {g : mG} {x : Int32} : WP m_L_act Q 192 [l0, l1, .int x, l3, l4, l5] st g = WP m_L_act Q 193 [l0, l1, .int x, l3, l4, l5] (.int x :: st) g := E_il (i := 2) (n := 1) lo_L_act rfl rfl
set_option maxRecDepth 100000 in
theorem e_L_act_193 {Q : mQ} {ls st : List Value} {g : mG} : WP m_L_act Q 193 ls st g = WP m_L_act Q 194 ls (.int (nI 1) :: st) g := E_ic (v := nI 1) (n := 1) lo_L_act rfl
set_option maxRecDepth 100000 in
theorem e_L_act_194 {Q : mQ} {ls st : List Value} {g : mG} {x y : Int32} : WP m_L_act Q 194 ls (.int y :: .int x :: st) g = WP m_L_act Q 195 ls (.int (x >>> (y &&& 31)) :: st) g := E_b2 (f := fun x y => x >>> (y &&& 31)) lo_L_act rfl
set_option maxRecDepth 100000 in
theorem e_L_act_195 {Q : mQ} {ls st : List Value} {g : mG} : WP m_L_act Q 195 ls st g = WP m_L_act Q 197 ls (.int (nI 9) :: st) g := E_ic (v := nI 9) (n := 2) lo_L_act rfl
set_option maxRecDepth 100000 in
theorem e_L_act_197 {Q : mQ} {ls st : List Value} {g : mG} {a0 a1 : Value} : WP m_L_act Q 197 ls (a1 :: a0 :: st) g = (st.length ≤ 4 ∧ stbs g ls ∧ stbs g st ∧ w_L_low [a0, a1] g (fun v g' => WP m_L_act Q 200 ls (v.toList ++ st) g')) := E_CS (ar := [a1, a0]) lo_L_act rfl rfl rfl
set_option maxRecDepth 100000 in
theorem e_L_act_200 {Q : mQ} {ls st : List Value} {g : mG} {x y : Int32} : WP m_L_act Q 200 ls (.int y :: .int x :: st) g = WP m_L_act Q 201 ls (.int (x + y) :: st) g := E_b2 (f := fun x y => x + y) lo_L_act rfl
set_option maxRecDepth 100000 in
theorem e_L_act_201 {Q : mQ} {ls st : List Value} {g : mG} {b : Nat} {a0 a1 : Value} : WP m_L_act Q 201 ls (a1 :: a0 :: .ref b :: st) g = (st.length ≤ 4 ∧ gK g b = 7 ∧ stbs g ls ∧ stbs g st ∧ w_X6_buyReserve [.ref b, a0, a1] g (fun v g' => WP m_L_act Q 204 ls (v.toList ++ st) g')) := E_CV (ar := [a1, a0, .ref b]) lo_L_act rfl rfl rfl (by decide)
set_option maxRecDepth 100000 in
theorem e_L_act_204 {Q : mQ} {ls : List Value} {g : mG} {v : Int32} : WP m_L_act Q 204 ls [.int v] g = Q (some (.int v)) g := E_iret lo_L_act rfl
set_option maxRecDepth 100000 in
theorem e_L_act_205 {Q : mQ} {l0 l1 l2 l3 l5 : Value} {st : List Value} {g : mG} {x : Int32} : WP m_L_act Q 205 [l0, l1, l2, l3, .int x, l5] st g = WP m_L_act Q 207 [l0, l1, l2, l3, .int x, l5] (.int x :: st) g := E_il (i := 4) (n := 2) lo_L_act rfl rfl
set_option maxRecDepth 100000 in
theorem e_L_act_207 {Q : mQ} {ls st : List Value} {g : mG} : WP m_L_act Q 207 ls st g = WP m_L_act Q 209 ls (.int (nI 11) :: st) g := E_ic (v := nI 11) (n := 2) lo_L_act rfl
set_option maxRecDepth 100000 in
theorem e_L_act_209 {Q : mQ} {ls st : List Value} {g : mG} {x y : Int32} : WP m_L_act Q 209 ls (.int y :: .int x :: st) g = ((¬ x = y → WP m_L_act Q 226 ls st g) ∧ (¬ (¬ x = y) → WP m_L_act Q 212 ls st g)) := E_I2 (c := fun x y => ¬ x = y) (t := 226) lo_L_act rfl
set_option maxRecDepth 100000 in
theorem e_L_act_212 {Q : mQ} {l1 l2 l3 l4 l5 : Value} {st : List Value} {g : mG} {x : Nat} : WP m_L_act Q 212 [.ref x, l1, l2, l3, l4, l5] st g = WP m_L_act Q 213 [.ref x, l1, l2, l3, l4, l5] (.ref x :: st) g := E_al (i := 0) (n := 1) lo_L_act rfl rfl
set_option maxRecDepth 100000 in
theorem e_L_act_212n {Q : mQ} {l1 l2 l3 l4 l5 : Value} {st : List Value} {g : mG} : WP m_L_act Q 212 [.null, l1, l2, l3, l4, l5] st g = WP m_L_act Q 213 [.null, l1, l2, l3, l4, l5] (.null :: st) g := E_aln (i := 0) (n := 1) lo_L_act rfl rfl
set_option maxRecDepth 100000 in
theorem e_L_act_213 {Q : mQ} {l0 l1 l2 l4 l5 : Value} {st : List Value} {g : mG} {x : Int32} : WP m_L_act Q 213 [l0, l1, l2, .int x, l4, l5] st g = WP m_L_act Q 214 [l0, l1, l2, .int x, l4, l5] (.int x :: st) g := E_il (i := 3) (n := 1) lo_L_act rfl rfl
set_option maxRecDepth 100000 in
theorem e_L_act_214 {Q : mQ} {ls st : List Value} {g : mG} : WP m_L_act Q 214 ls st g = WP m_L_act Q 215 ls (.int (nI 1) :: st) g := E_ic (v := nI 1) (n := 1) lo_L_act rfl
set_option maxRecDepth 100000 in
theorem e_L_act_215 {Q : mQ} {l0 l1 l3 l4 l5 : Value} {st : List Value} {g : mG} {x : Int32} : WP m_L_act Q 215 [l0, l1, .int x, l3, l4, l5] st g = WP m_L_act Q 216 [l0, l1, .int x, l3, l4, l5] (.int x :: st) g := E_il (i := 2) (n := 1) lo_L_act rfl rfl
set_option maxRecDepth 100000 in
theorem e_L_act_216 {Q : mQ} {ls st : List Value} {g : mG} : WP m_L_act Q 216 ls st g = WP m_L_act Q 218 ls (.int (nI 12) :: st) g := E_ic (v := nI 12) (n := 2) lo_L_act rfl
set_option maxRecDepth 100000 in
theorem e_L_act_218 {Q : mQ} {ls st : List Value} {g : mG} {a0 a1 : Value} : WP m_L_act Q 218 ls (a1 :: a0 :: st) g = (st.length ≤ 4 ∧ stbs g ls ∧ stbs g st ∧ w_L_low [a0, a1] g (fun v g' => WP m_L_act Q 221 ls (v.toList ++ st) g')) := E_CS (ar := [a1, a0]) lo_L_act rfl rfl rfl
set_option maxRecDepth 100000 in
theorem e_L_act_221 {Q : mQ} {ls st : List Value} {g : mG} {x y : Int32} : WP m_L_act Q 221 ls (.int y :: .int x :: st) g = WP m_L_act Q 222 ls (.int (x + y) :: st) g := E_b2 (f := fun x y => x + y) lo_L_act rfl
set_option maxRecDepth 100000 in
theorem e_L_act_222 {Q : mQ} {ls st : List Value} {g : mG} {b : Nat} {a0 a1 : Value} : WP m_L_act Q 222 ls (a1 :: a0 :: .ref b :: st) g = (st.length ≤ 4 ∧ gK g b = 7 ∧ stbs g ls ∧ stbs g st ∧ w_X6_borrow [.ref b, a0, a1] g (fun v g' => WP m_L_act Q 225 ls (v.toList ++ st) g')) := E_CV (ar := [a1, a0, .ref b]) lo_L_act rfl rfl rfl (by decide)
set_option maxRecDepth 100000 in
theorem e_L_act_225 {Q : mQ} {ls : List Value} {g : mG} {v : Int32} : WP m_L_act Q 225 ls [.int v] g = Q (some (.int v)) g := E_iret lo_L_act rfl
set_option maxRecDepth 100000 in
theorem e_L_act_226 {Q : mQ} {l0 l1 l2 l3 l5 : Value} {st : List Value} {g : mG} {x : Int32} : WP m_L_act Q 226 [l0, l1, l2, l3, .int x, l5] st g = WP m_L_act Q 228 [l0, l1, l2, l3, .int x, l5] (.int x :: st) g := E_il (i := 4) (n := 2) lo_L_act rfl rfl
set_option maxRecDepth 100000 in
theorem e_L_act_228 {Q : mQ} {ls st : List Value} {g : mG} : WP m_L_act Q 228 ls st g = WP m_L_act Q 230 ls (.int (nI 12) :: st) g := E_ic (v := nI 12) (n := 2) lo_L_act rfl
set_option maxRecDepth 100000 in
theorem e_L_act_230 {Q : mQ} {ls st : List Value} {g : mG} {x y : Int32} : WP m_L_act Q 230 ls (.int y :: .int x :: st) g = ((¬ x = y → WP m_L_act Q 253 ls st g) ∧ (¬ (¬ x = y) → WP m_L_act Q 233 ls st g)) := E_I2 (c := fun x y => ¬ x = y) (t := 253) lo_L_act rfl
set_option maxRecDepth 100000 in
theorem e_L_act_233 {Q : mQ} {l1 l2 l3 l4 l5 : Value} {st : List Value} {g : mG} {x : Nat} : WP m_L_act Q 233 [.ref x, l1, l2, l3, l4, l5] st g = WP m_L_act Q 234 [.ref x, l1, l2, l3, l4, l5] (.ref x :: st) g := E_al (i := 0) (n := 1) lo_L_act rfl rfl
set_option maxRecDepth 100000 in
theorem e_L_act_233n {Q : mQ} {l1 l2 l3 l4 l5 : Value} {st : List Value} {g : mG} : WP m_L_act Q 233 [.null, l1, l2, l3, l4, l5] st g = WP m_L_act Q 234 [.null, l1, l2, l3, l4, l5] (.null :: st) g := E_aln (i := 0) (n := 1) lo_L_act rfl rfl
set_option maxRecDepth 100000 in
theorem e_L_act_234 {Q : mQ} {l0 l1 l3 l4 l5 : Value} {st : List Value} {g : mG} {x : Int32} : WP m_L_act Q 234 [l0, l1, .int x, l3, l4, l5] st g = WP m_L_act Q 235 [l0, l1, .int x, l3, l4, l5] (.int x :: st) g := E_il (i := 2) (n := 1) lo_L_act rfl rfl
set_option maxRecDepth 100000 in
theorem e_L_act_235 {Q : mQ} {ls st : List Value} {g : mG} : WP m_L_act Q 235 ls st g = WP m_L_act Q 236 ls (.int (nI 5) :: st) g := E_ic (v := nI 5) (n := 1) lo_L_act rfl
set_option maxRecDepth 100000 in
theorem e_L_act_236 {Q : mQ} {ls st : List Value} {g : mG} {a0 a1 : Value} : WP m_L_act Q 236 ls (a1 :: a0 :: st) g = (st.length ≤ 4 ∧ stbs g ls ∧ stbs g st ∧ w_L_low [a0, a1] g (fun v g' => WP m_L_act Q 239 ls (v.toList ++ st) g')) := E_CS (ar := [a1, a0]) lo_L_act rfl rfl rfl
set_option maxRecDepth 100000 in
theorem e_L_act_239 {Q : mQ} {ls st : List Value} {g : mG} : WP m_L_act Q 239 ls st g = WP m_L_act Q 240 ls (.int (nI 1) :: st) g := E_ic (v := nI 1) (n := 1) lo_L_act rfl
set_option maxRecDepth 100000 in
theorem e_L_act_240 {Q : mQ} {l0 l1 l3 l4 l5 : Value} {st : List Value} {g : mG} {x : Int32} : WP m_L_act Q 240 [l0, l1, .int x, l3, l4, l5] st g = WP m_L_act Q 241 [l0, l1, .int x, l3, l4, l5] (.int x :: st) g := E_il (i := 2) (n := 1) lo_L_act rfl rfl
set_option maxRecDepth 100000 in
theorem e_L_act_241 {Q : mQ} {ls st : List Value} {g : mG} : WP m_L_act Q 241 ls st g = WP m_L_act Q 242 ls (.int (nI 3) :: st) g := E_ic (v := nI 3) (n := 1) lo_L_act rfl
set_option maxRecDepth 100000 in
theorem e_L_act_242 {Q : mQ} {ls st : List Value} {g : mG} {x y : Int32} : WP m_L_act Q 242 ls (.int y :: .int x :: st) g = WP m_L_act Q 243 ls (.int (x >>> (y &&& 31)) :: st) g := E_b2 (f := fun x y => x >>> (y &&& 31)) lo_L_act rfl
set_option maxRecDepth 100000 in
theorem e_L_act_243 {Q : mQ} {ls st : List Value} {g : mG} : WP m_L_act Q 243 ls st g = WP m_L_act Q 245 ls (.int (nI 120) :: st) g := E_ic (v := nI 120) (n := 2) lo_L_act rfl
set_option maxRecDepth 100000 in
theorem e_L_act_245 {Q : mQ} {ls st : List Value} {g : mG} {a0 a1 : Value} : WP m_L_act Q 245 ls (a1 :: a0 :: st) g = (st.length ≤ 4 ∧ stbs g ls ∧ stbs g st ∧ w_L_low [a0, a1] g (fun v g' => WP m_L_act Q 248 ls (v.toList ++ st) g')) := E_CS (ar := [a1, a0]) lo_L_act rfl rfl rfl
set_option maxRecDepth 100000 in
theorem e_L_act_248 {Q : mQ} {ls st : List Value} {g : mG} {x y : Int32} : WP m_L_act Q 248 ls (.int y :: .int x :: st) g = WP m_L_act Q 249 ls (.int (x + y) :: st) g := E_b2 (f := fun x y => x + y) lo_L_act rfl
set_option maxRecDepth 100000 in
theorem e_L_act_249 {Q : mQ} {ls st : List Value} {g : mG} {b : Nat} {a0 a1 : Value} : WP m_L_act Q 249 ls (a1 :: a0 :: .ref b :: st) g = (st.length ≤ 4 ∧ gK g b = 7 ∧ stbs g ls ∧ stbs g st ∧ w_X6_set [.ref b, a0, a1] g (fun v g' => WP m_L_act Q 252 ls (v.toList ++ st) g')) := E_CV (ar := [a1, a0, .ref b]) lo_L_act rfl rfl rfl (by decide)
set_option maxRecDepth 100000 in
theorem e_L_act_252 {Q : mQ} {ls : List Value} {g : mG} {v : Int32} : WP m_L_act Q 252 ls [.int v] g = Q (some (.int v)) g := E_iret lo_L_act rfl
set_option maxRecDepth 100000 in
theorem e_L_act_253 {Q : mQ} {l1 l2 l3 l4 l5 : Value} {st : List Value} {g : mG} {x : Nat} : WP m_L_act Q 253 [.ref x, l1, l2, l3, l4, l5] st g = WP m_L_act Q 254 [.ref x, l1, l2, l3, l4, l5] (.ref x :: st) g := E_al (i := 0) (n := 1) lo_L_act rfl rfl
set_option maxRecDepth 100000 in
theorem e_L_act_253n {Q : mQ} {l1 l2 l3 l4 l5 : Value} {st : List Value} {g : mG} : WP m_L_act Q 253 [.null, l1, l2, l3, l4, l5] st g = WP m_L_act Q 254 [.null, l1, l2, l3, l4, l5] (.null :: st) g := E_aln (i := 0) (n := 1) lo_L_act rfl rfl
set_option maxRecDepth 100000 in
theorem e_L_act_254 {Q : mQ} {ls st : List Value} {g : mG} {b : Nat} : WP m_L_act Q 254 ls (.ref b :: st) g = (st.length ≤ 4 ∧ gK g b = 7 ∧ stbs g ls ∧ stbs g st ∧ w_X6_endYear [.ref b] g (fun v g' => WP m_L_act Q 257 ls (v.toList ++ st) g')) := E_CV (ar := [.ref b]) lo_L_act rfl rfl rfl (by decide)
set_option maxRecDepth 100000 in
theorem e_L_act_257 {Q : mQ} {ls : List Value} {g : mG} {v : Int32} : WP m_L_act Q 257 ls [.int v] g = Q (some (.int v)) g := E_iret lo_L_act rfl
/-! KilnPermitsLaw.cell([II)I -/
def m_L_cell : List (Nat × mT) := [(0, tD (f_il 1 1)),
  (1, tD (f_al 0 1)),
  (2, tD (f_alen)),
  (3, tI2 (fun x y => y ≤ x) 12),
  (6, tD (f_al 0 1)),
  (7, tD (f_il 1 1)),
  (8, tD (f_iald)),
  (9, tD (f_goto 20)),
  (12, tD (f_ic (nI 2750207) 2)),
  (14, tD (f_il 1 1)),
  (15, tD (f_b2 fun x y => x * y)),
  (16, tD (f_ic (nI 1759) 3)),
  (19, tD (f_b2 fun x y => x + y)),
  (20, tR f_iret)]
abbrev w_L_cell : mS := wm m_L_cell 2 0
set_option maxRecDepth 100000 in
theorem lo_L_cell : locs_ok m_L_cell := List.forall_mem_cons.mpr ⟨loc_D mo_il,
  List.forall_mem_cons.mpr ⟨loc_D mo_al,
  List.forall_mem_cons.mpr ⟨loc_D mo_alen,
  List.forall_mem_cons.mpr ⟨loc_I2,
  List.forall_mem_cons.mpr ⟨loc_D mo_al,
  List.forall_mem_cons.mpr ⟨loc_D mo_il,
  List.forall_mem_cons.mpr ⟨loc_D mo_iald,
  List.forall_mem_cons.mpr ⟨loc_D mo_goto,
  List.forall_mem_cons.mpr ⟨loc_D mo_ic,
  List.forall_mem_cons.mpr ⟨loc_D mo_il,
  List.forall_mem_cons.mpr ⟨loc_D mo_b2,
  List.forall_mem_cons.mpr ⟨loc_D mo_ic,
  List.forall_mem_cons.mpr ⟨loc_D mo_b2,
  List.forall_mem_cons.mpr ⟨loc_R,
  fun _ h => absurd h List.not_mem_nil⟩⟩⟩⟩⟩⟩⟩⟩⟩⟩⟩⟩⟩⟩
set_option maxRecDepth 100000 in
theorem sm_L_cell : SM yL_cell cL_cell 2 (some .int) 1 w_L_cell := SM_of' RL "cell" rfl rfl (by decide) (by decide) (by decide) lo_L_cell (List.forall_mem_cons.mpr ⟨STP.r mo_il (q_iload_n dL_cell_0 rfl),
  List.forall_mem_cons.mpr ⟨STP.r mo_al (q_aload_n dL_cell_1 rfl),
  List.forall_mem_cons.mpr ⟨STP.r mo_alen (q_alen dL_cell_2),
  List.forall_mem_cons.mpr ⟨(q_ic_ge dL_cell_3 (by decide)).r,
  List.forall_mem_cons.mpr ⟨STP.r mo_al (q_aload_n dL_cell_6 rfl),
  List.forall_mem_cons.mpr ⟨STP.r mo_il (q_iload_n dL_cell_7 rfl),
  List.forall_mem_cons.mpr ⟨STP.r mo_iald (q_iald dL_cell_8),
  List.forall_mem_cons.mpr ⟨STP.r mo_goto (q_goto dL_cell_9 (by decide)),
  List.forall_mem_cons.mpr ⟨STP.r mo_ic (q_ldc kl_L_2750207 dL_cell_12),
  List.forall_mem_cons.mpr ⟨STP.r mo_il (q_iload_n dL_cell_14 rfl),
  List.forall_mem_cons.mpr ⟨STP.r mo_b2 (q_imul dL_cell_15),
  List.forall_mem_cons.mpr ⟨STP.r mo_ic (q_sipush dL_cell_16 (by decide)),
  List.forall_mem_cons.mpr ⟨STP.r mo_b2 (q_iadd dL_cell_19),
  List.forall_mem_cons.mpr ⟨r_iret dL_cell_20,
  fun _ h => absurd h List.not_mem_nil⟩⟩⟩⟩⟩⟩⟩⟩⟩⟩⟩⟩⟩⟩)
theorem e_L_cell_0 {Q : mQ} {l0 : Value} {st : List Value} {g : mG} {x : Int32} : WP m_L_cell Q 0 [l0, .int x] st g = WP m_L_cell Q 1 [l0, .int x] (.int x :: st) g := E_il (i := 1) (n := 1) lo_L_cell rfl rfl
theorem e_L_cell_1 {Q : mQ} {l1 : Value} {st : List Value} {g : mG} {x : Nat} : WP m_L_cell Q 1 [.ref x, l1] st g = WP m_L_cell Q 2 [.ref x, l1] (.ref x :: st) g := E_al (i := 0) (n := 1) lo_L_cell rfl rfl
theorem e_L_cell_1n {Q : mQ} {l1 : Value} {st : List Value} {g : mG} : WP m_L_cell Q 1 [.null, l1] st g = WP m_L_cell Q 2 [.null, l1] (.null :: st) g := E_aln (i := 0) (n := 1) lo_L_cell rfl rfl
theorem e_L_cell_2 {Q : mQ} {ls st : List Value} {g : mG} {a : Nat} : WP m_L_cell Q 2 ls (.ref a :: st) g = ((10 ≤ gK g a ∧ gK g a ≤ 17) ∧ WP m_L_cell Q 3 ls (.int (nI (gN g a)) :: st) g) := E_alen lo_L_cell rfl
theorem e_L_cell_3 {Q : mQ} {ls st : List Value} {g : mG} {x y : Int32} : WP m_L_cell Q 3 ls (.int y :: .int x :: st) g = ((y ≤ x → WP m_L_cell Q 12 ls st g) ∧ (¬ (y ≤ x) → WP m_L_cell Q 6 ls st g)) := E_I2 (c := fun x y => y ≤ x) (t := 12) lo_L_cell rfl
theorem e_L_cell_6 {Q : mQ} {l1 : Value} {st : List Value} {g : mG} {x : Nat} : WP m_L_cell Q 6 [.ref x, l1] st g = WP m_L_cell Q 7 [.ref x, l1] (.ref x :: st) g := E_al (i := 0) (n := 1) lo_L_cell rfl rfl
theorem e_L_cell_6n {Q : mQ} {l1 : Value} {st : List Value} {g : mG} : WP m_L_cell Q 6 [.null, l1] st g = WP m_L_cell Q 7 [.null, l1] (.null :: st) g := E_aln (i := 0) (n := 1) lo_L_cell rfl rfl
theorem e_L_cell_7 {Q : mQ} {l0 : Value} {st : List Value} {g : mG} {x : Int32} : WP m_L_cell Q 7 [l0, .int x] st g = WP m_L_cell Q 8 [l0, .int x] (.int x :: st) g := E_il (i := 1) (n := 1) lo_L_cell rfl rfl
theorem e_L_cell_8 {Q : mQ} {ls st : List Value} {g : mG} {a : Nat} {i : Int32} : WP m_L_cell Q 8 ls (.int i :: .ref a :: st) g = ((isIA g a ∧ vp_in i (gN g a)) ∧ WP m_L_cell Q 9 ls (.int (gI g a i.toNatClampNeg) :: st) g) := E_iald lo_L_cell rfl
theorem e_L_cell_9 {Q : mQ} {ls st : List Value} {g : mG} : WP m_L_cell Q 9 ls st g = WP m_L_cell Q 20 ls st g := E_goto lo_L_cell rfl
theorem e_L_cell_12 {Q : mQ} {ls st : List Value} {g : mG} : WP m_L_cell Q 12 ls st g = WP m_L_cell Q 14 ls (.int (nI 2750207) :: st) g := E_ic (v := nI 2750207) (n := 2) lo_L_cell rfl
theorem e_L_cell_14 {Q : mQ} {l0 : Value} {st : List Value} {g : mG} {x : Int32} : WP m_L_cell Q 14 [l0, .int x] st g = WP m_L_cell Q 15 [l0, .int x] (.int x :: st) g := E_il (i := 1) (n := 1) lo_L_cell rfl rfl
theorem e_L_cell_15 {Q : mQ} {ls st : List Value} {g : mG} {x y : Int32} : WP m_L_cell Q 15 ls (.int y :: .int x :: st) g = WP m_L_cell Q 16 ls (.int (x * y) :: st) g := E_b2 (f := fun x y => x * y) lo_L_cell rfl
theorem e_L_cell_16 {Q : mQ} {ls st : List Value} {g : mG} : WP m_L_cell Q 16 ls st g = WP m_L_cell Q 19 ls (.int (nI 1759) :: st) g := E_ic (v := nI 1759) (n := 3) lo_L_cell rfl
theorem e_L_cell_19 {Q : mQ} {ls st : List Value} {g : mG} {x y : Int32} : WP m_L_cell Q 19 ls (.int y :: .int x :: st) g = WP m_L_cell Q 20 ls (.int (x + y) :: st) g := E_b2 (f := fun x y => x + y) lo_L_cell rfl
theorem e_L_cell_20 {Q : mQ} {ls : List Value} {g : mG} {v : Int32} : WP m_L_cell Q 20 ls [.int v] g = Q (some (.int v)) g := E_iret lo_L_cell rfl
/-! KilnPermitsLaw.digest(LKilnPermits;)J -/
def m_L_digest : List (Nat × mT) := [(0, tD (f_lc (109) 3)),
  (3, tD (f_ls 1 1)),
  (4, tD (f_ic (nI 0) 1)),
  (5, tD (f_is 3 1)),
  (6, tD (f_il 3 1)),
  (7, tD (f_ic (nI 19) 2)),
  (9, tI2 (fun x y => y ≤ x) 31),
  (12, tD (f_lc (31) 3)),
  (15, tD (f_ll 1 1)),
  (16, tD (f_lmul)),
  (17, tD (f_al 0 1)),
  (18, tD (f_il 3 1)),
  (19, tC w_X6_count 7 2),
  (22, tD (f_i2l)),
  (23, tD (f_ladd)),
  (24, tD (f_ls 1 1)),
  (25, tD (f_inc 3 (nI 1))),
  (28, tD (f_goto 6)),
  (31, tD (f_ic (nI 0) 1)),
  (32, tD (f_is 3 1)),
  (33, tD (f_il 3 1)),
  (34, tD (f_ic (nI 6) 2)),
  (36, tI2 (fun x y => y ≤ x) 106),
  (39, tD (f_ic (nI 0) 1)),
  (40, tD (f_is 4 2)),
  (42, tD (f_il 4 2)),
  (44, tD (f_ic (nI 12) 2)),
  (46, tI2 (fun x y => y ≤ x) 70),
  (49, tD (f_lc (31) 3)),
  (52, tD (f_ll 1 1)),
  (53, tD (f_lmul)),
  (54, tD (f_al 0 1)),
  (55, tD (f_il 3 1)),
  (56, tD (f_il 4 2)),
  (58, tC w_X6_kiln 7 3),
  (61, tD (f_i2l)),
  (62, tD (f_ladd)),
  (63, tD (f_ls 1 1)),
  (64, tD (f_inc 4 (nI 1))),
  (67, tD (f_goto 42)),
  (70, tD (f_lc (31) 3)),
  (73, tD (f_ll 1 1)),
  (74, tD (f_lmul)),
  (75, tD (f_al 0 1)),
  (76, tD (f_il 3 1)),
  (77, tD (f_ic (nI 0) 1)),
  (78, tC w_X6_ofYear 7 3),
  (81, tD (f_i2l)),
  (82, tD (f_ladd)),
  (83, tD (f_lc (7) 3)),
  (86, tD (f_al 0 1)),
  (87, tD (f_il 3 1)),
  (88, tD (f_al 0 1)),
  (89, tD (f_ic (nI 0) 1)),
  (90, tC w_X6_count 7 2),
  (93, tC w_X6_ofYear 7 3),
  (96, tD (f_i2l)),
  (97, tD (f_lmul)),
  (98, tD (f_ladd)),
  (99, tD (f_ls 1 1)),
  (100, tD (f_inc 3 (nI 1))),
  (103, tD (f_goto 33)),
  (106, tD (f_ic (nI 0) 1)),
  (107, tD (f_is 3 1)),
  (108, tD (f_il 3 1)),
  (109, tD (f_ic (nI 16) 2)),
  (111, tI2 (fun x y => y ≤ x) 165),
  (114, tD (f_ic (nI 0) 1)),
  (115, tD (f_is 4 2)),
  (117, tD (f_il 4 2)),
  (119, tD (f_ic (nI 4) 1)),
  (120, tI2 (fun x y => y ≤ x) 159),
  (123, tD (f_lc (31) 3)),
  (126, tD (f_ll 1 1)),
  (127, tD (f_lmul)),
  (128, tD (f_lc (3) 3)),
  (131, tD (f_al 0 1)),
  (132, tD (f_ic (nI 1) 1)),
  (133, tD (f_il 3 1)),
  (134, tD (f_il 4 2)),
  (136, tC w_X6_order 7 4),
  (139, tD (f_i2l)),
  (140, tD (f_lmul)),
  (141, tD (f_ladd)),
  (142, tD (f_al 0 1)),
  (143, tD (f_ic (nI 0) 1)),
  (144, tD (f_il 3 1)),
  (145, tD (f_il 4 2)),
  (147, tC w_X6_order 7 4),
  (150, tD (f_i2l)),
  (151, tD (f_ladd)),
  (152, tD (f_ls 1 1)),
  (153, tD (f_inc 4 (nI 1))),
  (156, tD (f_goto 117)),
  (159, tD (f_inc 3 (nI 1))),
  (162, tD (f_goto 108)),
  (165, tD (f_ll 1 1)),
  (166, tR f_jret)]
abbrev w_L_digest : mS := wm m_L_digest 1 4
set_option maxRecDepth 100000 in
theorem lo_L_digest : locs_ok m_L_digest := List.forall_mem_cons.mpr ⟨loc_D mo_lc,
  List.forall_mem_cons.mpr ⟨loc_D mo_ls,
  List.forall_mem_cons.mpr ⟨loc_D mo_ic,
  List.forall_mem_cons.mpr ⟨loc_D mo_is,
  List.forall_mem_cons.mpr ⟨loc_D mo_il,
  List.forall_mem_cons.mpr ⟨loc_D mo_ic,
  List.forall_mem_cons.mpr ⟨loc_I2,
  List.forall_mem_cons.mpr ⟨loc_D mo_lc,
  List.forall_mem_cons.mpr ⟨loc_D mo_ll,
  List.forall_mem_cons.mpr ⟨loc_D mo_lmul,
  List.forall_mem_cons.mpr ⟨loc_D mo_al,
  List.forall_mem_cons.mpr ⟨loc_D mo_il,
  List.forall_mem_cons.mpr ⟨loc_C sm_X6_count.1,
  List.forall_mem_cons.mpr ⟨loc_D mo_i2l,
  List.forall_mem_cons.mpr ⟨loc_D mo_ladd,
  List.forall_mem_cons.mpr ⟨loc_D mo_ls,
  List.forall_mem_cons.mpr ⟨loc_D mo_inc,
  List.forall_mem_cons.mpr ⟨loc_D mo_goto,
  List.forall_mem_cons.mpr ⟨loc_D mo_ic,
  List.forall_mem_cons.mpr ⟨loc_D mo_is,
  List.forall_mem_cons.mpr ⟨loc_D mo_il,
  List.forall_mem_cons.mpr ⟨loc_D mo_ic,
  List.forall_mem_cons.mpr ⟨loc_I2,
  List.forall_mem_cons.mpr ⟨loc_D mo_ic,
  List.forall_mem_cons.mpr ⟨loc_D mo_is,
  List.forall_mem_cons.mpr ⟨loc_D mo_il,
  List.forall_mem_cons.mpr ⟨loc_D mo_ic,
  List.forall_mem_cons.mpr ⟨loc_I2,
  List.forall_mem_cons.mpr ⟨loc_D mo_lc,
  List.forall_mem_cons.mpr ⟨loc_D mo_ll,
  List.forall_mem_cons.mpr ⟨loc_D mo_lmul,
  List.forall_mem_cons.mpr ⟨loc_D mo_al,
  List.forall_mem_cons.mpr ⟨loc_D mo_il,
  List.forall_mem_cons.mpr ⟨loc_D mo_il,
  List.forall_mem_cons.mpr ⟨loc_C sm_X6_kiln.1,
  List.forall_mem_cons.mpr ⟨loc_D mo_i2l,
  List.forall_mem_cons.mpr ⟨loc_D mo_ladd,
  List.forall_mem_cons.mpr ⟨loc_D mo_ls,
  List.forall_mem_cons.mpr ⟨loc_D mo_inc,
  List.forall_mem_cons.mpr ⟨loc_D mo_goto,
  List.forall_mem_cons.mpr ⟨loc_D mo_lc,
  List.forall_mem_cons.mpr ⟨loc_D mo_ll,
  List.forall_mem_cons.mpr ⟨loc_D mo_lmul,
  List.forall_mem_cons.mpr ⟨loc_D mo_al,
  List.forall_mem_cons.mpr ⟨loc_D mo_il,
  List.forall_mem_cons.mpr ⟨loc_D mo_ic,
  List.forall_mem_cons.mpr ⟨loc_C sm_X6_ofYear.1,
  List.forall_mem_cons.mpr ⟨loc_D mo_i2l,
  List.forall_mem_cons.mpr ⟨loc_D mo_ladd,
  List.forall_mem_cons.mpr ⟨loc_D mo_lc,
  List.forall_mem_cons.mpr ⟨loc_D mo_al,
  List.forall_mem_cons.mpr ⟨loc_D mo_il,
  List.forall_mem_cons.mpr ⟨loc_D mo_al,
  List.forall_mem_cons.mpr ⟨loc_D mo_ic,
  List.forall_mem_cons.mpr ⟨loc_C sm_X6_count.1,
  List.forall_mem_cons.mpr ⟨loc_C sm_X6_ofYear.1,
  List.forall_mem_cons.mpr ⟨loc_D mo_i2l,
  List.forall_mem_cons.mpr ⟨loc_D mo_lmul,
  List.forall_mem_cons.mpr ⟨loc_D mo_ladd,
  List.forall_mem_cons.mpr ⟨loc_D mo_ls,
  List.forall_mem_cons.mpr ⟨loc_D mo_inc,
  List.forall_mem_cons.mpr ⟨loc_D mo_goto,
  List.forall_mem_cons.mpr ⟨loc_D mo_ic,
  List.forall_mem_cons.mpr ⟨loc_D mo_is,
  List.forall_mem_cons.mpr ⟨loc_D mo_il,
  List.forall_mem_cons.mpr ⟨loc_D mo_ic,
  List.forall_mem_cons.mpr ⟨loc_I2,
  List.forall_mem_cons.mpr ⟨loc_D mo_ic,
  List.forall_mem_cons.mpr ⟨loc_D mo_is,
  List.forall_mem_cons.mpr ⟨loc_D mo_il,
  List.forall_mem_cons.mpr ⟨loc_D mo_ic,
  List.forall_mem_cons.mpr ⟨loc_I2,
  List.forall_mem_cons.mpr ⟨loc_D mo_lc,
  List.forall_mem_cons.mpr ⟨loc_D mo_ll,
  List.forall_mem_cons.mpr ⟨loc_D mo_lmul,
  List.forall_mem_cons.mpr ⟨loc_D mo_lc,
  List.forall_mem_cons.mpr ⟨loc_D mo_al,
  List.forall_mem_cons.mpr ⟨loc_D mo_ic,
  List.forall_mem_cons.mpr ⟨loc_D mo_il,
  List.forall_mem_cons.mpr ⟨loc_D mo_il,
  List.forall_mem_cons.mpr ⟨loc_C sm_X6_order.1,
  List.forall_mem_cons.mpr ⟨loc_D mo_i2l,
  List.forall_mem_cons.mpr ⟨loc_D mo_lmul,
  List.forall_mem_cons.mpr ⟨loc_D mo_ladd,
  List.forall_mem_cons.mpr ⟨loc_D mo_al,
  List.forall_mem_cons.mpr ⟨loc_D mo_ic,
  List.forall_mem_cons.mpr ⟨loc_D mo_il,
  List.forall_mem_cons.mpr ⟨loc_D mo_il,
  List.forall_mem_cons.mpr ⟨loc_C sm_X6_order.1,
  List.forall_mem_cons.mpr ⟨loc_D mo_i2l,
  List.forall_mem_cons.mpr ⟨loc_D mo_ladd,
  List.forall_mem_cons.mpr ⟨loc_D mo_ls,
  List.forall_mem_cons.mpr ⟨loc_D mo_inc,
  List.forall_mem_cons.mpr ⟨loc_D mo_goto,
  List.forall_mem_cons.mpr ⟨loc_D mo_inc,
  List.forall_mem_cons.mpr ⟨loc_D mo_goto,
  List.forall_mem_cons.mpr ⟨loc_D mo_ll,
  List.forall_mem_cons.mpr ⟨loc_R,
  fun _ h => absurd h List.not_mem_nil⟩⟩⟩⟩⟩⟩⟩⟩⟩⟩⟩⟩⟩⟩⟩⟩⟩⟩⟩⟩⟩⟩⟩⟩⟩⟩⟩⟩⟩⟩⟩⟩⟩⟩⟩⟩⟩⟩⟩⟩⟩⟩⟩⟩⟩⟩⟩⟩⟩⟩⟩⟩⟩⟩⟩⟩⟩⟩⟩⟩⟩⟩⟩⟩⟩⟩⟩⟩⟩⟩⟩⟩⟩⟩⟩⟩⟩⟩⟩⟩⟩⟩⟩⟩⟩⟩⟩⟩⟩⟩⟩⟩⟩⟩⟩⟩⟩⟩
set_option maxRecDepth 100000 in
theorem sm_L_digest : SM yL_digest cL_digest 5 (some .long) 5 w_L_digest := SM_of' RL "digest" rfl rfl (by decide) (by decide) (by decide) lo_L_digest (List.forall_mem_cons.mpr ⟨STP.r mo_lc (q_ldc2 kq_L_109 dL_digest_0),
  List.forall_mem_cons.mpr ⟨STP.r mo_ls (q_lstore_n dL_digest_3 rfl),
  List.forall_mem_cons.mpr ⟨STP.r mo_ic (q_iconst dL_digest_4 (by decide)),
  List.forall_mem_cons.mpr ⟨STP.r mo_is (q_istore_n dL_digest_5 rfl),
  List.forall_mem_cons.mpr ⟨STP.r mo_il (q_iload_n dL_digest_6 rfl),
  List.forall_mem_cons.mpr ⟨STP.r mo_ic (q_bipush dL_digest_7 (by decide)),
  List.forall_mem_cons.mpr ⟨(q_ic_ge dL_digest_9 (by decide)).r,
  List.forall_mem_cons.mpr ⟨STP.r mo_lc (q_ldc2 kq_L_31 dL_digest_12),
  List.forall_mem_cons.mpr ⟨STP.r mo_ll (q_lload_n dL_digest_15 rfl),
  List.forall_mem_cons.mpr ⟨STP.r mo_lmul (q_lmul dL_digest_16),
  List.forall_mem_cons.mpr ⟨STP.r mo_al (q_aload_n dL_digest_17 rfl),
  List.forall_mem_cons.mpr ⟨STP.r mo_il (q_iload_n dL_digest_18 rfl),
  List.forall_mem_cons.mpr ⟨(snd_CV sm_X6_count ⟨by decide, by decide⟩ rfl km_L_13 kt_X6_count kv_X6_count rfl ki_X6 kx_X6_count ⟨by decide, by decide, by decide +kernel⟩ (by decide) (by decide) dL_digest_19).r,
  List.forall_mem_cons.mpr ⟨STP.r mo_i2l (q_i2l dL_digest_22),
  List.forall_mem_cons.mpr ⟨STP.r mo_ladd (q_ladd dL_digest_23),
  List.forall_mem_cons.mpr ⟨STP.r mo_ls (q_lstore_n dL_digest_24 rfl),
  List.forall_mem_cons.mpr ⟨STP.r mo_inc (q_inc dL_digest_25 (by decide)),
  List.forall_mem_cons.mpr ⟨STP.r mo_goto (q_goto dL_digest_28 (by decide)),
  List.forall_mem_cons.mpr ⟨STP.r mo_ic (q_iconst dL_digest_31 (by decide)),
  List.forall_mem_cons.mpr ⟨STP.r mo_is (q_istore_n dL_digest_32 rfl),
  List.forall_mem_cons.mpr ⟨STP.r mo_il (q_iload_n dL_digest_33 rfl),
  List.forall_mem_cons.mpr ⟨STP.r mo_ic (q_bipush dL_digest_34 (by decide)),
  List.forall_mem_cons.mpr ⟨(q_ic_ge dL_digest_36 (by decide)).r,
  List.forall_mem_cons.mpr ⟨STP.r mo_ic (q_iconst dL_digest_39 (by decide)),
  List.forall_mem_cons.mpr ⟨STP.r mo_is (q_istore dL_digest_40),
  List.forall_mem_cons.mpr ⟨STP.r mo_il (q_iload dL_digest_42),
  List.forall_mem_cons.mpr ⟨STP.r mo_ic (q_bipush dL_digest_44 (by decide)),
  List.forall_mem_cons.mpr ⟨(q_ic_ge dL_digest_46 (by decide)).r,
  List.forall_mem_cons.mpr ⟨STP.r mo_lc (q_ldc2 kq_L_31 dL_digest_49),
  List.forall_mem_cons.mpr ⟨STP.r mo_ll (q_lload_n dL_digest_52 rfl),
  List.forall_mem_cons.mpr ⟨STP.r mo_lmul (q_lmul dL_digest_53),
  List.forall_mem_cons.mpr ⟨STP.r mo_al (q_aload_n dL_digest_54 rfl),
  List.forall_mem_cons.mpr ⟨STP.r mo_il (q_iload_n dL_digest_55 rfl),
  List.forall_mem_cons.mpr ⟨STP.r mo_il (q_iload dL_digest_56),
  List.forall_mem_cons.mpr ⟨(snd_CV sm_X6_kiln ⟨by decide, by decide⟩ rfl km_L_19 kt_X6_kiln kv_X6_kiln rfl ki_X6 kx_X6_kiln ⟨by decide, by decide, by decide +kernel⟩ (by decide) (by decide) dL_digest_58).r,
  List.forall_mem_cons.mpr ⟨STP.r mo_i2l (q_i2l dL_digest_61),
  List.forall_mem_cons.mpr ⟨STP.r mo_ladd (q_ladd dL_digest_62),
  List.forall_mem_cons.mpr ⟨STP.r mo_ls (q_lstore_n dL_digest_63 rfl),
  List.forall_mem_cons.mpr ⟨STP.r mo_inc (q_inc dL_digest_64 (by decide)),
  List.forall_mem_cons.mpr ⟨STP.r mo_goto (q_goto dL_digest_67 (by decide)),
  List.forall_mem_cons.mpr ⟨STP.r mo_lc (q_ldc2 kq_L_31 dL_digest_70),
  List.forall_mem_cons.mpr ⟨STP.r mo_ll (q_lload_n dL_digest_73 rfl),
  List.forall_mem_cons.mpr ⟨STP.r mo_lmul (q_lmul dL_digest_74),
  List.forall_mem_cons.mpr ⟨STP.r mo_al (q_aload_n dL_digest_75 rfl),
  List.forall_mem_cons.mpr ⟨STP.r mo_il (q_iload_n dL_digest_76 rfl),
  List.forall_mem_cons.mpr ⟨STP.r mo_ic (q_iconst dL_digest_77 (by decide)),
  List.forall_mem_cons.mpr ⟨(snd_CV sm_X6_ofYear ⟨by decide, by decide⟩ rfl km_L_23 kt_X6_ofYear kv_X6_ofYear rfl ki_X6 kx_X6_ofYear ⟨by decide, by decide, by decide +kernel⟩ (by decide) (by decide) dL_digest_78).r,
  List.forall_mem_cons.mpr ⟨STP.r mo_i2l (q_i2l dL_digest_81),
  List.forall_mem_cons.mpr ⟨STP.r mo_ladd (q_ladd dL_digest_82),
  List.forall_mem_cons.mpr ⟨STP.r mo_lc (q_ldc2 kq_L_7 dL_digest_83),
  List.forall_mem_cons.mpr ⟨STP.r mo_al (q_aload_n dL_digest_86 rfl),
  List.forall_mem_cons.mpr ⟨STP.r mo_il (q_iload_n dL_digest_87 rfl),
  List.forall_mem_cons.mpr ⟨STP.r mo_al (q_aload_n dL_digest_88 rfl),
  List.forall_mem_cons.mpr ⟨STP.r mo_ic (q_iconst dL_digest_89 (by decide)),
  List.forall_mem_cons.mpr ⟨(snd_CV sm_X6_count ⟨by decide, by decide⟩ rfl km_L_13 kt_X6_count kv_X6_count rfl ki_X6 kx_X6_count ⟨by decide, by decide, by decide +kernel⟩ (by decide) (by decide) dL_digest_90).r,
  List.forall_mem_cons.mpr ⟨(snd_CV sm_X6_ofYear ⟨by decide, by decide⟩ rfl km_L_23 kt_X6_ofYear kv_X6_ofYear rfl ki_X6 kx_X6_ofYear ⟨by decide, by decide, by decide +kernel⟩ (by decide) (by decide) dL_digest_93).r,
  List.forall_mem_cons.mpr ⟨STP.r mo_i2l (q_i2l dL_digest_96),
  List.forall_mem_cons.mpr ⟨STP.r mo_lmul (q_lmul dL_digest_97),
  List.forall_mem_cons.mpr ⟨STP.r mo_ladd (q_ladd dL_digest_98),
  List.forall_mem_cons.mpr ⟨STP.r mo_ls (q_lstore_n dL_digest_99 rfl),
  List.forall_mem_cons.mpr ⟨STP.r mo_inc (q_inc dL_digest_100 (by decide)),
  List.forall_mem_cons.mpr ⟨STP.r mo_goto (q_goto dL_digest_103 (by decide)),
  List.forall_mem_cons.mpr ⟨STP.r mo_ic (q_iconst dL_digest_106 (by decide)),
  List.forall_mem_cons.mpr ⟨STP.r mo_is (q_istore_n dL_digest_107 rfl),
  List.forall_mem_cons.mpr ⟨STP.r mo_il (q_iload_n dL_digest_108 rfl),
  List.forall_mem_cons.mpr ⟨STP.r mo_ic (q_bipush dL_digest_109 (by decide)),
  List.forall_mem_cons.mpr ⟨(q_ic_ge dL_digest_111 (by decide)).r,
  List.forall_mem_cons.mpr ⟨STP.r mo_ic (q_iconst dL_digest_114 (by decide)),
  List.forall_mem_cons.mpr ⟨STP.r mo_is (q_istore dL_digest_115),
  List.forall_mem_cons.mpr ⟨STP.r mo_il (q_iload dL_digest_117),
  List.forall_mem_cons.mpr ⟨STP.r mo_ic (q_iconst dL_digest_119 (by decide)),
  List.forall_mem_cons.mpr ⟨(q_ic_ge dL_digest_120 (by decide)).r,
  List.forall_mem_cons.mpr ⟨STP.r mo_lc (q_ldc2 kq_L_31 dL_digest_123),
  List.forall_mem_cons.mpr ⟨STP.r mo_ll (q_lload_n dL_digest_126 rfl),
  List.forall_mem_cons.mpr ⟨STP.r mo_lmul (q_lmul dL_digest_127),
  List.forall_mem_cons.mpr ⟨STP.r mo_lc (q_ldc2 kq_L_3 dL_digest_128),
  List.forall_mem_cons.mpr ⟨STP.r mo_al (q_aload_n dL_digest_131 rfl),
  List.forall_mem_cons.mpr ⟨STP.r mo_ic (q_iconst dL_digest_132 (by decide)),
  List.forall_mem_cons.mpr ⟨STP.r mo_il (q_iload_n dL_digest_133 rfl),
  List.forall_mem_cons.mpr ⟨STP.r mo_il (q_iload dL_digest_134),
  List.forall_mem_cons.mpr ⟨(snd_CV sm_X6_order ⟨by decide, by decide⟩ rfl km_L_30 kt_X6_order kv_X6_order rfl ki_X6 kx_X6_order ⟨by decide, by decide, by decide +kernel⟩ (by decide) (by decide) dL_digest_136).r,
  List.forall_mem_cons.mpr ⟨STP.r mo_i2l (q_i2l dL_digest_139),
  List.forall_mem_cons.mpr ⟨STP.r mo_lmul (q_lmul dL_digest_140),
  List.forall_mem_cons.mpr ⟨STP.r mo_ladd (q_ladd dL_digest_141),
  List.forall_mem_cons.mpr ⟨STP.r mo_al (q_aload_n dL_digest_142 rfl),
  List.forall_mem_cons.mpr ⟨STP.r mo_ic (q_iconst dL_digest_143 (by decide)),
  List.forall_mem_cons.mpr ⟨STP.r mo_il (q_iload_n dL_digest_144 rfl),
  List.forall_mem_cons.mpr ⟨STP.r mo_il (q_iload dL_digest_145),
  List.forall_mem_cons.mpr ⟨(snd_CV sm_X6_order ⟨by decide, by decide⟩ rfl km_L_30 kt_X6_order kv_X6_order rfl ki_X6 kx_X6_order ⟨by decide, by decide, by decide +kernel⟩ (by decide) (by decide) dL_digest_147).r,
  List.forall_mem_cons.mpr ⟨STP.r mo_i2l (q_i2l dL_digest_150),
  List.forall_mem_cons.mpr ⟨STP.r mo_ladd (q_ladd dL_digest_151),
  List.forall_mem_cons.mpr ⟨STP.r mo_ls (q_lstore_n dL_digest_152 rfl),
  List.forall_mem_cons.mpr ⟨STP.r mo_inc (q_inc dL_digest_153 (by decide)),
  List.forall_mem_cons.mpr ⟨STP.r mo_goto (q_goto dL_digest_156 (by decide)),
  List.forall_mem_cons.mpr ⟨STP.r mo_inc (q_inc dL_digest_159 (by decide)),
  List.forall_mem_cons.mpr ⟨STP.r mo_goto (q_goto dL_digest_162 (by decide)),
  List.forall_mem_cons.mpr ⟨STP.r mo_ll (q_lload_n dL_digest_165 rfl),
  List.forall_mem_cons.mpr ⟨r_lret dL_digest_166,
  fun _ h => absurd h List.not_mem_nil⟩⟩⟩⟩⟩⟩⟩⟩⟩⟩⟩⟩⟩⟩⟩⟩⟩⟩⟩⟩⟩⟩⟩⟩⟩⟩⟩⟩⟩⟩⟩⟩⟩⟩⟩⟩⟩⟩⟩⟩⟩⟩⟩⟩⟩⟩⟩⟩⟩⟩⟩⟩⟩⟩⟩⟩⟩⟩⟩⟩⟩⟩⟩⟩⟩⟩⟩⟩⟩⟩⟩⟩⟩⟩⟩⟩⟩⟩⟩⟩⟩⟩⟩⟩⟩⟩⟩⟩⟩⟩⟩⟩⟩⟩⟩⟩⟩⟩)
theorem e_L_digest_0 {Q : mQ} {ls st : List Value} {g : mG} : WP m_L_digest Q 0 ls st g = WP m_L_digest Q 3 ls (.long (109) :: st) g := E_lc (v := 109) (n := 3) lo_L_digest rfl
theorem e_L_digest_3 {Q : mQ} {l0 l1 l2 l3 l4 : Value} {st : List Value} {g : mG} {x : Int64} : WP m_L_digest Q 3 [l0, l1, l2, l3, l4] (.long x :: st) g = (nl1 l0 ∧ WP m_L_digest Q 4 [l0, .long x, .retAddr 0, l3, l4] st g) := E_ls (i := 1) (n := 1) lo_L_digest rfl (Nat.le_of_ble_eq_true rfl)
theorem e_L_digest_4 {Q : mQ} {ls st : List Value} {g : mG} : WP m_L_digest Q 4 ls st g = WP m_L_digest Q 5 ls (.int (nI 0) :: st) g := E_ic (v := nI 0) (n := 1) lo_L_digest rfl
theorem e_L_digest_5 {Q : mQ} {l0 l1 l2 l3 l4 : Value} {st : List Value} {g : mG} {x : Int32} : WP m_L_digest Q 5 [l0, l1, l2, l3, l4] (.int x :: st) g = (nl1 l2 ∧ WP m_L_digest Q 6 [l0, l1, l2, .int x, l4] st g) := E_is (i := 3) (n := 1) lo_L_digest rfl (Nat.le_of_ble_eq_true rfl)
theorem e_L_digest_6 {Q : mQ} {l0 l1 l2 l4 : Value} {st : List Value} {g : mG} {x : Int32} : WP m_L_digest Q 6 [l0, l1, l2, .int x, l4] st g = WP m_L_digest Q 7 [l0, l1, l2, .int x, l4] (.int x :: st) g := E_il (i := 3) (n := 1) lo_L_digest rfl rfl
theorem e_L_digest_7 {Q : mQ} {ls st : List Value} {g : mG} : WP m_L_digest Q 7 ls st g = WP m_L_digest Q 9 ls (.int (nI 19) :: st) g := E_ic (v := nI 19) (n := 2) lo_L_digest rfl
theorem e_L_digest_9 {Q : mQ} {ls st : List Value} {g : mG} {x y : Int32} : WP m_L_digest Q 9 ls (.int y :: .int x :: st) g = ((y ≤ x → WP m_L_digest Q 31 ls st g) ∧ (¬ (y ≤ x) → WP m_L_digest Q 12 ls st g)) := E_I2 (c := fun x y => y ≤ x) (t := 31) lo_L_digest rfl
theorem e_L_digest_12 {Q : mQ} {ls st : List Value} {g : mG} : WP m_L_digest Q 12 ls st g = WP m_L_digest Q 15 ls (.long (31) :: st) g := E_lc (v := 31) (n := 3) lo_L_digest rfl
theorem e_L_digest_15 {Q : mQ} {l0 l2 l3 l4 : Value} {st : List Value} {g : mG} {x : Int64} : WP m_L_digest Q 15 [l0, .long x, l2, l3, l4] st g = WP m_L_digest Q 16 [l0, .long x, l2, l3, l4] (.long x :: st) g := E_ll (i := 1) (n := 1) lo_L_digest rfl rfl
theorem e_L_digest_16 {Q : mQ} {ls st : List Value} {g : mG} {x y : Int64} : WP m_L_digest Q 16 ls (.long y :: .long x :: st) g = WP m_L_digest Q 17 ls (.long (x * y) :: st) g := E_lmul lo_L_digest rfl
theorem e_L_digest_17 {Q : mQ} {l1 l2 l3 l4 : Value} {st : List Value} {g : mG} {x : Nat} : WP m_L_digest Q 17 [.ref x, l1, l2, l3, l4] st g = WP m_L_digest Q 18 [.ref x, l1, l2, l3, l4] (.ref x :: st) g := E_al (i := 0) (n := 1) lo_L_digest rfl rfl
theorem e_L_digest_17n {Q : mQ} {l1 l2 l3 l4 : Value} {st : List Value} {g : mG} : WP m_L_digest Q 17 [.null, l1, l2, l3, l4] st g = WP m_L_digest Q 18 [.null, l1, l2, l3, l4] (.null :: st) g := E_aln (i := 0) (n := 1) lo_L_digest rfl rfl
theorem e_L_digest_18 {Q : mQ} {l0 l1 l2 l4 : Value} {st : List Value} {g : mG} {x : Int32} : WP m_L_digest Q 18 [l0, l1, l2, .int x, l4] st g = WP m_L_digest Q 19 [l0, l1, l2, .int x, l4] (.int x :: st) g := E_il (i := 3) (n := 1) lo_L_digest rfl rfl
theorem e_L_digest_19 {Q : mQ} {ls st : List Value} {g : mG} {b : Nat} {a0 : Value} : WP m_L_digest Q 19 ls (a0 :: .ref b :: st) g = (st.length ≤ 4 ∧ gK g b = 7 ∧ stbs g ls ∧ stbs g st ∧ w_X6_count [.ref b, a0] g (fun v g' => WP m_L_digest Q 22 ls (v.toList ++ st) g')) := E_CV (ar := [a0, .ref b]) lo_L_digest rfl rfl rfl (by decide)
theorem e_L_digest_22 {Q : mQ} {ls st : List Value} {g : mG} {x : Int32} : WP m_L_digest Q 22 ls (.int x :: st) g = WP m_L_digest Q 23 ls (.long x.toInt64 :: st) g := E_i2l lo_L_digest rfl
theorem e_L_digest_23 {Q : mQ} {ls st : List Value} {g : mG} {x y : Int64} : WP m_L_digest Q 23 ls (.long y :: .long x :: st) g = WP m_L_digest Q 24 ls (.long (x + y) :: st) g := E_ladd lo_L_digest rfl
theorem e_L_digest_24 {Q : mQ} {l0 l1 l2 l3 l4 : Value} {st : List Value} {g : mG} {x : Int64} : WP m_L_digest Q 24 [l0, l1, l2, l3, l4] (.long x :: st) g = (nl1 l0 ∧ WP m_L_digest Q 25 [l0, .long x, .retAddr 0, l3, l4] st g) := E_ls (i := 1) (n := 1) lo_L_digest rfl (Nat.le_of_ble_eq_true rfl)
theorem e_L_digest_25 {Q : mQ} {l0 l1 l2 l4 : Value} {st : List Value} {g : mG} {x : Int32} : WP m_L_digest Q 25 [l0, l1, l2, .int x, l4] st g = (nl1 l2 ∧ WP m_L_digest Q 28 [l0, l1, l2, .int (x + nI 1), l4] st g) := E_inc (i := 3) (d := nI 1) lo_L_digest rfl rfl
theorem e_L_digest_28 {Q : mQ} {ls st : List Value} {g : mG} : WP m_L_digest Q 28 ls st g = WP m_L_digest Q 6 ls st g := E_goto lo_L_digest rfl
theorem e_L_digest_31 {Q : mQ} {ls st : List Value} {g : mG} : WP m_L_digest Q 31 ls st g = WP m_L_digest Q 32 ls (.int (nI 0) :: st) g := E_ic (v := nI 0) (n := 1) lo_L_digest rfl
theorem e_L_digest_32 {Q : mQ} {l0 l1 l2 l3 l4 : Value} {st : List Value} {g : mG} {x : Int32} : WP m_L_digest Q 32 [l0, l1, l2, l3, l4] (.int x :: st) g = (nl1 l2 ∧ WP m_L_digest Q 33 [l0, l1, l2, .int x, l4] st g) := E_is (i := 3) (n := 1) lo_L_digest rfl (Nat.le_of_ble_eq_true rfl)
theorem e_L_digest_33 {Q : mQ} {l0 l1 l2 l4 : Value} {st : List Value} {g : mG} {x : Int32} : WP m_L_digest Q 33 [l0, l1, l2, .int x, l4] st g = WP m_L_digest Q 34 [l0, l1, l2, .int x, l4] (.int x :: st) g := E_il (i := 3) (n := 1) lo_L_digest rfl rfl
theorem e_L_digest_34 {Q : mQ} {ls st : List Value} {g : mG} : WP m_L_digest Q 34 ls st g = WP m_L_digest Q 36 ls (.int (nI 6) :: st) g := E_ic (v := nI 6) (n := 2) lo_L_digest rfl
theorem e_L_digest_36 {Q : mQ} {ls st : List Value} {g : mG} {x y : Int32} : WP m_L_digest Q 36 ls (.int y :: .int x :: st) g = ((y ≤ x → WP m_L_digest Q 106 ls st g) ∧ (¬ (y ≤ x) → WP m_L_digest Q 39 ls st g)) := E_I2 (c := fun x y => y ≤ x) (t := 106) lo_L_digest rfl
theorem e_L_digest_39 {Q : mQ} {ls st : List Value} {g : mG} : WP m_L_digest Q 39 ls st g = WP m_L_digest Q 40 ls (.int (nI 0) :: st) g := E_ic (v := nI 0) (n := 1) lo_L_digest rfl
theorem e_L_digest_40 {Q : mQ} {l0 l1 l2 l3 l4 : Value} {st : List Value} {g : mG} {x : Int32} : WP m_L_digest Q 40 [l0, l1, l2, l3, l4] (.int x :: st) g = (nl1 l3 ∧ WP m_L_digest Q 42 [l0, l1, l2, l3, .int x] st g) := E_is (i := 4) (n := 2) lo_L_digest rfl (Nat.le_of_ble_eq_true rfl)
theorem e_L_digest_42 {Q : mQ} {l0 l1 l2 l3 : Value} {st : List Value} {g : mG} {x : Int32} : WP m_L_digest Q 42 [l0, l1, l2, l3, .int x] st g = WP m_L_digest Q 44 [l0, l1, l2, l3, .int x] (.int x :: st) g := E_il (i := 4) (n := 2) lo_L_digest rfl rfl
theorem e_L_digest_44 {Q : mQ} {ls st : List Value} {g : mG} : WP m_L_digest Q 44 ls st g = WP m_L_digest Q 46 ls (.int (nI 12) :: st) g := E_ic (v := nI 12) (n := 2) lo_L_digest rfl
theorem e_L_digest_46 {Q : mQ} {ls st : List Value} {g : mG} {x y : Int32} : WP m_L_digest Q 46 ls (.int y :: .int x :: st) g = ((y ≤ x → WP m_L_digest Q 70 ls st g) ∧ (¬ (y ≤ x) → WP m_L_digest Q 49 ls st g)) := E_I2 (c := fun x y => y ≤ x) (t := 70) lo_L_digest rfl
theorem e_L_digest_49 {Q : mQ} {ls st : List Value} {g : mG} : WP m_L_digest Q 49 ls st g = WP m_L_digest Q 52 ls (.long (31) :: st) g := E_lc (v := 31) (n := 3) lo_L_digest rfl
theorem e_L_digest_52 {Q : mQ} {l0 l2 l3 l4 : Value} {st : List Value} {g : mG} {x : Int64} : WP m_L_digest Q 52 [l0, .long x, l2, l3, l4] st g = WP m_L_digest Q 53 [l0, .long x, l2, l3, l4] (.long x :: st) g := E_ll (i := 1) (n := 1) lo_L_digest rfl rfl
theorem e_L_digest_53 {Q : mQ} {ls st : List Value} {g : mG} {x y : Int64} : WP m_L_digest Q 53 ls (.long y :: .long x :: st) g = WP m_L_digest Q 54 ls (.long (x * y) :: st) g := E_lmul lo_L_digest rfl
theorem e_L_digest_54 {Q : mQ} {l1 l2 l3 l4 : Value} {st : List Value} {g : mG} {x : Nat} : WP m_L_digest Q 54 [.ref x, l1, l2, l3, l4] st g = WP m_L_digest Q 55 [.ref x, l1, l2, l3, l4] (.ref x :: st) g := E_al (i := 0) (n := 1) lo_L_digest rfl rfl
theorem e_L_digest_54n {Q : mQ} {l1 l2 l3 l4 : Value} {st : List Value} {g : mG} : WP m_L_digest Q 54 [.null, l1, l2, l3, l4] st g = WP m_L_digest Q 55 [.null, l1, l2, l3, l4] (.null :: st) g := E_aln (i := 0) (n := 1) lo_L_digest rfl rfl
theorem e_L_digest_55 {Q : mQ} {l0 l1 l2 l4 : Value} {st : List Value} {g : mG} {x : Int32} : WP m_L_digest Q 55 [l0, l1, l2, .int x, l4] st g = WP m_L_digest Q 56 [l0, l1, l2, .int x, l4] (.int x :: st) g := E_il (i := 3) (n := 1) lo_L_digest rfl rfl
theorem e_L_digest_56 {Q : mQ} {l0 l1 l2 l3 : Value} {st : List Value} {g : mG} {x : Int32} : WP m_L_digest Q 56 [l0, l1, l2, l3, .int x] st g = WP m_L_digest Q 58 [l0, l1, l2, l3, .int x] (.int x :: st) g := E_il (i := 4) (n := 2) lo_L_digest rfl rfl
theorem e_L_digest_58 {Q : mQ} {ls st : List Value} {g : mG} {b : Nat} {a0 a1 : Value} : WP m_L_digest Q 58 ls (a1 :: a0 :: .ref b :: st) g = (st.length ≤ 4 ∧ gK g b = 7 ∧ stbs g ls ∧ stbs g st ∧ w_X6_kiln [.ref b, a0, a1] g (fun v g' => WP m_L_digest Q 61 ls (v.toList ++ st) g')) := E_CV (ar := [a1, a0, .ref b]) lo_L_digest rfl rfl rfl (by decide)
theorem e_L_digest_61 {Q : mQ} {ls st : List Value} {g : mG} {x : Int32} : WP m_L_digest Q 61 ls (.int x :: st) g = WP m_L_digest Q 62 ls (.long x.toInt64 :: st) g := E_i2l lo_L_digest rfl
theorem e_L_digest_62 {Q : mQ} {ls st : List Value} {g : mG} {x y : Int64} : WP m_L_digest Q 62 ls (.long y :: .long x :: st) g = WP m_L_digest Q 63 ls (.long (x + y) :: st) g := E_ladd lo_L_digest rfl
theorem e_L_digest_63 {Q : mQ} {l0 l1 l2 l3 l4 : Value} {st : List Value} {g : mG} {x : Int64} : WP m_L_digest Q 63 [l0, l1, l2, l3, l4] (.long x :: st) g = (nl1 l0 ∧ WP m_L_digest Q 64 [l0, .long x, .retAddr 0, l3, l4] st g) := E_ls (i := 1) (n := 1) lo_L_digest rfl (Nat.le_of_ble_eq_true rfl)
theorem e_L_digest_64 {Q : mQ} {l0 l1 l2 l3 : Value} {st : List Value} {g : mG} {x : Int32} : WP m_L_digest Q 64 [l0, l1, l2, l3, .int x] st g = (nl1 l3 ∧ WP m_L_digest Q 67 [l0, l1, l2, l3, .int (x + nI 1)] st g) := E_inc (i := 4) (d := nI 1) lo_L_digest rfl rfl
theorem e_L_digest_67 {Q : mQ} {ls st : List Value} {g : mG} : WP m_L_digest Q 67 ls st g = WP m_L_digest Q 42 ls st g := E_goto lo_L_digest rfl
theorem e_L_digest_70 {Q : mQ} {ls st : List Value} {g : mG} : WP m_L_digest Q 70 ls st g = WP m_L_digest Q 73 ls (.long (31) :: st) g := E_lc (v := 31) (n := 3) lo_L_digest rfl
theorem e_L_digest_73 {Q : mQ} {l0 l2 l3 l4 : Value} {st : List Value} {g : mG} {x : Int64} : WP m_L_digest Q 73 [l0, .long x, l2, l3, l4] st g = WP m_L_digest Q 74 [l0, .long x, l2, l3, l4] (.long x :: st) g := E_ll (i := 1) (n := 1) lo_L_digest rfl rfl
theorem e_L_digest_74 {Q : mQ} {ls st : List Value} {g : mG} {x y : Int64} : WP m_L_digest Q 74 ls (.long y :: .long x :: st) g = WP m_L_digest Q 75 ls (.long (x * y) :: st) g := E_lmul lo_L_digest rfl
theorem e_L_digest_75 {Q : mQ} {l1 l2 l3 l4 : Value} {st : List Value} {g : mG} {x : Nat} : WP m_L_digest Q 75 [.ref x, l1, l2, l3, l4] st g = WP m_L_digest Q 76 [.ref x, l1, l2, l3, l4] (.ref x :: st) g := E_al (i := 0) (n := 1) lo_L_digest rfl rfl
theorem e_L_digest_75n {Q : mQ} {l1 l2 l3 l4 : Value} {st : List Value} {g : mG} : WP m_L_digest Q 75 [.null, l1, l2, l3, l4] st g = WP m_L_digest Q 76 [.null, l1, l2, l3, l4] (.null :: st) g := E_aln (i := 0) (n := 1) lo_L_digest rfl rfl
theorem e_L_digest_76 {Q : mQ} {l0 l1 l2 l4 : Value} {st : List Value} {g : mG} {x : Int32} : WP m_L_digest Q 76 [l0, l1, l2, .int x, l4] st g = WP m_L_digest Q 77 [l0, l1, l2, .int x, l4] (.int x :: st) g := E_il (i := 3) (n := 1) lo_L_digest rfl rfl
theorem e_L_digest_77 {Q : mQ} {ls st : List Value} {g : mG} : WP m_L_digest Q 77 ls st g = WP m_L_digest Q 78 ls (.int (nI 0) :: st) g := E_ic (v := nI 0) (n := 1) lo_L_digest rfl
theorem e_L_digest_78 {Q : mQ} {ls st : List Value} {g : mG} {b : Nat} {a0 a1 : Value} : WP m_L_digest Q 78 ls (a1 :: a0 :: .ref b :: st) g = (st.length ≤ 4 ∧ gK g b = 7 ∧ stbs g ls ∧ stbs g st ∧ w_X6_ofYear [.ref b, a0, a1] g (fun v g' => WP m_L_digest Q 81 ls (v.toList ++ st) g')) := E_CV (ar := [a1, a0, .ref b]) lo_L_digest rfl rfl rfl (by decide)
theorem e_L_digest_81 {Q : mQ} {ls st : List Value} {g : mG} {x : Int32} : WP m_L_digest Q 81 ls (.int x :: st) g = WP m_L_digest Q 82 ls (.long x.toInt64 :: st) g := E_i2l lo_L_digest rfl
theorem e_L_digest_82 {Q : mQ} {ls st : List Value} {g : mG} {x y : Int64} : WP m_L_digest Q 82 ls (.long y :: .long x :: st) g = WP m_L_digest Q 83 ls (.long (x + y) :: st) g := E_ladd lo_L_digest rfl
theorem e_L_digest_83 {Q : mQ} {ls st : List Value} {g : mG} : WP m_L_digest Q 83 ls st g = WP m_L_digest Q 86 ls (.long (7) :: st) g := E_lc (v := 7) (n := 3) lo_L_digest rfl
theorem e_L_digest_86 {Q : mQ} {l1 l2 l3 l4 : Value} {st : List Value} {g : mG} {x : Nat} : WP m_L_digest Q 86 [.ref x, l1, l2, l3, l4] st g = WP m_L_digest Q 87 [.ref x, l1, l2, l3, l4] (.ref x :: st) g := E_al (i := 0) (n := 1) lo_L_digest rfl rfl
theorem e_L_digest_86n {Q : mQ} {l1 l2 l3 l4 : Value} {st : List Value} {g : mG} : WP m_L_digest Q 86 [.null, l1, l2, l3, l4] st g = WP m_L_digest Q 87 [.null, l1, l2, l3, l4] (.null :: st) g := E_aln (i := 0) (n := 1) lo_L_digest rfl rfl
theorem e_L_digest_87 {Q : mQ} {l0 l1 l2 l4 : Value} {st : List Value} {g : mG} {x : Int32} : WP m_L_digest Q 87 [l0, l1, l2, .int x, l4] st g = WP m_L_digest Q 88 [l0, l1, l2, .int x, l4] (.int x :: st) g := E_il (i := 3) (n := 1) lo_L_digest rfl rfl
theorem e_L_digest_88 {Q : mQ} {l1 l2 l3 l4 : Value} {st : List Value} {g : mG} {x : Nat} : WP m_L_digest Q 88 [.ref x, l1, l2, l3, l4] st g = WP m_L_digest Q 89 [.ref x, l1, l2, l3, l4] (.ref x :: st) g := E_al (i := 0) (n := 1) lo_L_digest rfl rfl
theorem e_L_digest_88n {Q : mQ} {l1 l2 l3 l4 : Value} {st : List Value} {g : mG} : WP m_L_digest Q 88 [.null, l1, l2, l3, l4] st g = WP m_L_digest Q 89 [.null, l1, l2, l3, l4] (.null :: st) g := E_aln (i := 0) (n := 1) lo_L_digest rfl rfl
theorem e_L_digest_89 {Q : mQ} {ls st : List Value} {g : mG} : WP m_L_digest Q 89 ls st g = WP m_L_digest Q 90 ls (.int (nI 0) :: st) g := E_ic (v := nI 0) (n := 1) lo_L_digest rfl
theorem e_L_digest_90 {Q : mQ} {ls st : List Value} {g : mG} {b : Nat} {a0 : Value} : WP m_L_digest Q 90 ls (a0 :: .ref b :: st) g = (st.length ≤ 4 ∧ gK g b = 7 ∧ stbs g ls ∧ stbs g st ∧ w_X6_count [.ref b, a0] g (fun v g' => WP m_L_digest Q 93 ls (v.toList ++ st) g')) := E_CV (ar := [a0, .ref b]) lo_L_digest rfl rfl rfl (by decide)
theorem e_L_digest_93 {Q : mQ} {ls st : List Value} {g : mG} {b : Nat} {a0 a1 : Value} : WP m_L_digest Q 93 ls (a1 :: a0 :: .ref b :: st) g = (st.length ≤ 4 ∧ gK g b = 7 ∧ stbs g ls ∧ stbs g st ∧ w_X6_ofYear [.ref b, a0, a1] g (fun v g' => WP m_L_digest Q 96 ls (v.toList ++ st) g')) := E_CV (ar := [a1, a0, .ref b]) lo_L_digest rfl rfl rfl (by decide)
theorem e_L_digest_96 {Q : mQ} {ls st : List Value} {g : mG} {x : Int32} : WP m_L_digest Q 96 ls (.int x :: st) g = WP m_L_digest Q 97 ls (.long x.toInt64 :: st) g := E_i2l lo_L_digest rfl
theorem e_L_digest_97 {Q : mQ} {ls st : List Value} {g : mG} {x y : Int64} : WP m_L_digest Q 97 ls (.long y :: .long x :: st) g = WP m_L_digest Q 98 ls (.long (x * y) :: st) g := E_lmul lo_L_digest rfl
theorem e_L_digest_98 {Q : mQ} {ls st : List Value} {g : mG} {x y : Int64} : WP m_L_digest Q 98 ls (.long y :: .long x :: st) g = WP m_L_digest Q 99 ls (.long (x + y) :: st) g := E_ladd lo_L_digest rfl
theorem e_L_digest_99 {Q : mQ} {l0 l1 l2 l3 l4 : Value} {st : List Value} {g : mG} {x : Int64} : WP m_L_digest Q 99 [l0, l1, l2, l3, l4] (.long x :: st) g = (nl1 l0 ∧ WP m_L_digest Q 100 [l0, .long x, .retAddr 0, l3, l4] st g) := E_ls (i := 1) (n := 1) lo_L_digest rfl (Nat.le_of_ble_eq_true rfl)
theorem e_L_digest_100 {Q : mQ} {l0 l1 l2 l4 : Value} {st : List Value} {g : mG} {x : Int32} : WP m_L_digest Q 100 [l0, l1, l2, .int x, l4] st g = (nl1 l2 ∧ WP m_L_digest Q 103 [l0, l1, l2, .int (x + nI 1), l4] st g) := E_inc (i := 3) (d := nI 1) lo_L_digest rfl rfl
theorem e_L_digest_103 {Q : mQ} {ls st : List Value} {g : mG} : WP m_L_digest Q 103 ls st g = WP m_L_digest Q 33 ls st g := E_goto lo_L_digest rfl
theorem e_L_digest_106 {Q : mQ} {ls st : List Value} {g : mG} : WP m_L_digest Q 106 ls st g = WP m_L_digest Q 107 ls (.int (nI 0) :: st) g := E_ic (v := nI 0) (n := 1) lo_L_digest rfl
theorem e_L_digest_107 {Q : mQ} {l0 l1 l2 l3 l4 : Value} {st : List Value} {g : mG} {x : Int32} : WP m_L_digest Q 107 [l0, l1, l2, l3, l4] (.int x :: st) g = (nl1 l2 ∧ WP m_L_digest Q 108 [l0, l1, l2, .int x, l4] st g) := E_is (i := 3) (n := 1) lo_L_digest rfl (Nat.le_of_ble_eq_true rfl)
theorem e_L_digest_108 {Q : mQ} {l0 l1 l2 l4 : Value} {st : List Value} {g : mG} {x : Int32} : WP m_L_digest Q 108 [l0, l1, l2, .int x, l4] st g = WP m_L_digest Q 109 [l0, l1, l2, .int x, l4] (.int x :: st) g := E_il (i := 3) (n := 1) lo_L_digest rfl rfl
theorem e_L_digest_109 {Q : mQ} {ls st : List Value} {g : mG} : WP m_L_digest Q 109 ls st g = WP m_L_digest Q 111 ls (.int (nI 16) :: st) g := E_ic (v := nI 16) (n := 2) lo_L_digest rfl
theorem e_L_digest_111 {Q : mQ} {ls st : List Value} {g : mG} {x y : Int32} : WP m_L_digest Q 111 ls (.int y :: .int x :: st) g = ((y ≤ x → WP m_L_digest Q 165 ls st g) ∧ (¬ (y ≤ x) → WP m_L_digest Q 114 ls st g)) := E_I2 (c := fun x y => y ≤ x) (t := 165) lo_L_digest rfl
theorem e_L_digest_114 {Q : mQ} {ls st : List Value} {g : mG} : WP m_L_digest Q 114 ls st g = WP m_L_digest Q 115 ls (.int (nI 0) :: st) g := E_ic (v := nI 0) (n := 1) lo_L_digest rfl
theorem e_L_digest_115 {Q : mQ} {l0 l1 l2 l3 l4 : Value} {st : List Value} {g : mG} {x : Int32} : WP m_L_digest Q 115 [l0, l1, l2, l3, l4] (.int x :: st) g = (nl1 l3 ∧ WP m_L_digest Q 117 [l0, l1, l2, l3, .int x] st g) := E_is (i := 4) (n := 2) lo_L_digest rfl (Nat.le_of_ble_eq_true rfl)
theorem e_L_digest_117 {Q : mQ} {l0 l1 l2 l3 : Value} {st : List Value} {g : mG} {x : Int32} : WP m_L_digest Q 117 [l0, l1, l2, l3, .int x] st g = WP m_L_digest Q 119 [l0, l1, l2, l3, .int x] (.int x :: st) g := E_il (i := 4) (n := 2) lo_L_digest rfl rfl
theorem e_L_digest_119 {Q : mQ} {ls st : List Value} {g : mG} : WP m_L_digest Q 119 ls st g = WP m_L_digest Q 120 ls (.int (nI 4) :: st) g := E_ic (v := nI 4) (n := 1) lo_L_digest rfl
theorem e_L_digest_120 {Q : mQ} {ls st : List Value} {g : mG} {x y : Int32} : WP m_L_digest Q 120 ls (.int y :: .int x :: st) g = ((y ≤ x → WP m_L_digest Q 159 ls st g) ∧ (¬ (y ≤ x) → WP m_L_digest Q 123 ls st g)) := E_I2 (c := fun x y => y ≤ x) (t := 159) lo_L_digest rfl
theorem e_L_digest_123 {Q : mQ} {ls st : List Value} {g : mG} : WP m_L_digest Q 123 ls st g = WP m_L_digest Q 126 ls (.long (31) :: st) g := E_lc (v := 31) (n := 3) lo_L_digest rfl
theorem e_L_digest_126 {Q : mQ} {l0 l2 l3 l4 : Value} {st : List Value} {g : mG} {x : Int64} : WP m_L_digest Q 126 [l0, .long x, l2, l3, l4] st g = WP m_L_digest Q 127 [l0, .long x, l2, l3, l4] (.long x :: st) g := E_ll (i := 1) (n := 1) lo_L_digest rfl rfl
theorem e_L_digest_127 {Q : mQ} {ls st : List Value} {g : mG} {x y : Int64} : WP m_L_digest Q 127 ls (.long y :: .long x :: st) g = WP m_L_digest Q 128 ls (.long (x * y) :: st) g := E_lmul lo_L_digest rfl
theorem e_L_digest_128 {Q : mQ} {ls st : List Value} {g : mG} : WP m_L_digest Q 128 ls st g = WP m_L_digest Q 131 ls (.long (3) :: st) g := E_lc (v := 3) (n := 3) lo_L_digest rfl
theorem e_L_digest_131 {Q : mQ} {l1 l2 l3 l4 : Value} {st : List Value} {g : mG} {x : Nat} : WP m_L_digest Q 131 [.ref x, l1, l2, l3, l4] st g = WP m_L_digest Q 132 [.ref x, l1, l2, l3, l4] (.ref x :: st) g := E_al (i := 0) (n := 1) lo_L_digest rfl rfl
theorem e_L_digest_131n {Q : mQ} {l1 l2 l3 l4 : Value} {st : List Value} {g : mG} : WP m_L_digest Q 131 [.null, l1, l2, l3, l4] st g = WP m_L_digest Q 132 [.null, l1, l2, l3, l4] (.null :: st) g := E_aln (i := 0) (n := 1) lo_L_digest rfl rfl
theorem e_L_digest_132 {Q : mQ} {ls st : List Value} {g : mG} : WP m_L_digest Q 132 ls st g = WP m_L_digest Q 133 ls (.int (nI 1) :: st) g := E_ic (v := nI 1) (n := 1) lo_L_digest rfl
theorem e_L_digest_133 {Q : mQ} {l0 l1 l2 l4 : Value} {st : List Value} {g : mG} {x : Int32} : WP m_L_digest Q 133 [l0, l1, l2, .int x, l4] st g = WP m_L_digest Q 134 [l0, l1, l2, .int x, l4] (.int x :: st) g := E_il (i := 3) (n := 1) lo_L_digest rfl rfl
theorem e_L_digest_134 {Q : mQ} {l0 l1 l2 l3 : Value} {st : List Value} {g : mG} {x : Int32} : WP m_L_digest Q 134 [l0, l1, l2, l3, .int x] st g = WP m_L_digest Q 136 [l0, l1, l2, l3, .int x] (.int x :: st) g := E_il (i := 4) (n := 2) lo_L_digest rfl rfl
theorem e_L_digest_136 {Q : mQ} {ls st : List Value} {g : mG} {b : Nat} {a0 a1 a2 : Value} : WP m_L_digest Q 136 ls (a2 :: a1 :: a0 :: .ref b :: st) g = (st.length ≤ 4 ∧ gK g b = 7 ∧ stbs g ls ∧ stbs g st ∧ w_X6_order [.ref b, a0, a1, a2] g (fun v g' => WP m_L_digest Q 139 ls (v.toList ++ st) g')) := E_CV (ar := [a2, a1, a0, .ref b]) lo_L_digest rfl rfl rfl (by decide)
theorem e_L_digest_139 {Q : mQ} {ls st : List Value} {g : mG} {x : Int32} : WP m_L_digest Q 139 ls (.int x :: st) g = WP m_L_digest Q 140 ls (.long x.toInt64 :: st) g := E_i2l lo_L_digest rfl
theorem e_L_digest_140 {Q : mQ} {ls st : List Value} {g : mG} {x y : Int64} : WP m_L_digest Q 140 ls (.long y :: .long x :: st) g = WP m_L_digest Q 141 ls (.long (x * y) :: st) g := E_lmul lo_L_digest rfl
theorem e_L_digest_141 {Q : mQ} {ls st : List Value} {g : mG} {x y : Int64} : WP m_L_digest Q 141 ls (.long y :: .long x :: st) g = WP m_L_digest Q 142 ls (.long (x + y) :: st) g := E_ladd lo_L_digest rfl
theorem e_L_digest_142 {Q : mQ} {l1 l2 l3 l4 : Value} {st : List Value} {g : mG} {x : Nat} : WP m_L_digest Q 142 [.ref x, l1, l2, l3, l4] st g = WP m_L_digest Q 143 [.ref x, l1, l2, l3, l4] (.ref x :: st) g := E_al (i := 0) (n := 1) lo_L_digest rfl rfl
theorem e_L_digest_142n {Q : mQ} {l1 l2 l3 l4 : Value} {st : List Value} {g : mG} : WP m_L_digest Q 142 [.null, l1, l2, l3, l4] st g = WP m_L_digest Q 143 [.null, l1, l2, l3, l4] (.null :: st) g := E_aln (i := 0) (n := 1) lo_L_digest rfl rfl
theorem e_L_digest_143 {Q : mQ} {ls st : List Value} {g : mG} : WP m_L_digest Q 143 ls st g = WP m_L_digest Q 144 ls (.int (nI 0) :: st) g := E_ic (v := nI 0) (n := 1) lo_L_digest rfl
theorem e_L_digest_144 {Q : mQ} {l0 l1 l2 l4 : Value} {st : List Value} {g : mG} {x : Int32} : WP m_L_digest Q 144 [l0, l1, l2, .int x, l4] st g = WP m_L_digest Q 145 [l0, l1, l2, .int x, l4] (.int x :: st) g := E_il (i := 3) (n := 1) lo_L_digest rfl rfl
theorem e_L_digest_145 {Q : mQ} {l0 l1 l2 l3 : Value} {st : List Value} {g : mG} {x : Int32} : WP m_L_digest Q 145 [l0, l1, l2, l3, .int x] st g = WP m_L_digest Q 147 [l0, l1, l2, l3, .int x] (.int x :: st) g := E_il (i := 4) (n := 2) lo_L_digest rfl rfl
theorem e_L_digest_147 {Q : mQ} {ls st : List Value} {g : mG} {b : Nat} {a0 a1 a2 : Value} : WP m_L_digest Q 147 ls (a2 :: a1 :: a0 :: .ref b :: st) g = (st.length ≤ 4 ∧ gK g b = 7 ∧ stbs g ls ∧ stbs g st ∧ w_X6_order [.ref b, a0, a1, a2] g (fun v g' => WP m_L_digest Q 150 ls (v.toList ++ st) g')) := E_CV (ar := [a2, a1, a0, .ref b]) lo_L_digest rfl rfl rfl (by decide)
theorem e_L_digest_150 {Q : mQ} {ls st : List Value} {g : mG} {x : Int32} : WP m_L_digest Q 150 ls (.int x :: st) g = WP m_L_digest Q 151 ls (.long x.toInt64 :: st) g := E_i2l lo_L_digest rfl
theorem e_L_digest_151 {Q : mQ} {ls st : List Value} {g : mG} {x y : Int64} : WP m_L_digest Q 151 ls (.long y :: .long x :: st) g = WP m_L_digest Q 152 ls (.long (x + y) :: st) g := E_ladd lo_L_digest rfl
theorem e_L_digest_152 {Q : mQ} {l0 l1 l2 l3 l4 : Value} {st : List Value} {g : mG} {x : Int64} : WP m_L_digest Q 152 [l0, l1, l2, l3, l4] (.long x :: st) g = (nl1 l0 ∧ WP m_L_digest Q 153 [l0, .long x, .retAddr 0, l3, l4] st g) := E_ls (i := 1) (n := 1) lo_L_digest rfl (Nat.le_of_ble_eq_true rfl)
theorem e_L_digest_153 {Q : mQ} {l0 l1 l2 l3 : Value} {st : List Value} {g : mG} {x : Int32} : WP m_L_digest Q 153 [l0, l1, l2, l3, .int x] st g = (nl1 l3 ∧ WP m_L_digest Q 156 [l0, l1, l2, l3, .int (x + nI 1)] st g) := E_inc (i := 4) (d := nI 1) lo_L_digest rfl rfl
theorem e_L_digest_156 {Q : mQ} {ls st : List Value} {g : mG} : WP m_L_digest Q 156 ls st g = WP m_L_digest Q 117 ls st g := E_goto lo_L_digest rfl
theorem e_L_digest_159 {Q : mQ} {l0 l1 l2 l4 : Value} {st : List Value} {g : mG} {x : Int32} : WP m_L_digest Q 159 [l0, l1, l2, .int x, l4] st g = (nl1 l2 ∧ WP m_L_digest Q 162 [l0, l1, l2, .int (x + nI 1), l4] st g) := E_inc (i := 3) (d := nI 1) lo_L_digest rfl rfl
theorem e_L_digest_162 {Q : mQ} {ls st : List Value} {g : mG} : WP m_L_digest Q 162 ls st g = WP m_L_digest Q 108 ls st g := E_goto lo_L_digest rfl
theorem e_L_digest_165 {Q : mQ} {l0 l2 l3 l4 : Value} {st : List Value} {g : mG} {x : Int64} : WP m_L_digest Q 165 [l0, .long x, l2, l3, l4] st g = WP m_L_digest Q 166 [l0, .long x, l2, l3, l4] (.long x :: st) g := E_ll (i := 1) (n := 1) lo_L_digest rfl rfl
theorem e_L_digest_166 {Q : mQ} {ls : List Value} {g : mG} {v : Int64} : WP m_L_digest Q 166 ls [.long v] g = Q (some (.long v)) g := E_jret lo_L_digest rfl
/-! KilnPermitsLaw.kiln(LKilnPermits;I)Z -/
def m_L_kiln : List (Nat × mT) := [(0, tD (f_ic (nI 0) 1)),
  (1, tD (f_is 2 1)),
  (2, tD (f_ic ((-5)) 2)),
  (4, tD (f_is 3 1)),
  (5, tD (f_al 0 1)),
  (6, tD (f_ic (nI 0) 1)),
  (7, tC w_X6_count 7 2),
  (10, tD (f_is 4 2)),
  (12, tD (f_il 4 2)),
  (14, tI1 (fun x => x < 0) 56),
  (17, tD (f_al 0 1)),
  (18, tD (f_il 1 1)),
  (19, tD (f_il 4 2)),
  (21, tC w_X6_ofYear 7 3),
  (24, tD (f_is 5 2)),
  (26, tD (f_il 2 1)),
  (27, tD (f_il 5 2)),
  (29, tD (f_b2 fun x y => x + y)),
  (30, tD (f_is 2 1)),
  (31, tD (f_il 5 2)),
  (33, tI1 (fun x => x ≤ 0) 41),
  (36, tD (f_il 4 2)),
  (38, tD (f_goto 42)),
  (41, tD (f_il 3 1)),
  (42, tD (f_is 3 1)),
  (43, tD (f_il 5 2)),
  (45, tI1 (fun x => 0 ≤ x) 50),
  (48, tD (f_ic (nI 0) 1)),
  (49, tR f_zret),
  (50, tD (f_inc 4 ((-1)))),
  (53, tD (f_goto 12)),
  (56, tD (f_al 0 1)),
  (57, tD (f_il 1 1)),
  (58, tD (f_ic (nI 3) 1)),
  (59, tC w_X6_kiln 7 3),
  (62, tD (f_al 0 1)),
  (63, tD (f_il 1 1)),
  (64, tD (f_ic (nI 5) 1)),
  (65, tC w_X6_kiln 7 3),
  (68, tD (f_b2 fun x y => x + y)),
  (69, tD (f_al 0 1)),
  (70, tD (f_il 1 1)),
  (71, tD (f_ic (nI 6) 2)),
  (73, tC w_X6_kiln 7 3),
  (76, tD (f_b2 fun x y => x + y)),
  (77, tD (f_al 0 1)),
  (78, tD (f_il 1 1)),
  (79, tD (f_ic (nI 4) 1)),
  (80, tC w_X6_kiln 7 3),
  (83, tD (f_b2 fun x y => x - y)),
  (84, tD (f_il 2 1)),
  (85, tD (f_b2 fun x y => x - y)),
  (86, tD (f_is 4 2)),
  (88, tD (f_al 0 1)),
  (89, tD (f_il 1 1)),
  (90, tD (f_ic (nI 1) 1)),
  (91, tC w_X6_kiln 7 3),
  (94, tD (f_il 2 1)),
  (95, tI2 (fun x y => ¬ x = y) 158),
  (98, tD (f_al 0 1)),
  (99, tD (f_il 1 1)),
  (100, tD (f_ic (nI 9) 2)),
  (102, tC w_X6_kiln 7 3),
  (105, tD (f_il 3 1)),
  (106, tI2 (fun x y => ¬ x = y) 158),
  (109, tD (f_al 0 1)),
  (110, tD (f_il 1 1)),
  (111, tD (f_ic (nI 8) 2)),
  (113, tC w_X6_kiln 7 3),
  (116, tD (f_il 4 2)),
  (118, tI1 (fun x => x ≤ 0) 126),
  (121, tD (f_il 4 2)),
  (123, tD (f_goto 127)),
  (126, tD (f_ic (nI 0) 1)),
  (127, tI2 (fun x y => ¬ x = y) 158),
  (130, tD (f_al 0 1)),
  (131, tD (f_il 1 1)),
  (132, tD (f_ic (nI 2) 1)),
  (133, tC w_X6_kiln 7 3),
  (136, tD (f_al 0 1)),
  (137, tD (f_il 1 1)),
  (138, tD (f_ic (nI 3) 1)),
  (139, tC w_X6_kiln 7 3),
  (142, tI2 (fun x y => x < y) 158),
  (145, tD (f_al 0 1)),
  (146, tD (f_il 1 1)),
  (147, tD (f_ic (nI 0) 1)),
  (148, tC w_X6_kiln 7 3),
  (151, tI1 (fun x => x < 0) 158),
  (154, tD (f_ic (nI 1) 1)),
  (155, tD (f_goto 159)),
  (158, tD (f_ic (nI 0) 1)),
  (159, tR f_zret)]
abbrev w_L_kiln : mS := wm m_L_kiln 2 4
set_option maxRecDepth 100000 in
theorem lo_L_kiln : locs_ok m_L_kiln := List.forall_mem_cons.mpr ⟨loc_D mo_ic,
  List.forall_mem_cons.mpr ⟨loc_D mo_is,
  List.forall_mem_cons.mpr ⟨loc_D mo_ic,
  List.forall_mem_cons.mpr ⟨loc_D mo_is,
  List.forall_mem_cons.mpr ⟨loc_D mo_al,
  List.forall_mem_cons.mpr ⟨loc_D mo_ic,
  List.forall_mem_cons.mpr ⟨loc_C sm_X6_count.1,
  List.forall_mem_cons.mpr ⟨loc_D mo_is,
  List.forall_mem_cons.mpr ⟨loc_D mo_il,
  List.forall_mem_cons.mpr ⟨loc_I1,
  List.forall_mem_cons.mpr ⟨loc_D mo_al,
  List.forall_mem_cons.mpr ⟨loc_D mo_il,
  List.forall_mem_cons.mpr ⟨loc_D mo_il,
  List.forall_mem_cons.mpr ⟨loc_C sm_X6_ofYear.1,
  List.forall_mem_cons.mpr ⟨loc_D mo_is,
  List.forall_mem_cons.mpr ⟨loc_D mo_il,
  List.forall_mem_cons.mpr ⟨loc_D mo_il,
  List.forall_mem_cons.mpr ⟨loc_D mo_b2,
  List.forall_mem_cons.mpr ⟨loc_D mo_is,
  List.forall_mem_cons.mpr ⟨loc_D mo_il,
  List.forall_mem_cons.mpr ⟨loc_I1,
  List.forall_mem_cons.mpr ⟨loc_D mo_il,
  List.forall_mem_cons.mpr ⟨loc_D mo_goto,
  List.forall_mem_cons.mpr ⟨loc_D mo_il,
  List.forall_mem_cons.mpr ⟨loc_D mo_is,
  List.forall_mem_cons.mpr ⟨loc_D mo_il,
  List.forall_mem_cons.mpr ⟨loc_I1,
  List.forall_mem_cons.mpr ⟨loc_D mo_ic,
  List.forall_mem_cons.mpr ⟨loc_R,
  List.forall_mem_cons.mpr ⟨loc_D mo_inc,
  List.forall_mem_cons.mpr ⟨loc_D mo_goto,
  List.forall_mem_cons.mpr ⟨loc_D mo_al,
  List.forall_mem_cons.mpr ⟨loc_D mo_il,
  List.forall_mem_cons.mpr ⟨loc_D mo_ic,
  List.forall_mem_cons.mpr ⟨loc_C sm_X6_kiln.1,
  List.forall_mem_cons.mpr ⟨loc_D mo_al,
  List.forall_mem_cons.mpr ⟨loc_D mo_il,
  List.forall_mem_cons.mpr ⟨loc_D mo_ic,
  List.forall_mem_cons.mpr ⟨loc_C sm_X6_kiln.1,
  List.forall_mem_cons.mpr ⟨loc_D mo_b2,
  List.forall_mem_cons.mpr ⟨loc_D mo_al,
  List.forall_mem_cons.mpr ⟨loc_D mo_il,
  List.forall_mem_cons.mpr ⟨loc_D mo_ic,
  List.forall_mem_cons.mpr ⟨loc_C sm_X6_kiln.1,
  List.forall_mem_cons.mpr ⟨loc_D mo_b2,
  List.forall_mem_cons.mpr ⟨loc_D mo_al,
  List.forall_mem_cons.mpr ⟨loc_D mo_il,
  List.forall_mem_cons.mpr ⟨loc_D mo_ic,
  List.forall_mem_cons.mpr ⟨loc_C sm_X6_kiln.1,
  List.forall_mem_cons.mpr ⟨loc_D mo_b2,
  List.forall_mem_cons.mpr ⟨loc_D mo_il,
  List.forall_mem_cons.mpr ⟨loc_D mo_b2,
  List.forall_mem_cons.mpr ⟨loc_D mo_is,
  List.forall_mem_cons.mpr ⟨loc_D mo_al,
  List.forall_mem_cons.mpr ⟨loc_D mo_il,
  List.forall_mem_cons.mpr ⟨loc_D mo_ic,
  List.forall_mem_cons.mpr ⟨loc_C sm_X6_kiln.1,
  List.forall_mem_cons.mpr ⟨loc_D mo_il,
  List.forall_mem_cons.mpr ⟨loc_I2,
  List.forall_mem_cons.mpr ⟨loc_D mo_al,
  List.forall_mem_cons.mpr ⟨loc_D mo_il,
  List.forall_mem_cons.mpr ⟨loc_D mo_ic,
  List.forall_mem_cons.mpr ⟨loc_C sm_X6_kiln.1,
  List.forall_mem_cons.mpr ⟨loc_D mo_il,
  List.forall_mem_cons.mpr ⟨loc_I2,
  List.forall_mem_cons.mpr ⟨loc_D mo_al,
  List.forall_mem_cons.mpr ⟨loc_D mo_il,
  List.forall_mem_cons.mpr ⟨loc_D mo_ic,
  List.forall_mem_cons.mpr ⟨loc_C sm_X6_kiln.1,
  List.forall_mem_cons.mpr ⟨loc_D mo_il,
  List.forall_mem_cons.mpr ⟨loc_I1,
  List.forall_mem_cons.mpr ⟨loc_D mo_il,
  List.forall_mem_cons.mpr ⟨loc_D mo_goto,
  List.forall_mem_cons.mpr ⟨loc_D mo_ic,
  List.forall_mem_cons.mpr ⟨loc_I2,
  List.forall_mem_cons.mpr ⟨loc_D mo_al,
  List.forall_mem_cons.mpr ⟨loc_D mo_il,
  List.forall_mem_cons.mpr ⟨loc_D mo_ic,
  List.forall_mem_cons.mpr ⟨loc_C sm_X6_kiln.1,
  List.forall_mem_cons.mpr ⟨loc_D mo_al,
  List.forall_mem_cons.mpr ⟨loc_D mo_il,
  List.forall_mem_cons.mpr ⟨loc_D mo_ic,
  List.forall_mem_cons.mpr ⟨loc_C sm_X6_kiln.1,
  List.forall_mem_cons.mpr ⟨loc_I2,
  List.forall_mem_cons.mpr ⟨loc_D mo_al,
  List.forall_mem_cons.mpr ⟨loc_D mo_il,
  List.forall_mem_cons.mpr ⟨loc_D mo_ic,
  List.forall_mem_cons.mpr ⟨loc_C sm_X6_kiln.1,
  List.forall_mem_cons.mpr ⟨loc_I1,
  List.forall_mem_cons.mpr ⟨loc_D mo_ic,
  List.forall_mem_cons.mpr ⟨loc_D mo_goto,
  List.forall_mem_cons.mpr ⟨loc_D mo_ic,
  List.forall_mem_cons.mpr ⟨loc_R,
  fun _ h => absurd h List.not_mem_nil⟩⟩⟩⟩⟩⟩⟩⟩⟩⟩⟩⟩⟩⟩⟩⟩⟩⟩⟩⟩⟩⟩⟩⟩⟩⟩⟩⟩⟩⟩⟩⟩⟩⟩⟩⟩⟩⟩⟩⟩⟩⟩⟩⟩⟩⟩⟩⟩⟩⟩⟩⟩⟩⟩⟩⟩⟩⟩⟩⟩⟩⟩⟩⟩⟩⟩⟩⟩⟩⟩⟩⟩⟩⟩⟩⟩⟩⟩⟩⟩⟩⟩⟩⟩⟩⟩⟩⟩⟩⟩⟩⟩⟩
set_option maxRecDepth 100000 in
theorem sm_L_kiln : SM yL_kiln cL_kiln 6 (some .boolean) 5 w_L_kiln := SM_of' RL "kiln" rfl rfl (by decide) (by decide) (by decide) lo_L_kiln (List.forall_mem_cons.mpr ⟨STP.r mo_ic (q_iconst dL_kiln_0 (by decide)),
  List.forall_mem_cons.mpr ⟨STP.r mo_is (q_istore_n dL_kiln_1 rfl),
  List.forall_mem_cons.mpr ⟨STP.r mo_ic (q_bipush dL_kiln_2 (by decide)),
  List.forall_mem_cons.mpr ⟨STP.r mo_is (q_istore_n dL_kiln_4 rfl),
  List.forall_mem_cons.mpr ⟨STP.r mo_al (q_aload_n dL_kiln_5 rfl),
  List.forall_mem_cons.mpr ⟨STP.r mo_ic (q_iconst dL_kiln_6 (by decide)),
  List.forall_mem_cons.mpr ⟨(snd_CV sm_X6_count ⟨by decide, by decide⟩ rfl km_L_13 kt_X6_count kv_X6_count rfl ki_X6 kx_X6_count ⟨by decide, by decide, by decide +kernel⟩ (by decide) (by decide) dL_kiln_7).r,
  List.forall_mem_cons.mpr ⟨STP.r mo_is (q_istore dL_kiln_10),
  List.forall_mem_cons.mpr ⟨STP.r mo_il (q_iload dL_kiln_12),
  List.forall_mem_cons.mpr ⟨(q_if_lt dL_kiln_14 (by decide)).r,
  List.forall_mem_cons.mpr ⟨STP.r mo_al (q_aload_n dL_kiln_17 rfl),
  List.forall_mem_cons.mpr ⟨STP.r mo_il (q_iload_n dL_kiln_18 rfl),
  List.forall_mem_cons.mpr ⟨STP.r mo_il (q_iload dL_kiln_19),
  List.forall_mem_cons.mpr ⟨(snd_CV sm_X6_ofYear ⟨by decide, by decide⟩ rfl km_L_23 kt_X6_ofYear kv_X6_ofYear rfl ki_X6 kx_X6_ofYear ⟨by decide, by decide, by decide +kernel⟩ (by decide) (by decide) dL_kiln_21).r,
  List.forall_mem_cons.mpr ⟨STP.r mo_is (q_istore dL_kiln_24),
  List.forall_mem_cons.mpr ⟨STP.r mo_il (q_iload_n dL_kiln_26 rfl),
  List.forall_mem_cons.mpr ⟨STP.r mo_il (q_iload dL_kiln_27),
  List.forall_mem_cons.mpr ⟨STP.r mo_b2 (q_iadd dL_kiln_29),
  List.forall_mem_cons.mpr ⟨STP.r mo_is (q_istore_n dL_kiln_30 rfl),
  List.forall_mem_cons.mpr ⟨STP.r mo_il (q_iload dL_kiln_31),
  List.forall_mem_cons.mpr ⟨(q_if_le dL_kiln_33 (by decide)).r,
  List.forall_mem_cons.mpr ⟨STP.r mo_il (q_iload dL_kiln_36),
  List.forall_mem_cons.mpr ⟨STP.r mo_goto (q_goto dL_kiln_38 (by decide)),
  List.forall_mem_cons.mpr ⟨STP.r mo_il (q_iload_n dL_kiln_41 rfl),
  List.forall_mem_cons.mpr ⟨STP.r mo_is (q_istore_n dL_kiln_42 rfl),
  List.forall_mem_cons.mpr ⟨STP.r mo_il (q_iload dL_kiln_43),
  List.forall_mem_cons.mpr ⟨(q_if_ge dL_kiln_45 (by decide)).r,
  List.forall_mem_cons.mpr ⟨STP.r mo_ic (q_iconst dL_kiln_48 (by decide)),
  List.forall_mem_cons.mpr ⟨r_zret dL_kiln_49,
  List.forall_mem_cons.mpr ⟨STP.r mo_inc (q_inc dL_kiln_50 (by decide)),
  List.forall_mem_cons.mpr ⟨STP.r mo_goto (q_goto dL_kiln_53 (by decide)),
  List.forall_mem_cons.mpr ⟨STP.r mo_al (q_aload_n dL_kiln_56 rfl),
  List.forall_mem_cons.mpr ⟨STP.r mo_il (q_iload_n dL_kiln_57 rfl),
  List.forall_mem_cons.mpr ⟨STP.r mo_ic (q_iconst dL_kiln_58 (by decide)),
  List.forall_mem_cons.mpr ⟨(snd_CV sm_X6_kiln ⟨by decide, by decide⟩ rfl km_L_19 kt_X6_kiln kv_X6_kiln rfl ki_X6 kx_X6_kiln ⟨by decide, by decide, by decide +kernel⟩ (by decide) (by decide) dL_kiln_59).r,
  List.forall_mem_cons.mpr ⟨STP.r mo_al (q_aload_n dL_kiln_62 rfl),
  List.forall_mem_cons.mpr ⟨STP.r mo_il (q_iload_n dL_kiln_63 rfl),
  List.forall_mem_cons.mpr ⟨STP.r mo_ic (q_iconst dL_kiln_64 (by decide)),
  List.forall_mem_cons.mpr ⟨(snd_CV sm_X6_kiln ⟨by decide, by decide⟩ rfl km_L_19 kt_X6_kiln kv_X6_kiln rfl ki_X6 kx_X6_kiln ⟨by decide, by decide, by decide +kernel⟩ (by decide) (by decide) dL_kiln_65).r,
  List.forall_mem_cons.mpr ⟨STP.r mo_b2 (q_iadd dL_kiln_68),
  List.forall_mem_cons.mpr ⟨STP.r mo_al (q_aload_n dL_kiln_69 rfl),
  List.forall_mem_cons.mpr ⟨STP.r mo_il (q_iload_n dL_kiln_70 rfl),
  List.forall_mem_cons.mpr ⟨STP.r mo_ic (q_bipush dL_kiln_71 (by decide)),
  List.forall_mem_cons.mpr ⟨(snd_CV sm_X6_kiln ⟨by decide, by decide⟩ rfl km_L_19 kt_X6_kiln kv_X6_kiln rfl ki_X6 kx_X6_kiln ⟨by decide, by decide, by decide +kernel⟩ (by decide) (by decide) dL_kiln_73).r,
  List.forall_mem_cons.mpr ⟨STP.r mo_b2 (q_iadd dL_kiln_76),
  List.forall_mem_cons.mpr ⟨STP.r mo_al (q_aload_n dL_kiln_77 rfl),
  List.forall_mem_cons.mpr ⟨STP.r mo_il (q_iload_n dL_kiln_78 rfl),
  List.forall_mem_cons.mpr ⟨STP.r mo_ic (q_iconst dL_kiln_79 (by decide)),
  List.forall_mem_cons.mpr ⟨(snd_CV sm_X6_kiln ⟨by decide, by decide⟩ rfl km_L_19 kt_X6_kiln kv_X6_kiln rfl ki_X6 kx_X6_kiln ⟨by decide, by decide, by decide +kernel⟩ (by decide) (by decide) dL_kiln_80).r,
  List.forall_mem_cons.mpr ⟨STP.r mo_b2 (q_isub dL_kiln_83),
  List.forall_mem_cons.mpr ⟨STP.r mo_il (q_iload_n dL_kiln_84 rfl),
  List.forall_mem_cons.mpr ⟨STP.r mo_b2 (q_isub dL_kiln_85),
  List.forall_mem_cons.mpr ⟨STP.r mo_is (q_istore dL_kiln_86),
  List.forall_mem_cons.mpr ⟨STP.r mo_al (q_aload_n dL_kiln_88 rfl),
  List.forall_mem_cons.mpr ⟨STP.r mo_il (q_iload_n dL_kiln_89 rfl),
  List.forall_mem_cons.mpr ⟨STP.r mo_ic (q_iconst dL_kiln_90 (by decide)),
  List.forall_mem_cons.mpr ⟨(snd_CV sm_X6_kiln ⟨by decide, by decide⟩ rfl km_L_19 kt_X6_kiln kv_X6_kiln rfl ki_X6 kx_X6_kiln ⟨by decide, by decide, by decide +kernel⟩ (by decide) (by decide) dL_kiln_91).r,
  List.forall_mem_cons.mpr ⟨STP.r mo_il (q_iload_n dL_kiln_94 rfl),
  List.forall_mem_cons.mpr ⟨(q_ic_ne dL_kiln_95 (by decide)).r,
  List.forall_mem_cons.mpr ⟨STP.r mo_al (q_aload_n dL_kiln_98 rfl),
  List.forall_mem_cons.mpr ⟨STP.r mo_il (q_iload_n dL_kiln_99 rfl),
  List.forall_mem_cons.mpr ⟨STP.r mo_ic (q_bipush dL_kiln_100 (by decide)),
  List.forall_mem_cons.mpr ⟨(snd_CV sm_X6_kiln ⟨by decide, by decide⟩ rfl km_L_19 kt_X6_kiln kv_X6_kiln rfl ki_X6 kx_X6_kiln ⟨by decide, by decide, by decide +kernel⟩ (by decide) (by decide) dL_kiln_102).r,
  List.forall_mem_cons.mpr ⟨STP.r mo_il (q_iload_n dL_kiln_105 rfl),
  List.forall_mem_cons.mpr ⟨(q_ic_ne dL_kiln_106 (by decide)).r,
  List.forall_mem_cons.mpr ⟨STP.r mo_al (q_aload_n dL_kiln_109 rfl),
  List.forall_mem_cons.mpr ⟨STP.r mo_il (q_iload_n dL_kiln_110 rfl),
  List.forall_mem_cons.mpr ⟨STP.r mo_ic (q_bipush dL_kiln_111 (by decide)),
  List.forall_mem_cons.mpr ⟨(snd_CV sm_X6_kiln ⟨by decide, by decide⟩ rfl km_L_19 kt_X6_kiln kv_X6_kiln rfl ki_X6 kx_X6_kiln ⟨by decide, by decide, by decide +kernel⟩ (by decide) (by decide) dL_kiln_113).r,
  List.forall_mem_cons.mpr ⟨STP.r mo_il (q_iload dL_kiln_116),
  List.forall_mem_cons.mpr ⟨(q_if_le dL_kiln_118 (by decide)).r,
  List.forall_mem_cons.mpr ⟨STP.r mo_il (q_iload dL_kiln_121),
  List.forall_mem_cons.mpr ⟨STP.r mo_goto (q_goto dL_kiln_123 (by decide)),
  List.forall_mem_cons.mpr ⟨STP.r mo_ic (q_iconst dL_kiln_126 (by decide)),
  List.forall_mem_cons.mpr ⟨(q_ic_ne dL_kiln_127 (by decide)).r,
  List.forall_mem_cons.mpr ⟨STP.r mo_al (q_aload_n dL_kiln_130 rfl),
  List.forall_mem_cons.mpr ⟨STP.r mo_il (q_iload_n dL_kiln_131 rfl),
  List.forall_mem_cons.mpr ⟨STP.r mo_ic (q_iconst dL_kiln_132 (by decide)),
  List.forall_mem_cons.mpr ⟨(snd_CV sm_X6_kiln ⟨by decide, by decide⟩ rfl km_L_19 kt_X6_kiln kv_X6_kiln rfl ki_X6 kx_X6_kiln ⟨by decide, by decide, by decide +kernel⟩ (by decide) (by decide) dL_kiln_133).r,
  List.forall_mem_cons.mpr ⟨STP.r mo_al (q_aload_n dL_kiln_136 rfl),
  List.forall_mem_cons.mpr ⟨STP.r mo_il (q_iload_n dL_kiln_137 rfl),
  List.forall_mem_cons.mpr ⟨STP.r mo_ic (q_iconst dL_kiln_138 (by decide)),
  List.forall_mem_cons.mpr ⟨(snd_CV sm_X6_kiln ⟨by decide, by decide⟩ rfl km_L_19 kt_X6_kiln kv_X6_kiln rfl ki_X6 kx_X6_kiln ⟨by decide, by decide, by decide +kernel⟩ (by decide) (by decide) dL_kiln_139).r,
  List.forall_mem_cons.mpr ⟨(q_ic_lt dL_kiln_142 (by decide)).r,
  List.forall_mem_cons.mpr ⟨STP.r mo_al (q_aload_n dL_kiln_145 rfl),
  List.forall_mem_cons.mpr ⟨STP.r mo_il (q_iload_n dL_kiln_146 rfl),
  List.forall_mem_cons.mpr ⟨STP.r mo_ic (q_iconst dL_kiln_147 (by decide)),
  List.forall_mem_cons.mpr ⟨(snd_CV sm_X6_kiln ⟨by decide, by decide⟩ rfl km_L_19 kt_X6_kiln kv_X6_kiln rfl ki_X6 kx_X6_kiln ⟨by decide, by decide, by decide +kernel⟩ (by decide) (by decide) dL_kiln_148).r,
  List.forall_mem_cons.mpr ⟨(q_if_lt dL_kiln_151 (by decide)).r,
  List.forall_mem_cons.mpr ⟨STP.r mo_ic (q_iconst dL_kiln_154 (by decide)),
  List.forall_mem_cons.mpr ⟨STP.r mo_goto (q_goto dL_kiln_155 (by decide)),
  List.forall_mem_cons.mpr ⟨STP.r mo_ic (q_iconst dL_kiln_158 (by decide)),
  List.forall_mem_cons.mpr ⟨r_zret dL_kiln_159,
  fun _ h => absurd h List.not_mem_nil⟩⟩⟩⟩⟩⟩⟩⟩⟩⟩⟩⟩⟩⟩⟩⟩⟩⟩⟩⟩⟩⟩⟩⟩⟩⟩⟩⟩⟩⟩⟩⟩⟩⟩⟩⟩⟩⟩⟩⟩⟩⟩⟩⟩⟩⟩⟩⟩⟩⟩⟩⟩⟩⟩⟩⟩⟩⟩⟩⟩⟩⟩⟩⟩⟩⟩⟩⟩⟩⟩⟩⟩⟩⟩⟩⟩⟩⟩⟩⟩⟩⟩⟩⟩⟩⟩⟩⟩⟩⟩⟩⟩⟩)
theorem e_L_kiln_0 {Q : mQ} {ls st : List Value} {g : mG} : WP m_L_kiln Q 0 ls st g = WP m_L_kiln Q 1 ls (.int (nI 0) :: st) g := E_ic (v := nI 0) (n := 1) lo_L_kiln rfl
theorem e_L_kiln_1 {Q : mQ} {l0 l1 l2 l3 l4 l5 : Value} {st : List Value} {g : mG} {x : Int32} : WP m_L_kiln Q 1 [l0, l1, l2, l3, l4, l5] (.int x :: st) g = (nl1 l1 ∧ WP m_L_kiln Q 2 [l0, l1, .int x, l3, l4, l5] st g) := E_is (i := 2) (n := 1) lo_L_kiln rfl (Nat.le_of_ble_eq_true rfl)
theorem e_L_kiln_2 {Q : mQ} {ls st : List Value} {g : mG} : WP m_L_kiln Q 2 ls st g = WP m_L_kiln Q 4 ls (.int ((-5)) :: st) g := E_ic (v := (-5)) (n := 2) lo_L_kiln rfl
theorem e_L_kiln_4 {Q : mQ} {l0 l1 l2 l3 l4 l5 : Value} {st : List Value} {g : mG} {x : Int32} : WP m_L_kiln Q 4 [l0, l1, l2, l3, l4, l5] (.int x :: st) g = (nl1 l2 ∧ WP m_L_kiln Q 5 [l0, l1, l2, .int x, l4, l5] st g) := E_is (i := 3) (n := 1) lo_L_kiln rfl (Nat.le_of_ble_eq_true rfl)
theorem e_L_kiln_5 {Q : mQ} {l1 l2 l3 l4 l5 : Value} {st : List Value} {g : mG} {x : Nat} : WP m_L_kiln Q 5 [.ref x, l1, l2, l3, l4, l5] st g = WP m_L_kiln Q 6 [.ref x, l1, l2, l3, l4, l5] (.ref x :: st) g := E_al (i := 0) (n := 1) lo_L_kiln rfl rfl
theorem e_L_kiln_5n {Q : mQ} {l1 l2 l3 l4 l5 : Value} {st : List Value} {g : mG} : WP m_L_kiln Q 5 [.null, l1, l2, l3, l4, l5] st g = WP m_L_kiln Q 6 [.null, l1, l2, l3, l4, l5] (.null :: st) g := E_aln (i := 0) (n := 1) lo_L_kiln rfl rfl
theorem e_L_kiln_6 {Q : mQ} {ls st : List Value} {g : mG} : WP m_L_kiln Q 6 ls st g = WP m_L_kiln Q 7 ls (.int (nI 0) :: st) g := E_ic (v := nI 0) (n := 1) lo_L_kiln rfl
theorem e_L_kiln_7 {Q : mQ} {ls st : List Value} {g : mG} {b : Nat} {a0 : Value} : WP m_L_kiln Q 7 ls (a0 :: .ref b :: st) g = (st.length ≤ 4 ∧ gK g b = 7 ∧ stbs g ls ∧ stbs g st ∧ w_X6_count [.ref b, a0] g (fun v g' => WP m_L_kiln Q 10 ls (v.toList ++ st) g')) := E_CV (ar := [a0, .ref b]) lo_L_kiln rfl rfl rfl (by decide)
theorem e_L_kiln_10 {Q : mQ} {l0 l1 l2 l3 l4 l5 : Value} {st : List Value} {g : mG} {x : Int32} : WP m_L_kiln Q 10 [l0, l1, l2, l3, l4, l5] (.int x :: st) g = (nl1 l3 ∧ WP m_L_kiln Q 12 [l0, l1, l2, l3, .int x, l5] st g) := E_is (i := 4) (n := 2) lo_L_kiln rfl (Nat.le_of_ble_eq_true rfl)
theorem e_L_kiln_12 {Q : mQ} {l0 l1 l2 l3 l5 : Value} {st : List Value} {g : mG} {x : Int32} : WP m_L_kiln Q 12 [l0, l1, l2, l3, .int x, l5] st g = WP m_L_kiln Q 14 [l0, l1, l2, l3, .int x, l5] (.int x :: st) g := E_il (i := 4) (n := 2) lo_L_kiln rfl rfl
theorem e_L_kiln_14 {Q : mQ} {ls st : List Value} {g : mG} {x : Int32} : WP m_L_kiln Q 14 ls (.int x :: st) g = ((x < 0 → WP m_L_kiln Q 56 ls st g) ∧ (¬ (x < 0) → WP m_L_kiln Q 17 ls st g)) := E_I1 (c := fun x => x < 0) (t := 56) lo_L_kiln rfl
theorem e_L_kiln_17 {Q : mQ} {l1 l2 l3 l4 l5 : Value} {st : List Value} {g : mG} {x : Nat} : WP m_L_kiln Q 17 [.ref x, l1, l2, l3, l4, l5] st g = WP m_L_kiln Q 18 [.ref x, l1, l2, l3, l4, l5] (.ref x :: st) g := E_al (i := 0) (n := 1) lo_L_kiln rfl rfl
theorem e_L_kiln_17n {Q : mQ} {l1 l2 l3 l4 l5 : Value} {st : List Value} {g : mG} : WP m_L_kiln Q 17 [.null, l1, l2, l3, l4, l5] st g = WP m_L_kiln Q 18 [.null, l1, l2, l3, l4, l5] (.null :: st) g := E_aln (i := 0) (n := 1) lo_L_kiln rfl rfl
theorem e_L_kiln_18 {Q : mQ} {l0 l2 l3 l4 l5 : Value} {st : List Value} {g : mG} {x : Int32} : WP m_L_kiln Q 18 [l0, .int x, l2, l3, l4, l5] st g = WP m_L_kiln Q 19 [l0, .int x, l2, l3, l4, l5] (.int x :: st) g := E_il (i := 1) (n := 1) lo_L_kiln rfl rfl
theorem e_L_kiln_19 {Q : mQ} {l0 l1 l2 l3 l5 : Value} {st : List Value} {g : mG} {x : Int32} : WP m_L_kiln Q 19 [l0, l1, l2, l3, .int x, l5] st g = WP m_L_kiln Q 21 [l0, l1, l2, l3, .int x, l5] (.int x :: st) g := E_il (i := 4) (n := 2) lo_L_kiln rfl rfl
theorem e_L_kiln_21 {Q : mQ} {ls st : List Value} {g : mG} {b : Nat} {a0 a1 : Value} : WP m_L_kiln Q 21 ls (a1 :: a0 :: .ref b :: st) g = (st.length ≤ 4 ∧ gK g b = 7 ∧ stbs g ls ∧ stbs g st ∧ w_X6_ofYear [.ref b, a0, a1] g (fun v g' => WP m_L_kiln Q 24 ls (v.toList ++ st) g')) := E_CV (ar := [a1, a0, .ref b]) lo_L_kiln rfl rfl rfl (by decide)
theorem e_L_kiln_24 {Q : mQ} {l0 l1 l2 l3 l4 l5 : Value} {st : List Value} {g : mG} {x : Int32} : WP m_L_kiln Q 24 [l0, l1, l2, l3, l4, l5] (.int x :: st) g = (nl1 l4 ∧ WP m_L_kiln Q 26 [l0, l1, l2, l3, l4, .int x] st g) := E_is (i := 5) (n := 2) lo_L_kiln rfl (Nat.le_of_ble_eq_true rfl)
theorem e_L_kiln_26 {Q : mQ} {l0 l1 l3 l4 l5 : Value} {st : List Value} {g : mG} {x : Int32} : WP m_L_kiln Q 26 [l0, l1, .int x, l3, l4, l5] st g = WP m_L_kiln Q 27 [l0, l1, .int x, l3, l4, l5] (.int x :: st) g := E_il (i := 2) (n := 1) lo_L_kiln rfl rfl
theorem e_L_kiln_27 {Q : mQ} {l0 l1 l2 l3 l4 : Value} {st : List Value} {g : mG} {x : Int32} : WP m_L_kiln Q 27 [l0, l1, l2, l3, l4, .int x] st g = WP m_L_kiln Q 29 [l0, l1, l2, l3, l4, .int x] (.int x :: st) g := E_il (i := 5) (n := 2) lo_L_kiln rfl rfl
theorem e_L_kiln_29 {Q : mQ} {ls st : List Value} {g : mG} {x y : Int32} : WP m_L_kiln Q 29 ls (.int y :: .int x :: st) g = WP m_L_kiln Q 30 ls (.int (x + y) :: st) g := E_b2 (f := fun x y => x + y) lo_L_kiln rfl
theorem e_L_kiln_30 {Q : mQ} {l0 l1 l2 l3 l4 l5 : Value} {st : List Value} {g : mG} {x : Int32} : WP m_L_kiln Q 30 [l0, l1, l2, l3, l4, l5] (.int x :: st) g = (nl1 l1 ∧ WP m_L_kiln Q 31 [l0, l1, .int x, l3, l4, l5] st g) := E_is (i := 2) (n := 1) lo_L_kiln rfl (Nat.le_of_ble_eq_true rfl)
theorem e_L_kiln_31 {Q : mQ} {l0 l1 l2 l3 l4 : Value} {st : List Value} {g : mG} {x : Int32} : WP m_L_kiln Q 31 [l0, l1, l2, l3, l4, .int x] st g = WP m_L_kiln Q 33 [l0, l1, l2, l3, l4, .int x] (.int x :: st) g := E_il (i := 5) (n := 2) lo_L_kiln rfl rfl
theorem e_L_kiln_33 {Q : mQ} {ls st : List Value} {g : mG} {x : Int32} : WP m_L_kiln Q 33 ls (.int x :: st) g = ((x ≤ 0 → WP m_L_kiln Q 41 ls st g) ∧ (¬ (x ≤ 0) → WP m_L_kiln Q 36 ls st g)) := E_I1 (c := fun x => x ≤ 0) (t := 41) lo_L_kiln rfl
theorem e_L_kiln_36 {Q : mQ} {l0 l1 l2 l3 l5 : Value} {st : List Value} {g : mG} {x : Int32} : WP m_L_kiln Q 36 [l0, l1, l2, l3, .int x, l5] st g = WP m_L_kiln Q 38 [l0, l1, l2, l3, .int x, l5] (.int x :: st) g := E_il (i := 4) (n := 2) lo_L_kiln rfl rfl
theorem e_L_kiln_38 {Q : mQ} {ls st : List Value} {g : mG} : WP m_L_kiln Q 38 ls st g = WP m_L_kiln Q 42 ls st g := E_goto lo_L_kiln rfl
theorem e_L_kiln_41 {Q : mQ} {l0 l1 l2 l4 l5 : Value} {st : List Value} {g : mG} {x : Int32} : WP m_L_kiln Q 41 [l0, l1, l2, .int x, l4, l5] st g = WP m_L_kiln Q 42 [l0, l1, l2, .int x, l4, l5] (.int x :: st) g := E_il (i := 3) (n := 1) lo_L_kiln rfl rfl
theorem e_L_kiln_42 {Q : mQ} {l0 l1 l2 l3 l4 l5 : Value} {st : List Value} {g : mG} {x : Int32} : WP m_L_kiln Q 42 [l0, l1, l2, l3, l4, l5] (.int x :: st) g = (nl1 l2 ∧ WP m_L_kiln Q 43 [l0, l1, l2, .int x, l4, l5] st g) := E_is (i := 3) (n := 1) lo_L_kiln rfl (Nat.le_of_ble_eq_true rfl)
theorem e_L_kiln_43 {Q : mQ} {l0 l1 l2 l3 l4 : Value} {st : List Value} {g : mG} {x : Int32} : WP m_L_kiln Q 43 [l0, l1, l2, l3, l4, .int x] st g = WP m_L_kiln Q 45 [l0, l1, l2, l3, l4, .int x] (.int x :: st) g := E_il (i := 5) (n := 2) lo_L_kiln rfl rfl
theorem e_L_kiln_45 {Q : mQ} {ls st : List Value} {g : mG} {x : Int32} : WP m_L_kiln Q 45 ls (.int x :: st) g = ((0 ≤ x → WP m_L_kiln Q 50 ls st g) ∧ (¬ (0 ≤ x) → WP m_L_kiln Q 48 ls st g)) := E_I1 (c := fun x => 0 ≤ x) (t := 50) lo_L_kiln rfl
theorem e_L_kiln_48 {Q : mQ} {ls st : List Value} {g : mG} : WP m_L_kiln Q 48 ls st g = WP m_L_kiln Q 49 ls (.int (nI 0) :: st) g := E_ic (v := nI 0) (n := 1) lo_L_kiln rfl
theorem e_L_kiln_49 {Q : mQ} {ls : List Value} {g : mG} {v : Int32} : WP m_L_kiln Q 49 ls [.int v] g = ((v = 0 ∨ v = 1) ∧ Q (some (.int v)) g) := E_zret lo_L_kiln rfl
theorem e_L_kiln_50 {Q : mQ} {l0 l1 l2 l3 l5 : Value} {st : List Value} {g : mG} {x : Int32} : WP m_L_kiln Q 50 [l0, l1, l2, l3, .int x, l5] st g = (nl1 l3 ∧ WP m_L_kiln Q 53 [l0, l1, l2, l3, .int (x + (-1)), l5] st g) := E_inc (i := 4) (d := (-1)) lo_L_kiln rfl rfl
theorem e_L_kiln_53 {Q : mQ} {ls st : List Value} {g : mG} : WP m_L_kiln Q 53 ls st g = WP m_L_kiln Q 12 ls st g := E_goto lo_L_kiln rfl
theorem e_L_kiln_56 {Q : mQ} {l1 l2 l3 l4 l5 : Value} {st : List Value} {g : mG} {x : Nat} : WP m_L_kiln Q 56 [.ref x, l1, l2, l3, l4, l5] st g = WP m_L_kiln Q 57 [.ref x, l1, l2, l3, l4, l5] (.ref x :: st) g := E_al (i := 0) (n := 1) lo_L_kiln rfl rfl
theorem e_L_kiln_56n {Q : mQ} {l1 l2 l3 l4 l5 : Value} {st : List Value} {g : mG} : WP m_L_kiln Q 56 [.null, l1, l2, l3, l4, l5] st g = WP m_L_kiln Q 57 [.null, l1, l2, l3, l4, l5] (.null :: st) g := E_aln (i := 0) (n := 1) lo_L_kiln rfl rfl
theorem e_L_kiln_57 {Q : mQ} {l0 l2 l3 l4 l5 : Value} {st : List Value} {g : mG} {x : Int32} : WP m_L_kiln Q 57 [l0, .int x, l2, l3, l4, l5] st g = WP m_L_kiln Q 58 [l0, .int x, l2, l3, l4, l5] (.int x :: st) g := E_il (i := 1) (n := 1) lo_L_kiln rfl rfl
theorem e_L_kiln_58 {Q : mQ} {ls st : List Value} {g : mG} : WP m_L_kiln Q 58 ls st g = WP m_L_kiln Q 59 ls (.int (nI 3) :: st) g := E_ic (v := nI 3) (n := 1) lo_L_kiln rfl
theorem e_L_kiln_59 {Q : mQ} {ls st : List Value} {g : mG} {b : Nat} {a0 a1 : Value} : WP m_L_kiln Q 59 ls (a1 :: a0 :: .ref b :: st) g = (st.length ≤ 4 ∧ gK g b = 7 ∧ stbs g ls ∧ stbs g st ∧ w_X6_kiln [.ref b, a0, a1] g (fun v g' => WP m_L_kiln Q 62 ls (v.toList ++ st) g')) := E_CV (ar := [a1, a0, .ref b]) lo_L_kiln rfl rfl rfl (by decide)
theorem e_L_kiln_62 {Q : mQ} {l1 l2 l3 l4 l5 : Value} {st : List Value} {g : mG} {x : Nat} : WP m_L_kiln Q 62 [.ref x, l1, l2, l3, l4, l5] st g = WP m_L_kiln Q 63 [.ref x, l1, l2, l3, l4, l5] (.ref x :: st) g := E_al (i := 0) (n := 1) lo_L_kiln rfl rfl
theorem e_L_kiln_62n {Q : mQ} {l1 l2 l3 l4 l5 : Value} {st : List Value} {g : mG} : WP m_L_kiln Q 62 [.null, l1, l2, l3, l4, l5] st g = WP m_L_kiln Q 63 [.null, l1, l2, l3, l4, l5] (.null :: st) g := E_aln (i := 0) (n := 1) lo_L_kiln rfl rfl
theorem e_L_kiln_63 {Q : mQ} {l0 l2 l3 l4 l5 : Value} {st : List Value} {g : mG} {x : Int32} : WP m_L_kiln Q 63 [l0, .int x, l2, l3, l4, l5] st g = WP m_L_kiln Q 64 [l0, .int x, l2, l3, l4, l5] (.int x :: st) g := E_il (i := 1) (n := 1) lo_L_kiln rfl rfl
theorem e_L_kiln_64 {Q : mQ} {ls st : List Value} {g : mG} : WP m_L_kiln Q 64 ls st g = WP m_L_kiln Q 65 ls (.int (nI 5) :: st) g := E_ic (v := nI 5) (n := 1) lo_L_kiln rfl
theorem e_L_kiln_65 {Q : mQ} {ls st : List Value} {g : mG} {b : Nat} {a0 a1 : Value} : WP m_L_kiln Q 65 ls (a1 :: a0 :: .ref b :: st) g = (st.length ≤ 4 ∧ gK g b = 7 ∧ stbs g ls ∧ stbs g st ∧ w_X6_kiln [.ref b, a0, a1] g (fun v g' => WP m_L_kiln Q 68 ls (v.toList ++ st) g')) := E_CV (ar := [a1, a0, .ref b]) lo_L_kiln rfl rfl rfl (by decide)
theorem e_L_kiln_68 {Q : mQ} {ls st : List Value} {g : mG} {x y : Int32} : WP m_L_kiln Q 68 ls (.int y :: .int x :: st) g = WP m_L_kiln Q 69 ls (.int (x + y) :: st) g := E_b2 (f := fun x y => x + y) lo_L_kiln rfl
theorem e_L_kiln_69 {Q : mQ} {l1 l2 l3 l4 l5 : Value} {st : List Value} {g : mG} {x : Nat} : WP m_L_kiln Q 69 [.ref x, l1, l2, l3, l4, l5] st g = WP m_L_kiln Q 70 [.ref x, l1, l2, l3, l4, l5] (.ref x :: st) g := E_al (i := 0) (n := 1) lo_L_kiln rfl rfl
theorem e_L_kiln_69n {Q : mQ} {l1 l2 l3 l4 l5 : Value} {st : List Value} {g : mG} : WP m_L_kiln Q 69 [.null, l1, l2, l3, l4, l5] st g = WP m_L_kiln Q 70 [.null, l1, l2, l3, l4, l5] (.null :: st) g := E_aln (i := 0) (n := 1) lo_L_kiln rfl rfl
theorem e_L_kiln_70 {Q : mQ} {l0 l2 l3 l4 l5 : Value} {st : List Value} {g : mG} {x : Int32} : WP m_L_kiln Q 70 [l0, .int x, l2, l3, l4, l5] st g = WP m_L_kiln Q 71 [l0, .int x, l2, l3, l4, l5] (.int x :: st) g := E_il (i := 1) (n := 1) lo_L_kiln rfl rfl
theorem e_L_kiln_71 {Q : mQ} {ls st : List Value} {g : mG} : WP m_L_kiln Q 71 ls st g = WP m_L_kiln Q 73 ls (.int (nI 6) :: st) g := E_ic (v := nI 6) (n := 2) lo_L_kiln rfl
theorem e_L_kiln_73 {Q : mQ} {ls st : List Value} {g : mG} {b : Nat} {a0 a1 : Value} : WP m_L_kiln Q 73 ls (a1 :: a0 :: .ref b :: st) g = (st.length ≤ 4 ∧ gK g b = 7 ∧ stbs g ls ∧ stbs g st ∧ w_X6_kiln [.ref b, a0, a1] g (fun v g' => WP m_L_kiln Q 76 ls (v.toList ++ st) g')) := E_CV (ar := [a1, a0, .ref b]) lo_L_kiln rfl rfl rfl (by decide)
theorem e_L_kiln_76 {Q : mQ} {ls st : List Value} {g : mG} {x y : Int32} : WP m_L_kiln Q 76 ls (.int y :: .int x :: st) g = WP m_L_kiln Q 77 ls (.int (x + y) :: st) g := E_b2 (f := fun x y => x + y) lo_L_kiln rfl
theorem e_L_kiln_77 {Q : mQ} {l1 l2 l3 l4 l5 : Value} {st : List Value} {g : mG} {x : Nat} : WP m_L_kiln Q 77 [.ref x, l1, l2, l3, l4, l5] st g = WP m_L_kiln Q 78 [.ref x, l1, l2, l3, l4, l5] (.ref x :: st) g := E_al (i := 0) (n := 1) lo_L_kiln rfl rfl
theorem e_L_kiln_77n {Q : mQ} {l1 l2 l3 l4 l5 : Value} {st : List Value} {g : mG} : WP m_L_kiln Q 77 [.null, l1, l2, l3, l4, l5] st g = WP m_L_kiln Q 78 [.null, l1, l2, l3, l4, l5] (.null :: st) g := E_aln (i := 0) (n := 1) lo_L_kiln rfl rfl
theorem e_L_kiln_78 {Q : mQ} {l0 l2 l3 l4 l5 : Value} {st : List Value} {g : mG} {x : Int32} : WP m_L_kiln Q 78 [l0, .int x, l2, l3, l4, l5] st g = WP m_L_kiln Q 79 [l0, .int x, l2, l3, l4, l5] (.int x :: st) g := E_il (i := 1) (n := 1) lo_L_kiln rfl rfl
theorem e_L_kiln_79 {Q : mQ} {ls st : List Value} {g : mG} : WP m_L_kiln Q 79 ls st g = WP m_L_kiln Q 80 ls (.int (nI 4) :: st) g := E_ic (v := nI 4) (n := 1) lo_L_kiln rfl
theorem e_L_kiln_80 {Q : mQ} {ls st : List Value} {g : mG} {b : Nat} {a0 a1 : Value} : WP m_L_kiln Q 80 ls (a1 :: a0 :: .ref b :: st) g = (st.length ≤ 4 ∧ gK g b = 7 ∧ stbs g ls ∧ stbs g st ∧ w_X6_kiln [.ref b, a0, a1] g (fun v g' => WP m_L_kiln Q 83 ls (v.toList ++ st) g')) := E_CV (ar := [a1, a0, .ref b]) lo_L_kiln rfl rfl rfl (by decide)
theorem e_L_kiln_83 {Q : mQ} {ls st : List Value} {g : mG} {x y : Int32} : WP m_L_kiln Q 83 ls (.int y :: .int x :: st) g = WP m_L_kiln Q 84 ls (.int (x - y) :: st) g := E_b2 (f := fun x y => x - y) lo_L_kiln rfl
theorem e_L_kiln_84 {Q : mQ} {l0 l1 l3 l4 l5 : Value} {st : List Value} {g : mG} {x : Int32} : WP m_L_kiln Q 84 [l0, l1, .int x, l3, l4, l5] st g = WP m_L_kiln Q 85 [l0, l1, .int x, l3, l4, l5] (.int x :: st) g := E_il (i := 2) (n := 1) lo_L_kiln rfl rfl
theorem e_L_kiln_85 {Q : mQ} {ls st : List Value} {g : mG} {x y : Int32} : WP m_L_kiln Q 85 ls (.int y :: .int x :: st) g = WP m_L_kiln Q 86 ls (.int (x - y) :: st) g := E_b2 (f := fun x y => x - y) lo_L_kiln rfl
theorem e_L_kiln_86 {Q : mQ} {l0 l1 l2 l3 l4 l5 : Value} {st : List Value} {g : mG} {x : Int32} : WP m_L_kiln Q 86 [l0, l1, l2, l3, l4, l5] (.int x :: st) g = (nl1 l3 ∧ WP m_L_kiln Q 88 [l0, l1, l2, l3, .int x, l5] st g) := E_is (i := 4) (n := 2) lo_L_kiln rfl (Nat.le_of_ble_eq_true rfl)
theorem e_L_kiln_88 {Q : mQ} {l1 l2 l3 l4 l5 : Value} {st : List Value} {g : mG} {x : Nat} : WP m_L_kiln Q 88 [.ref x, l1, l2, l3, l4, l5] st g = WP m_L_kiln Q 89 [.ref x, l1, l2, l3, l4, l5] (.ref x :: st) g := E_al (i := 0) (n := 1) lo_L_kiln rfl rfl
theorem e_L_kiln_88n {Q : mQ} {l1 l2 l3 l4 l5 : Value} {st : List Value} {g : mG} : WP m_L_kiln Q 88 [.null, l1, l2, l3, l4, l5] st g = WP m_L_kiln Q 89 [.null, l1, l2, l3, l4, l5] (.null :: st) g := E_aln (i := 0) (n := 1) lo_L_kiln rfl rfl
theorem e_L_kiln_89 {Q : mQ} {l0 l2 l3 l4 l5 : Value} {st : List Value} {g : mG} {x : Int32} : WP m_L_kiln Q 89 [l0, .int x, l2, l3, l4, l5] st g = WP m_L_kiln Q 90 [l0, .int x, l2, l3, l4, l5] (.int x :: st) g := E_il (i := 1) (n := 1) lo_L_kiln rfl rfl
theorem e_L_kiln_90 {Q : mQ} {ls st : List Value} {g : mG} : WP m_L_kiln Q 90 ls st g = WP m_L_kiln Q 91 ls (.int (nI 1) :: st) g := E_ic (v := nI 1) (n := 1) lo_L_kiln rfl
theorem e_L_kiln_91 {Q : mQ} {ls st : List Value} {g : mG} {b : Nat} {a0 a1 : Value} : WP m_L_kiln Q 91 ls (a1 :: a0 :: .ref b :: st) g = (st.length ≤ 4 ∧ gK g b = 7 ∧ stbs g ls ∧ stbs g st ∧ w_X6_kiln [.ref b, a0, a1] g (fun v g' => WP m_L_kiln Q 94 ls (v.toList ++ st) g')) := E_CV (ar := [a1, a0, .ref b]) lo_L_kiln rfl rfl rfl (by decide)
theorem e_L_kiln_94 {Q : mQ} {l0 l1 l3 l4 l5 : Value} {st : List Value} {g : mG} {x : Int32} : WP m_L_kiln Q 94 [l0, l1, .int x, l3, l4, l5] st g = WP m_L_kiln Q 95 [l0, l1, .int x, l3, l4, l5] (.int x :: st) g := E_il (i := 2) (n := 1) lo_L_kiln rfl rfl
theorem e_L_kiln_95 {Q : mQ} {ls st : List Value} {g : mG} {x y : Int32} : WP m_L_kiln Q 95 ls (.int y :: .int x :: st) g = ((¬ x = y → WP m_L_kiln Q 158 ls st g) ∧ (¬ (¬ x = y) → WP m_L_kiln Q 98 ls st g)) := E_I2 (c := fun x y => ¬ x = y) (t := 158) lo_L_kiln rfl
theorem e_L_kiln_98 {Q : mQ} {l1 l2 l3 l4 l5 : Value} {st : List Value} {g : mG} {x : Nat} : WP m_L_kiln Q 98 [.ref x, l1, l2, l3, l4, l5] st g = WP m_L_kiln Q 99 [.ref x, l1, l2, l3, l4, l5] (.ref x :: st) g := E_al (i := 0) (n := 1) lo_L_kiln rfl rfl
theorem e_L_kiln_98n {Q : mQ} {l1 l2 l3 l4 l5 : Value} {st : List Value} {g : mG} : WP m_L_kiln Q 98 [.null, l1, l2, l3, l4, l5] st g = WP m_L_kiln Q 99 [.null, l1, l2, l3, l4, l5] (.null :: st) g := E_aln (i := 0) (n := 1) lo_L_kiln rfl rfl
theorem e_L_kiln_99 {Q : mQ} {l0 l2 l3 l4 l5 : Value} {st : List Value} {g : mG} {x : Int32} : WP m_L_kiln Q 99 [l0, .int x, l2, l3, l4, l5] st g = WP m_L_kiln Q 100 [l0, .int x, l2, l3, l4, l5] (.int x :: st) g := E_il (i := 1) (n := 1) lo_L_kiln rfl rfl
theorem e_L_kiln_100 {Q : mQ} {ls st : List Value} {g : mG} : WP m_L_kiln Q 100 ls st g = WP m_L_kiln Q 102 ls (.int (nI 9) :: st) g := E_ic (v := nI 9) (n := 2) lo_L_kiln rfl
theorem e_L_kiln_102 {Q : mQ} {ls st : List Value} {g : mG} {b : Nat} {a0 a1 : Value} : WP m_L_kiln Q 102 ls (a1 :: a0 :: .ref b :: st) g = (st.length ≤ 4 ∧ gK g b = 7 ∧ stbs g ls ∧ stbs g st ∧ w_X6_kiln [.ref b, a0, a1] g (fun v g' => WP m_L_kiln Q 105 ls (v.toList ++ st) g')) := E_CV (ar := [a1, a0, .ref b]) lo_L_kiln rfl rfl rfl (by decide)
theorem e_L_kiln_105 {Q : mQ} {l0 l1 l2 l4 l5 : Value} {st : List Value} {g : mG} {x : Int32} : WP m_L_kiln Q 105 [l0, l1, l2, .int x, l4, l5] st g = WP m_L_kiln Q 106 [l0, l1, l2, .int x, l4, l5] (.int x :: st) g := E_il (i := 3) (n := 1) lo_L_kiln rfl rfl
theorem e_L_kiln_106 {Q : mQ} {ls st : List Value} {g : mG} {x y : Int32} : WP m_L_kiln Q 106 ls (.int y :: .int x :: st) g = ((¬ x = y → WP m_L_kiln Q 158 ls st g) ∧ (¬ (¬ x = y) → WP m_L_kiln Q 109 ls st g)) := E_I2 (c := fun x y => ¬ x = y) (t := 158) lo_L_kiln rfl
theorem e_L_kiln_109 {Q : mQ} {l1 l2 l3 l4 l5 : Value} {st : List Value} {g : mG} {x : Nat} : WP m_L_kiln Q 109 [.ref x, l1, l2, l3, l4, l5] st g = WP m_L_kiln Q 110 [.ref x, l1, l2, l3, l4, l5] (.ref x :: st) g := E_al (i := 0) (n := 1) lo_L_kiln rfl rfl
theorem e_L_kiln_109n {Q : mQ} {l1 l2 l3 l4 l5 : Value} {st : List Value} {g : mG} : WP m_L_kiln Q 109 [.null, l1, l2, l3, l4, l5] st g = WP m_L_kiln Q 110 [.null, l1, l2, l3, l4, l5] (.null :: st) g := E_aln (i := 0) (n := 1) lo_L_kiln rfl rfl
theorem e_L_kiln_110 {Q : mQ} {l0 l2 l3 l4 l5 : Value} {st : List Value} {g : mG} {x : Int32} : WP m_L_kiln Q 110 [l0, .int x, l2, l3, l4, l5] st g = WP m_L_kiln Q 111 [l0, .int x, l2, l3, l4, l5] (.int x :: st) g := E_il (i := 1) (n := 1) lo_L_kiln rfl rfl
theorem e_L_kiln_111 {Q : mQ} {ls st : List Value} {g : mG} : WP m_L_kiln Q 111 ls st g = WP m_L_kiln Q 113 ls (.int (nI 8) :: st) g := E_ic (v := nI 8) (n := 2) lo_L_kiln rfl
theorem e_L_kiln_113 {Q : mQ} {ls st : List Value} {g : mG} {b : Nat} {a0 a1 : Value} : WP m_L_kiln Q 113 ls (a1 :: a0 :: .ref b :: st) g = (st.length ≤ 4 ∧ gK g b = 7 ∧ stbs g ls ∧ stbs g st ∧ w_X6_kiln [.ref b, a0, a1] g (fun v g' => WP m_L_kiln Q 116 ls (v.toList ++ st) g')) := E_CV (ar := [a1, a0, .ref b]) lo_L_kiln rfl rfl rfl (by decide)
theorem e_L_kiln_116 {Q : mQ} {l0 l1 l2 l3 l5 : Value} {st : List Value} {g : mG} {x : Int32} : WP m_L_kiln Q 116 [l0, l1, l2, l3, .int x, l5] st g = WP m_L_kiln Q 118 [l0, l1, l2, l3, .int x, l5] (.int x :: st) g := E_il (i := 4) (n := 2) lo_L_kiln rfl rfl
theorem e_L_kiln_118 {Q : mQ} {ls st : List Value} {g : mG} {x : Int32} : WP m_L_kiln Q 118 ls (.int x :: st) g = ((x ≤ 0 → WP m_L_kiln Q 126 ls st g) ∧ (¬ (x ≤ 0) → WP m_L_kiln Q 121 ls st g)) := E_I1 (c := fun x => x ≤ 0) (t := 126) lo_L_kiln rfl
theorem e_L_kiln_121 {Q : mQ} {l0 l1 l2 l3 l5 : Value} {st : List Value} {g : mG} {x : Int32} : WP m_L_kiln Q 121 [l0, l1, l2, l3, .int x, l5] st g = WP m_L_kiln Q 123 [l0, l1, l2, l3, .int x, l5] (.int x :: st) g := E_il (i := 4) (n := 2) lo_L_kiln rfl rfl
theorem e_L_kiln_123 {Q : mQ} {ls st : List Value} {g : mG} : WP m_L_kiln Q 123 ls st g = WP m_L_kiln Q 127 ls st g := E_goto lo_L_kiln rfl
theorem e_L_kiln_126 {Q : mQ} {ls st : List Value} {g : mG} : WP m_L_kiln Q 126 ls st g = WP m_L_kiln Q 127 ls (.int (nI 0) :: st) g := E_ic (v := nI 0) (n := 1) lo_L_kiln rfl
theorem e_L_kiln_127 {Q : mQ} {ls st : List Value} {g : mG} {x y : Int32} : WP m_L_kiln Q 127 ls (.int y :: .int x :: st) g = ((¬ x = y → WP m_L_kiln Q 158 ls st g) ∧ (¬ (¬ x = y) → WP m_L_kiln Q 130 ls st g)) := E_I2 (c := fun x y => ¬ x = y) (t := 158) lo_L_kiln rfl
theorem e_L_kiln_130 {Q : mQ} {l1 l2 l3 l4 l5 : Value} {st : List Value} {g : mG} {x : Nat} : WP m_L_kiln Q 130 [.ref x, l1, l2, l3, l4, l5] st g = WP m_L_kiln Q 131 [.ref x, l1, l2, l3, l4, l5] (.ref x :: st) g := E_al (i := 0) (n := 1) lo_L_kiln rfl rfl
theorem e_L_kiln_130n {Q : mQ} {l1 l2 l3 l4 l5 : Value} {st : List Value} {g : mG} : WP m_L_kiln Q 130 [.null, l1, l2, l3, l4, l5] st g = WP m_L_kiln Q 131 [.null, l1, l2, l3, l4, l5] (.null :: st) g := E_aln (i := 0) (n := 1) lo_L_kiln rfl rfl
theorem e_L_kiln_131 {Q : mQ} {l0 l2 l3 l4 l5 : Value} {st : List Value} {g : mG} {x : Int32} : WP m_L_kiln Q 131 [l0, .int x, l2, l3, l4, l5] st g = WP m_L_kiln Q 132 [l0, .int x, l2, l3, l4, l5] (.int x :: st) g := E_il (i := 1) (n := 1) lo_L_kiln rfl rfl
theorem e_L_kiln_132 {Q : mQ} {ls st : List Value} {g : mG} : WP m_L_kiln Q 132 ls st g = WP m_L_kiln Q 133 ls (.int (nI 2) :: st) g := E_ic (v := nI 2) (n := 1) lo_L_kiln rfl
theorem e_L_kiln_133 {Q : mQ} {ls st : List Value} {g : mG} {b : Nat} {a0 a1 : Value} : WP m_L_kiln Q 133 ls (a1 :: a0 :: .ref b :: st) g = (st.length ≤ 4 ∧ gK g b = 7 ∧ stbs g ls ∧ stbs g st ∧ w_X6_kiln [.ref b, a0, a1] g (fun v g' => WP m_L_kiln Q 136 ls (v.toList ++ st) g')) := E_CV (ar := [a1, a0, .ref b]) lo_L_kiln rfl rfl rfl (by decide)
theorem e_L_kiln_136 {Q : mQ} {l1 l2 l3 l4 l5 : Value} {st : List Value} {g : mG} {x : Nat} : WP m_L_kiln Q 136 [.ref x, l1, l2, l3, l4, l5] st g = WP m_L_kiln Q 137 [.ref x, l1, l2, l3, l4, l5] (.ref x :: st) g := E_al (i := 0) (n := 1) lo_L_kiln rfl rfl
theorem e_L_kiln_136n {Q : mQ} {l1 l2 l3 l4 l5 : Value} {st : List Value} {g : mG} : WP m_L_kiln Q 136 [.null, l1, l2, l3, l4, l5] st g = WP m_L_kiln Q 137 [.null, l1, l2, l3, l4, l5] (.null :: st) g := E_aln (i := 0) (n := 1) lo_L_kiln rfl rfl
theorem e_L_kiln_137 {Q : mQ} {l0 l2 l3 l4 l5 : Value} {st : List Value} {g : mG} {x : Int32} : WP m_L_kiln Q 137 [l0, .int x, l2, l3, l4, l5] st g = WP m_L_kiln Q 138 [l0, .int x, l2, l3, l4, l5] (.int x :: st) g := E_il (i := 1) (n := 1) lo_L_kiln rfl rfl
theorem e_L_kiln_138 {Q : mQ} {ls st : List Value} {g : mG} : WP m_L_kiln Q 138 ls st g = WP m_L_kiln Q 139 ls (.int (nI 3) :: st) g := E_ic (v := nI 3) (n := 1) lo_L_kiln rfl
theorem e_L_kiln_139 {Q : mQ} {ls st : List Value} {g : mG} {b : Nat} {a0 a1 : Value} : WP m_L_kiln Q 139 ls (a1 :: a0 :: .ref b :: st) g = (st.length ≤ 4 ∧ gK g b = 7 ∧ stbs g ls ∧ stbs g st ∧ w_X6_kiln [.ref b, a0, a1] g (fun v g' => WP m_L_kiln Q 142 ls (v.toList ++ st) g')) := E_CV (ar := [a1, a0, .ref b]) lo_L_kiln rfl rfl rfl (by decide)
theorem e_L_kiln_142 {Q : mQ} {ls st : List Value} {g : mG} {x y : Int32} : WP m_L_kiln Q 142 ls (.int y :: .int x :: st) g = ((x < y → WP m_L_kiln Q 158 ls st g) ∧ (¬ (x < y) → WP m_L_kiln Q 145 ls st g)) := E_I2 (c := fun x y => x < y) (t := 158) lo_L_kiln rfl
theorem e_L_kiln_145 {Q : mQ} {l1 l2 l3 l4 l5 : Value} {st : List Value} {g : mG} {x : Nat} : WP m_L_kiln Q 145 [.ref x, l1, l2, l3, l4, l5] st g = WP m_L_kiln Q 146 [.ref x, l1, l2, l3, l4, l5] (.ref x :: st) g := E_al (i := 0) (n := 1) lo_L_kiln rfl rfl
theorem e_L_kiln_145n {Q : mQ} {l1 l2 l3 l4 l5 : Value} {st : List Value} {g : mG} : WP m_L_kiln Q 145 [.null, l1, l2, l3, l4, l5] st g = WP m_L_kiln Q 146 [.null, l1, l2, l3, l4, l5] (.null :: st) g := E_aln (i := 0) (n := 1) lo_L_kiln rfl rfl
theorem e_L_kiln_146 {Q : mQ} {l0 l2 l3 l4 l5 : Value} {st : List Value} {g : mG} {x : Int32} : WP m_L_kiln Q 146 [l0, .int x, l2, l3, l4, l5] st g = WP m_L_kiln Q 147 [l0, .int x, l2, l3, l4, l5] (.int x :: st) g := E_il (i := 1) (n := 1) lo_L_kiln rfl rfl
theorem e_L_kiln_147 {Q : mQ} {ls st : List Value} {g : mG} : WP m_L_kiln Q 147 ls st g = WP m_L_kiln Q 148 ls (.int (nI 0) :: st) g := E_ic (v := nI 0) (n := 1) lo_L_kiln rfl
theorem e_L_kiln_148 {Q : mQ} {ls st : List Value} {g : mG} {b : Nat} {a0 a1 : Value} : WP m_L_kiln Q 148 ls (a1 :: a0 :: .ref b :: st) g = (st.length ≤ 4 ∧ gK g b = 7 ∧ stbs g ls ∧ stbs g st ∧ w_X6_kiln [.ref b, a0, a1] g (fun v g' => WP m_L_kiln Q 151 ls (v.toList ++ st) g')) := E_CV (ar := [a1, a0, .ref b]) lo_L_kiln rfl rfl rfl (by decide)
theorem e_L_kiln_151 {Q : mQ} {ls st : List Value} {g : mG} {x : Int32} : WP m_L_kiln Q 151 ls (.int x :: st) g = ((x < 0 → WP m_L_kiln Q 158 ls st g) ∧ (¬ (x < 0) → WP m_L_kiln Q 154 ls st g)) := E_I1 (c := fun x => x < 0) (t := 158) lo_L_kiln rfl
theorem e_L_kiln_154 {Q : mQ} {ls st : List Value} {g : mG} : WP m_L_kiln Q 154 ls st g = WP m_L_kiln Q 155 ls (.int (nI 1) :: st) g := E_ic (v := nI 1) (n := 1) lo_L_kiln rfl
theorem e_L_kiln_155 {Q : mQ} {ls st : List Value} {g : mG} : WP m_L_kiln Q 155 ls st g = WP m_L_kiln Q 159 ls st g := E_goto lo_L_kiln rfl
theorem e_L_kiln_158 {Q : mQ} {ls st : List Value} {g : mG} : WP m_L_kiln Q 158 ls st g = WP m_L_kiln Q 159 ls (.int (nI 0) :: st) g := E_ic (v := nI 0) (n := 1) lo_L_kiln rfl
theorem e_L_kiln_159 {Q : mQ} {ls : List Value} {g : mG} {v : Int32} : WP m_L_kiln Q 159 ls [.int v] g = ((v = 0 ∨ v = 1) ∧ Q (some (.int v)) g) := E_zret lo_L_kiln rfl
/-! KilnPermitsLaw.orders(LKilnPermits;Z)Z -/
def m_L_orders : List (Nat × mT) := [(0, tD (f_ic (nI 0) 1)),
  (1, tD (f_is 2 1)),
  (2, tD (f_ic (nI 0) 1)),
  (3, tD (f_is 3 1)),
  (4, tD (f_ic (nI 0) 1)),
  (5, tD (f_is 4 2)),
  (7, tD (f_il 1 1)),
  (8, tI1 (fun x => x = 0) 17),
  (11, tD (f_ic (nI 501) 3)),
  (14, tD (f_goto 18)),
  (17, tD (f_ic (nI 0) 1)),
  (18, tD (f_is 5 2)),
  (20, tD (f_ic ((-1)) 1)),
  (21, tD (f_is 6 2)),
  (23, tD (f_al 0 1)),
  (24, tD (f_il 1 1)),
  (25, tD (f_il 2 1)),
  (26, tD (f_ic (nI 0) 1)),
  (27, tC w_X6_order 7 4),
  (30, tI1 (fun x => x < 0) 202),
  (33, tD (f_al 0 1)),
  (34, tD (f_il 1 1)),
  (35, tD (f_il 2 1)),
  (36, tD (f_ic (nI 3) 1)),
  (37, tC w_X6_order 7 4),
  (40, tD (f_is 7 2)),
  (42, tD (f_al 0 1)),
  (43, tD (f_il 1 1)),
  (44, tD (f_il 2 1)),
  (45, tD (f_ic (nI 2) 1)),
  (46, tC w_X6_order 7 4),
  (49, tD (f_is 8 2)),
  (51, tD (f_il 7 2)),
  (53, tD (f_il 5 2)),
  (55, tI2 (fun x y => ¬ x = y) 70),
  (58, tD (f_al 0 1)),
  (59, tD (f_il 1 1)),
  (60, tD (f_il 2 1)),
  (61, tD (f_ic (nI 0) 1)),
  (62, tC w_X6_order 7 4),
  (65, tD (f_il 6 2)),
  (67, tI2 (fun x y => y < x) 91),
  (70, tD (f_il 1 1)),
  (71, tI1 (fun x => x = 0) 84),
  (74, tD (f_il 7 2)),
  (76, tD (f_il 5 2)),
  (78, tI2 (fun x y => y ≤ x) 95),
  (81, tD (f_goto 91)),
  (84, tD (f_il 7 2)),
  (86, tD (f_il 5 2)),
  (88, tI2 (fun x y => x ≤ y) 95),
  (91, tD (f_ic (nI 1) 1)),
  (92, tD (f_goto 96)),
  (95, tD (f_ic (nI 0) 1)),
  (96, tD (f_is 9 2)),
  (98, tD (f_il 9 2)),
  (100, tI1 (fun x => x = 0) 135),
  (103, tD (f_il 8 2)),
  (105, tD (f_ic (nI 1) 1)),
  (106, tI2 (fun x y => x < y) 135),
  (109, tD (f_al 0 1)),
  (110, tD (f_il 1 1)),
  (111, tD (f_il 2 1)),
  (112, tD (f_ic (nI 0) 1)),
  (113, tC w_X6_order 7 4),
  (116, tD (f_al 0 1)),
  (117, tD (f_ic (nI 8) 2)),
  (119, tC w_X6_count 7 2),
  (122, tI2 (fun x y => y ≤ x) 135),
  (125, tD (f_al 0 1)),
  (126, tD (f_il 1 1)),
  (127, tD (f_il 2 1)),
  (128, tD (f_ic (nI 1) 1)),
  (129, tC w_X6_order 7 4),
  (132, tI1 (fun x => 0 ≤ x) 137),
  (135, tD (f_ic (nI 0) 1)),
  (136, tR f_zret),
  (137, tD (f_il 4 2)),
  (139, tD (f_il 8 2)),
  (141, tD (f_b2 fun x y => x + y)),
  (142, tD (f_is 4 2)),
  (144, tD (f_il 3 1)),
  (145, tD (f_il 1 1)),
  (146, tI1 (fun x => x = 0) 157),
  (149, tD (f_il 8 2)),
  (151, tD (f_il 7 2)),
  (153, tD (f_b2 fun x y => x * y)),
  (154, tD (f_goto 159)),
  (157, tD (f_il 8 2)),
  (159, tD (f_b2 fun x y => x + y)),
  (160, tD (f_is 3 1)),
  (161, tD (f_al 0 1)),
  (162, tD (f_il 1 1)),
  (163, tI1 (fun x => ¬ x = 0) 170),
  (166, tD (f_ic (nI 1) 1)),
  (167, tD (f_goto 171)),
  (170, tD (f_ic (nI 0) 1)),
  (171, tD (f_il 7 2)),
  (173, tC w_X6_depth 7 3),
  (176, tD (f_il 4 2)),
  (178, tI2 (fun x y => y ≤ x) 183),
  (181, tD (f_ic (nI 0) 1)),
  (182, tR f_zret),
  (183, tD (f_il 7 2)),
  (185, tD (f_is 5 2)),
  (187, tD (f_al 0 1)),
  (188, tD (f_il 1 1)),
  (189, tD (f_il 2 1)),
  (190, tD (f_ic (nI 0) 1)),
  (191, tC w_X6_order 7 4),
  (194, tD (f_is 6 2)),
  (196, tD (f_inc 2 (nI 1))),
  (199, tD (f_goto 23)),
  (202, tD (f_ic (nI 0) 1)),
  (203, tD (f_is 7 2)),
  (205, tD (f_ic (nI 0) 1)),
  (206, tD (f_is 8 2)),
  (208, tD (f_il 8 2)),
  (210, tD (f_ic (nI 6) 2)),
  (212, tI2 (fun x y => y ≤ x) 243),
  (215, tD (f_il 7 2)),
  (217, tD (f_al 0 1)),
  (218, tD (f_il 8 2)),
  (220, tD (f_il 1 1)),
  (221, tI1 (fun x => x = 0) 229),
  (224, tD (f_ic (nI 11) 2)),
  (226, tD (f_goto 231)),
  (229, tD (f_ic (nI 10) 2)),
  (231, tC w_X6_kiln 7 3),
  (234, tD (f_b2 fun x y => x + y)),
  (235, tD (f_is 7 2)),
  (237, tD (f_inc 8 (nI 1))),
  (240, tD (f_goto 208)),
  (243, tD (f_ic (nI 0) 1)),
  (244, tD (f_is 8 2)),
  (246, tD (f_al 0 1)),
  (247, tD (f_il 1 1)),
  (248, tI1 (fun x => ¬ x = 0) 255),
  (251, tD (f_ic (nI 1) 1)),
  (252, tD (f_goto 256)),
  (255, tD (f_ic (nI 0) 1)),
  (256, tD (f_il 8 2)),
  (258, tD (f_ic (nI 0) 1)),
  (259, tC w_X6_order 7 4),
  (262, tI1 (fun x => x < 0) 271),
  (265, tD (f_inc 8 (nI 1))),
  (268, tD (f_goto 246)),
  (271, tD (f_il 7 2)),
  (273, tD (f_il 3 1)),
  (274, tI2 (fun x y => ¬ x = y) 347),
  (277, tD (f_il 2 1)),
  (278, tD (f_il 8 2)),
  (280, tD (f_b2 fun x y => x + y)),
  (281, tD (f_al 0 1)),
  (282, tD (f_ic (nI 7) 2)),
  (284, tC w_X6_count 7 2),
  (287, tI2 (fun x y => ¬ x = y) 347),
  (290, tD (f_al 0 1)),
  (291, tD (f_il 1 1)),
  (292, tI1 (fun x => ¬ x = 0) 299),
  (295, tD (f_ic (nI 1) 1)),
  (296, tD (f_goto 300)),
  (299, tD (f_ic (nI 0) 1)),
  (300, tD (f_il 1 1)),
  (301, tI1 (fun x => x = 0) 308),
  (304, tD (f_ic (nI 1) 1)),
  (305, tD (f_goto 311)),
  (308, tD (f_ic (nI 500) 3)),
  (311, tC w_X6_depth 7 3),
  (314, tD (f_il 4 2)),
  (316, tI2 (fun x y => ¬ x = y) 347),
  (319, tD (f_al 0 1)),
  (320, tD (f_il 1 1)),
  (321, tD (f_il 2 1)),
  (322, tD (f_ic (nI 3) 1)),
  (323, tC w_X6_order 7 4),
  (326, tD (f_ic ((-5)) 2)),
  (328, tI2 (fun x y => ¬ x = y) 347),
  (331, tD (f_al 0 1)),
  (332, tD (f_il 1 1)),
  (333, tD (f_ic ((-1)) 1)),
  (334, tD (f_ic (nI 0) 1)),
  (335, tC w_X6_order 7 4),
  (338, tD (f_ic ((-2)) 2)),
  (340, tI2 (fun x y => ¬ x = y) 347),
  (343, tD (f_ic (nI 1) 1)),
  (344, tD (f_goto 348)),
  (347, tD (f_ic (nI 0) 1)),
  (348, tR f_zret)]
abbrev w_L_orders : mS := wm m_L_orders 2 8
set_option maxRecDepth 100000 in
theorem lo_L_orders : locs_ok m_L_orders := List.forall_mem_cons.mpr ⟨loc_D mo_ic,
  List.forall_mem_cons.mpr ⟨loc_D mo_is,
  List.forall_mem_cons.mpr ⟨loc_D mo_ic,
  List.forall_mem_cons.mpr ⟨loc_D mo_is,
  List.forall_mem_cons.mpr ⟨loc_D mo_ic,
  List.forall_mem_cons.mpr ⟨loc_D mo_is,
  List.forall_mem_cons.mpr ⟨loc_D mo_il,
  List.forall_mem_cons.mpr ⟨loc_I1,
  List.forall_mem_cons.mpr ⟨loc_D mo_ic,
  List.forall_mem_cons.mpr ⟨loc_D mo_goto,
  List.forall_mem_cons.mpr ⟨loc_D mo_ic,
  List.forall_mem_cons.mpr ⟨loc_D mo_is,
  List.forall_mem_cons.mpr ⟨loc_D mo_ic,
  List.forall_mem_cons.mpr ⟨loc_D mo_is,
  List.forall_mem_cons.mpr ⟨loc_D mo_al,
  List.forall_mem_cons.mpr ⟨loc_D mo_il,
  List.forall_mem_cons.mpr ⟨loc_D mo_il,
  List.forall_mem_cons.mpr ⟨loc_D mo_ic,
  List.forall_mem_cons.mpr ⟨loc_C sm_X6_order.1,
  List.forall_mem_cons.mpr ⟨loc_I1,
  List.forall_mem_cons.mpr ⟨loc_D mo_al,
  List.forall_mem_cons.mpr ⟨loc_D mo_il,
  List.forall_mem_cons.mpr ⟨loc_D mo_il,
  List.forall_mem_cons.mpr ⟨loc_D mo_ic,
  List.forall_mem_cons.mpr ⟨loc_C sm_X6_order.1,
  List.forall_mem_cons.mpr ⟨loc_D mo_is,
  List.forall_mem_cons.mpr ⟨loc_D mo_al,
  List.forall_mem_cons.mpr ⟨loc_D mo_il,
  List.forall_mem_cons.mpr ⟨loc_D mo_il,
  List.forall_mem_cons.mpr ⟨loc_D mo_ic,
  List.forall_mem_cons.mpr ⟨loc_C sm_X6_order.1,
  List.forall_mem_cons.mpr ⟨loc_D mo_is,
  List.forall_mem_cons.mpr ⟨loc_D mo_il,
  List.forall_mem_cons.mpr ⟨loc_D mo_il,
  List.forall_mem_cons.mpr ⟨loc_I2,
  List.forall_mem_cons.mpr ⟨loc_D mo_al,
  List.forall_mem_cons.mpr ⟨loc_D mo_il,
  List.forall_mem_cons.mpr ⟨loc_D mo_il,
  List.forall_mem_cons.mpr ⟨loc_D mo_ic,
  List.forall_mem_cons.mpr ⟨loc_C sm_X6_order.1,
  List.forall_mem_cons.mpr ⟨loc_D mo_il,
  List.forall_mem_cons.mpr ⟨loc_I2,
  List.forall_mem_cons.mpr ⟨loc_D mo_il,
  List.forall_mem_cons.mpr ⟨loc_I1,
  List.forall_mem_cons.mpr ⟨loc_D mo_il,
  List.forall_mem_cons.mpr ⟨loc_D mo_il,
  List.forall_mem_cons.mpr ⟨loc_I2,
  List.forall_mem_cons.mpr ⟨loc_D mo_goto,
  List.forall_mem_cons.mpr ⟨loc_D mo_il,
  List.forall_mem_cons.mpr ⟨loc_D mo_il,
  List.forall_mem_cons.mpr ⟨loc_I2,
  List.forall_mem_cons.mpr ⟨loc_D mo_ic,
  List.forall_mem_cons.mpr ⟨loc_D mo_goto,
  List.forall_mem_cons.mpr ⟨loc_D mo_ic,
  List.forall_mem_cons.mpr ⟨loc_D mo_is,
  List.forall_mem_cons.mpr ⟨loc_D mo_il,
  List.forall_mem_cons.mpr ⟨loc_I1,
  List.forall_mem_cons.mpr ⟨loc_D mo_il,
  List.forall_mem_cons.mpr ⟨loc_D mo_ic,
  List.forall_mem_cons.mpr ⟨loc_I2,
  List.forall_mem_cons.mpr ⟨loc_D mo_al,
  List.forall_mem_cons.mpr ⟨loc_D mo_il,
  List.forall_mem_cons.mpr ⟨loc_D mo_il,
  List.forall_mem_cons.mpr ⟨loc_D mo_ic,
  List.forall_mem_cons.mpr ⟨loc_C sm_X6_order.1,
  List.forall_mem_cons.mpr ⟨loc_D mo_al,
  List.forall_mem_cons.mpr ⟨loc_D mo_ic,
  List.forall_mem_cons.mpr ⟨loc_C sm_X6_count.1,
  List.forall_mem_cons.mpr ⟨loc_I2,
  List.forall_mem_cons.mpr ⟨loc_D mo_al,
  List.forall_mem_cons.mpr ⟨loc_D mo_il,
  List.forall_mem_cons.mpr ⟨loc_D mo_il,
  List.forall_mem_cons.mpr ⟨loc_D mo_ic,
  List.forall_mem_cons.mpr ⟨loc_C sm_X6_order.1,
  List.forall_mem_cons.mpr ⟨loc_I1,
  List.forall_mem_cons.mpr ⟨loc_D mo_ic,
  List.forall_mem_cons.mpr ⟨loc_R,
  List.forall_mem_cons.mpr ⟨loc_D mo_il,
  List.forall_mem_cons.mpr ⟨loc_D mo_il,
  List.forall_mem_cons.mpr ⟨loc_D mo_b2,
  List.forall_mem_cons.mpr ⟨loc_D mo_is,
  List.forall_mem_cons.mpr ⟨loc_D mo_il,
  List.forall_mem_cons.mpr ⟨loc_D mo_il,
  List.forall_mem_cons.mpr ⟨loc_I1,
  List.forall_mem_cons.mpr ⟨loc_D mo_il,
  List.forall_mem_cons.mpr ⟨loc_D mo_il,
  List.forall_mem_cons.mpr ⟨loc_D mo_b2,
  List.forall_mem_cons.mpr ⟨loc_D mo_goto,
  List.forall_mem_cons.mpr ⟨loc_D mo_il,
  List.forall_mem_cons.mpr ⟨loc_D mo_b2,
  List.forall_mem_cons.mpr ⟨loc_D mo_is,
  List.forall_mem_cons.mpr ⟨loc_D mo_al,
  List.forall_mem_cons.mpr ⟨loc_D mo_il,
  List.forall_mem_cons.mpr ⟨loc_I1,
  List.forall_mem_cons.mpr ⟨loc_D mo_ic,
  List.forall_mem_cons.mpr ⟨loc_D mo_goto,
  List.forall_mem_cons.mpr ⟨loc_D mo_ic,
  List.forall_mem_cons.mpr ⟨loc_D mo_il,
  List.forall_mem_cons.mpr ⟨loc_C sm_X6_depth.1,
  List.forall_mem_cons.mpr ⟨loc_D mo_il,
  List.forall_mem_cons.mpr ⟨loc_I2,
  List.forall_mem_cons.mpr ⟨loc_D mo_ic,
  List.forall_mem_cons.mpr ⟨loc_R,
  List.forall_mem_cons.mpr ⟨loc_D mo_il,
  List.forall_mem_cons.mpr ⟨loc_D mo_is,
  List.forall_mem_cons.mpr ⟨loc_D mo_al,
  List.forall_mem_cons.mpr ⟨loc_D mo_il,
  List.forall_mem_cons.mpr ⟨loc_D mo_il,
  List.forall_mem_cons.mpr ⟨loc_D mo_ic,
  List.forall_mem_cons.mpr ⟨loc_C sm_X6_order.1,
  List.forall_mem_cons.mpr ⟨loc_D mo_is,
  List.forall_mem_cons.mpr ⟨loc_D mo_inc,
  List.forall_mem_cons.mpr ⟨loc_D mo_goto,
  List.forall_mem_cons.mpr ⟨loc_D mo_ic,
  List.forall_mem_cons.mpr ⟨loc_D mo_is,
  List.forall_mem_cons.mpr ⟨loc_D mo_ic,
  List.forall_mem_cons.mpr ⟨loc_D mo_is,
  List.forall_mem_cons.mpr ⟨loc_D mo_il,
  List.forall_mem_cons.mpr ⟨loc_D mo_ic,
  List.forall_mem_cons.mpr ⟨loc_I2,
  List.forall_mem_cons.mpr ⟨loc_D mo_il,
  List.forall_mem_cons.mpr ⟨loc_D mo_al,
  List.forall_mem_cons.mpr ⟨loc_D mo_il,
  List.forall_mem_cons.mpr ⟨loc_D mo_il,
  List.forall_mem_cons.mpr ⟨loc_I1,
  List.forall_mem_cons.mpr ⟨loc_D mo_ic,
  List.forall_mem_cons.mpr ⟨loc_D mo_goto,
  List.forall_mem_cons.mpr ⟨loc_D mo_ic,
  List.forall_mem_cons.mpr ⟨loc_C sm_X6_kiln.1,
  List.forall_mem_cons.mpr ⟨loc_D mo_b2,
  List.forall_mem_cons.mpr ⟨loc_D mo_is,
  List.forall_mem_cons.mpr ⟨loc_D mo_inc,
  List.forall_mem_cons.mpr ⟨loc_D mo_goto,
  List.forall_mem_cons.mpr ⟨loc_D mo_ic,
  List.forall_mem_cons.mpr ⟨loc_D mo_is,
  List.forall_mem_cons.mpr ⟨loc_D mo_al,
  List.forall_mem_cons.mpr ⟨loc_D mo_il,
  List.forall_mem_cons.mpr ⟨loc_I1,
  List.forall_mem_cons.mpr ⟨loc_D mo_ic,
  List.forall_mem_cons.mpr ⟨loc_D mo_goto,
  List.forall_mem_cons.mpr ⟨loc_D mo_ic,
  List.forall_mem_cons.mpr ⟨loc_D mo_il,
  List.forall_mem_cons.mpr ⟨loc_D mo_ic,
  List.forall_mem_cons.mpr ⟨loc_C sm_X6_order.1,
  List.forall_mem_cons.mpr ⟨loc_I1,
  List.forall_mem_cons.mpr ⟨loc_D mo_inc,
  List.forall_mem_cons.mpr ⟨loc_D mo_goto,
  List.forall_mem_cons.mpr ⟨loc_D mo_il,
  List.forall_mem_cons.mpr ⟨loc_D mo_il,
  List.forall_mem_cons.mpr ⟨loc_I2,
  List.forall_mem_cons.mpr ⟨loc_D mo_il,
  List.forall_mem_cons.mpr ⟨loc_D mo_il,
  List.forall_mem_cons.mpr ⟨loc_D mo_b2,
  List.forall_mem_cons.mpr ⟨loc_D mo_al,
  List.forall_mem_cons.mpr ⟨loc_D mo_ic,
  List.forall_mem_cons.mpr ⟨loc_C sm_X6_count.1,
  List.forall_mem_cons.mpr ⟨loc_I2,
  List.forall_mem_cons.mpr ⟨loc_D mo_al,
  List.forall_mem_cons.mpr ⟨loc_D mo_il,
  List.forall_mem_cons.mpr ⟨loc_I1,
  List.forall_mem_cons.mpr ⟨loc_D mo_ic,
  List.forall_mem_cons.mpr ⟨loc_D mo_goto,
  List.forall_mem_cons.mpr ⟨loc_D mo_ic,
  List.forall_mem_cons.mpr ⟨loc_D mo_il,
  List.forall_mem_cons.mpr ⟨loc_I1,
  List.forall_mem_cons.mpr ⟨loc_D mo_ic,
  List.forall_mem_cons.mpr ⟨loc_D mo_goto,
  List.forall_mem_cons.mpr ⟨loc_D mo_ic,
  List.forall_mem_cons.mpr ⟨loc_C sm_X6_depth.1,
  List.forall_mem_cons.mpr ⟨loc_D mo_il,
  List.forall_mem_cons.mpr ⟨loc_I2,
  List.forall_mem_cons.mpr ⟨loc_D mo_al,
  List.forall_mem_cons.mpr ⟨loc_D mo_il,
  List.forall_mem_cons.mpr ⟨loc_D mo_il,
  List.forall_mem_cons.mpr ⟨loc_D mo_ic,
  List.forall_mem_cons.mpr ⟨loc_C sm_X6_order.1,
  List.forall_mem_cons.mpr ⟨loc_D mo_ic,
  List.forall_mem_cons.mpr ⟨loc_I2,
  List.forall_mem_cons.mpr ⟨loc_D mo_al,
  List.forall_mem_cons.mpr ⟨loc_D mo_il,
  List.forall_mem_cons.mpr ⟨loc_D mo_ic,
  List.forall_mem_cons.mpr ⟨loc_D mo_ic,
  List.forall_mem_cons.mpr ⟨loc_C sm_X6_order.1,
  List.forall_mem_cons.mpr ⟨loc_D mo_ic,
  List.forall_mem_cons.mpr ⟨loc_I2,
  List.forall_mem_cons.mpr ⟨loc_D mo_ic,
  List.forall_mem_cons.mpr ⟨loc_D mo_goto,
  List.forall_mem_cons.mpr ⟨loc_D mo_ic,
  List.forall_mem_cons.mpr ⟨loc_R,
  fun _ h => absurd h List.not_mem_nil⟩⟩⟩⟩⟩⟩⟩⟩⟩⟩⟩⟩⟩⟩⟩⟩⟩⟩⟩⟩⟩⟩⟩⟩⟩⟩⟩⟩⟩⟩⟩⟩⟩⟩⟩⟩⟩⟩⟩⟩⟩⟩⟩⟩⟩⟩⟩⟩⟩⟩⟩⟩⟩⟩⟩⟩⟩⟩⟩⟩⟩⟩⟩⟩⟩⟩⟩⟩⟩⟩⟩⟩⟩⟩⟩⟩⟩⟩⟩⟩⟩⟩⟩⟩⟩⟩⟩⟩⟩⟩⟩⟩⟩⟩⟩⟩⟩⟩⟩⟩⟩⟩⟩⟩⟩⟩⟩⟩⟩⟩⟩⟩⟩⟩⟩⟩⟩⟩⟩⟩⟩⟩⟩⟩⟩⟩⟩⟩⟩⟩⟩⟩⟩⟩⟩⟩⟩⟩⟩⟩⟩⟩⟩⟩⟩⟩⟩⟩⟩⟩⟩⟩⟩⟩⟩⟩⟩⟩⟩⟩⟩⟩⟩⟩⟩⟩⟩⟩⟩⟩⟩⟩⟩⟩⟩⟩⟩⟩⟩⟩⟩⟩⟩⟩⟩⟩⟩⟩⟩
set_option maxRecDepth 100000 in
theorem sm_L_orders : SM yL_orders cL_orders 10 (some .boolean) 5 w_L_orders := SM_of' RL "orders" rfl rfl (by decide) (by decide) (by decide) lo_L_orders (List.forall_mem_cons.mpr ⟨STP.r mo_ic (q_iconst dL_orders_0 (by decide)),
  List.forall_mem_cons.mpr ⟨STP.r mo_is (q_istore_n dL_orders_1 rfl),
  List.forall_mem_cons.mpr ⟨STP.r mo_ic (q_iconst dL_orders_2 (by decide)),
  List.forall_mem_cons.mpr ⟨STP.r mo_is (q_istore_n dL_orders_3 rfl),
  List.forall_mem_cons.mpr ⟨STP.r mo_ic (q_iconst dL_orders_4 (by decide)),
  List.forall_mem_cons.mpr ⟨STP.r mo_is (q_istore dL_orders_5),
  List.forall_mem_cons.mpr ⟨STP.r mo_il (q_iload_n dL_orders_7 rfl),
  List.forall_mem_cons.mpr ⟨(q_if_eq dL_orders_8 (by decide)).r,
  List.forall_mem_cons.mpr ⟨STP.r mo_ic (q_sipush dL_orders_11 (by decide)),
  List.forall_mem_cons.mpr ⟨STP.r mo_goto (q_goto dL_orders_14 (by decide)),
  List.forall_mem_cons.mpr ⟨STP.r mo_ic (q_iconst dL_orders_17 (by decide)),
  List.forall_mem_cons.mpr ⟨STP.r mo_is (q_istore dL_orders_18),
  List.forall_mem_cons.mpr ⟨STP.r mo_ic (q_iconst dL_orders_20 (by decide)),
  List.forall_mem_cons.mpr ⟨STP.r mo_is (q_istore dL_orders_21),
  List.forall_mem_cons.mpr ⟨STP.r mo_al (q_aload_n dL_orders_23 rfl),
  List.forall_mem_cons.mpr ⟨STP.r mo_il (q_iload_n dL_orders_24 rfl),
  List.forall_mem_cons.mpr ⟨STP.r mo_il (q_iload_n dL_orders_25 rfl),
  List.forall_mem_cons.mpr ⟨STP.r mo_ic (q_iconst dL_orders_26 (by decide)),
  List.forall_mem_cons.mpr ⟨(snd_CV sm_X6_order ⟨by decide, by decide⟩ rfl km_L_30 kt_X6_order kv_X6_order rfl ki_X6 kx_X6_order ⟨by decide, by decide, by decide +kernel⟩ (by decide) (by decide) dL_orders_27).r,
  List.forall_mem_cons.mpr ⟨(q_if_lt dL_orders_30 (by decide)).r,
  List.forall_mem_cons.mpr ⟨STP.r mo_al (q_aload_n dL_orders_33 rfl),
  List.forall_mem_cons.mpr ⟨STP.r mo_il (q_iload_n dL_orders_34 rfl),
  List.forall_mem_cons.mpr ⟨STP.r mo_il (q_iload_n dL_orders_35 rfl),
  List.forall_mem_cons.mpr ⟨STP.r mo_ic (q_iconst dL_orders_36 (by decide)),
  List.forall_mem_cons.mpr ⟨(snd_CV sm_X6_order ⟨by decide, by decide⟩ rfl km_L_30 kt_X6_order kv_X6_order rfl ki_X6 kx_X6_order ⟨by decide, by decide, by decide +kernel⟩ (by decide) (by decide) dL_orders_37).r,
  List.forall_mem_cons.mpr ⟨STP.r mo_is (q_istore dL_orders_40),
  List.forall_mem_cons.mpr ⟨STP.r mo_al (q_aload_n dL_orders_42 rfl),
  List.forall_mem_cons.mpr ⟨STP.r mo_il (q_iload_n dL_orders_43 rfl),
  List.forall_mem_cons.mpr ⟨STP.r mo_il (q_iload_n dL_orders_44 rfl),
  List.forall_mem_cons.mpr ⟨STP.r mo_ic (q_iconst dL_orders_45 (by decide)),
  List.forall_mem_cons.mpr ⟨(snd_CV sm_X6_order ⟨by decide, by decide⟩ rfl km_L_30 kt_X6_order kv_X6_order rfl ki_X6 kx_X6_order ⟨by decide, by decide, by decide +kernel⟩ (by decide) (by decide) dL_orders_46).r,
  List.forall_mem_cons.mpr ⟨STP.r mo_is (q_istore dL_orders_49),
  List.forall_mem_cons.mpr ⟨STP.r mo_il (q_iload dL_orders_51),
  List.forall_mem_cons.mpr ⟨STP.r mo_il (q_iload dL_orders_53),
  List.forall_mem_cons.mpr ⟨(q_ic_ne dL_orders_55 (by decide)).r,
  List.forall_mem_cons.mpr ⟨STP.r mo_al (q_aload_n dL_orders_58 rfl),
  List.forall_mem_cons.mpr ⟨STP.r mo_il (q_iload_n dL_orders_59 rfl),
  List.forall_mem_cons.mpr ⟨STP.r mo_il (q_iload_n dL_orders_60 rfl),
  List.forall_mem_cons.mpr ⟨STP.r mo_ic (q_iconst dL_orders_61 (by decide)),
  List.forall_mem_cons.mpr ⟨(snd_CV sm_X6_order ⟨by decide, by decide⟩ rfl km_L_30 kt_X6_order kv_X6_order rfl ki_X6 kx_X6_order ⟨by decide, by decide, by decide +kernel⟩ (by decide) (by decide) dL_orders_62).r,
  List.forall_mem_cons.mpr ⟨STP.r mo_il (q_iload dL_orders_65),
  List.forall_mem_cons.mpr ⟨(q_ic_gt dL_orders_67 (by decide)).r,
  List.forall_mem_cons.mpr ⟨STP.r mo_il (q_iload_n dL_orders_70 rfl),
  List.forall_mem_cons.mpr ⟨(q_if_eq dL_orders_71 (by decide)).r,
  List.forall_mem_cons.mpr ⟨STP.r mo_il (q_iload dL_orders_74),
  List.forall_mem_cons.mpr ⟨STP.r mo_il (q_iload dL_orders_76),
  List.forall_mem_cons.mpr ⟨(q_ic_ge dL_orders_78 (by decide)).r,
  List.forall_mem_cons.mpr ⟨STP.r mo_goto (q_goto dL_orders_81 (by decide)),
  List.forall_mem_cons.mpr ⟨STP.r mo_il (q_iload dL_orders_84),
  List.forall_mem_cons.mpr ⟨STP.r mo_il (q_iload dL_orders_86),
  List.forall_mem_cons.mpr ⟨(q_ic_le dL_orders_88 (by decide)).r,
  List.forall_mem_cons.mpr ⟨STP.r mo_ic (q_iconst dL_orders_91 (by decide)),
  List.forall_mem_cons.mpr ⟨STP.r mo_goto (q_goto dL_orders_92 (by decide)),
  List.forall_mem_cons.mpr ⟨STP.r mo_ic (q_iconst dL_orders_95 (by decide)),
  List.forall_mem_cons.mpr ⟨STP.r mo_is (q_istore dL_orders_96),
  List.forall_mem_cons.mpr ⟨STP.r mo_il (q_iload dL_orders_98),
  List.forall_mem_cons.mpr ⟨(q_if_eq dL_orders_100 (by decide)).r,
  List.forall_mem_cons.mpr ⟨STP.r mo_il (q_iload dL_orders_103),
  List.forall_mem_cons.mpr ⟨STP.r mo_ic (q_iconst dL_orders_105 (by decide)),
  List.forall_mem_cons.mpr ⟨(q_ic_lt dL_orders_106 (by decide)).r,
  List.forall_mem_cons.mpr ⟨STP.r mo_al (q_aload_n dL_orders_109 rfl),
  List.forall_mem_cons.mpr ⟨STP.r mo_il (q_iload_n dL_orders_110 rfl),
  List.forall_mem_cons.mpr ⟨STP.r mo_il (q_iload_n dL_orders_111 rfl),
  List.forall_mem_cons.mpr ⟨STP.r mo_ic (q_iconst dL_orders_112 (by decide)),
  List.forall_mem_cons.mpr ⟨(snd_CV sm_X6_order ⟨by decide, by decide⟩ rfl km_L_30 kt_X6_order kv_X6_order rfl ki_X6 kx_X6_order ⟨by decide, by decide, by decide +kernel⟩ (by decide) (by decide) dL_orders_113).r,
  List.forall_mem_cons.mpr ⟨STP.r mo_al (q_aload_n dL_orders_116 rfl),
  List.forall_mem_cons.mpr ⟨STP.r mo_ic (q_bipush dL_orders_117 (by decide)),
  List.forall_mem_cons.mpr ⟨(snd_CV sm_X6_count ⟨by decide, by decide⟩ rfl km_L_13 kt_X6_count kv_X6_count rfl ki_X6 kx_X6_count ⟨by decide, by decide, by decide +kernel⟩ (by decide) (by decide) dL_orders_119).r,
  List.forall_mem_cons.mpr ⟨(q_ic_ge dL_orders_122 (by decide)).r,
  List.forall_mem_cons.mpr ⟨STP.r mo_al (q_aload_n dL_orders_125 rfl),
  List.forall_mem_cons.mpr ⟨STP.r mo_il (q_iload_n dL_orders_126 rfl),
  List.forall_mem_cons.mpr ⟨STP.r mo_il (q_iload_n dL_orders_127 rfl),
  List.forall_mem_cons.mpr ⟨STP.r mo_ic (q_iconst dL_orders_128 (by decide)),
  List.forall_mem_cons.mpr ⟨(snd_CV sm_X6_order ⟨by decide, by decide⟩ rfl km_L_30 kt_X6_order kv_X6_order rfl ki_X6 kx_X6_order ⟨by decide, by decide, by decide +kernel⟩ (by decide) (by decide) dL_orders_129).r,
  List.forall_mem_cons.mpr ⟨(q_if_ge dL_orders_132 (by decide)).r,
  List.forall_mem_cons.mpr ⟨STP.r mo_ic (q_iconst dL_orders_135 (by decide)),
  List.forall_mem_cons.mpr ⟨r_zret dL_orders_136,
  List.forall_mem_cons.mpr ⟨STP.r mo_il (q_iload dL_orders_137),
  List.forall_mem_cons.mpr ⟨STP.r mo_il (q_iload dL_orders_139),
  List.forall_mem_cons.mpr ⟨STP.r mo_b2 (q_iadd dL_orders_141),
  List.forall_mem_cons.mpr ⟨STP.r mo_is (q_istore dL_orders_142),
  List.forall_mem_cons.mpr ⟨STP.r mo_il (q_iload_n dL_orders_144 rfl),
  List.forall_mem_cons.mpr ⟨STP.r mo_il (q_iload_n dL_orders_145 rfl),
  List.forall_mem_cons.mpr ⟨(q_if_eq dL_orders_146 (by decide)).r,
  List.forall_mem_cons.mpr ⟨STP.r mo_il (q_iload dL_orders_149),
  List.forall_mem_cons.mpr ⟨STP.r mo_il (q_iload dL_orders_151),
  List.forall_mem_cons.mpr ⟨STP.r mo_b2 (q_imul dL_orders_153),
  List.forall_mem_cons.mpr ⟨STP.r mo_goto (q_goto dL_orders_154 (by decide)),
  List.forall_mem_cons.mpr ⟨STP.r mo_il (q_iload dL_orders_157),
  List.forall_mem_cons.mpr ⟨STP.r mo_b2 (q_iadd dL_orders_159),
  List.forall_mem_cons.mpr ⟨STP.r mo_is (q_istore_n dL_orders_160 rfl),
  List.forall_mem_cons.mpr ⟨STP.r mo_al (q_aload_n dL_orders_161 rfl),
  List.forall_mem_cons.mpr ⟨STP.r mo_il (q_iload_n dL_orders_162 rfl),
  List.forall_mem_cons.mpr ⟨(q_if_ne dL_orders_163 (by decide)).r,
  List.forall_mem_cons.mpr ⟨STP.r mo_ic (q_iconst dL_orders_166 (by decide)),
  List.forall_mem_cons.mpr ⟨STP.r mo_goto (q_goto dL_orders_167 (by decide)),
  List.forall_mem_cons.mpr ⟨STP.r mo_ic (q_iconst dL_orders_170 (by decide)),
  List.forall_mem_cons.mpr ⟨STP.r mo_il (q_iload dL_orders_171),
  List.forall_mem_cons.mpr ⟨(snd_CV sm_X6_depth ⟨by decide, by decide⟩ rfl km_L_34 kt_X6_depth kv_X6_depth rfl ki_X6 kx_X6_depth ⟨by decide, by decide, by decide +kernel⟩ (by decide) (by decide) dL_orders_173).r,
  List.forall_mem_cons.mpr ⟨STP.r mo_il (q_iload dL_orders_176),
  List.forall_mem_cons.mpr ⟨(q_ic_ge dL_orders_178 (by decide)).r,
  List.forall_mem_cons.mpr ⟨STP.r mo_ic (q_iconst dL_orders_181 (by decide)),
  List.forall_mem_cons.mpr ⟨r_zret dL_orders_182,
  List.forall_mem_cons.mpr ⟨STP.r mo_il (q_iload dL_orders_183),
  List.forall_mem_cons.mpr ⟨STP.r mo_is (q_istore dL_orders_185),
  List.forall_mem_cons.mpr ⟨STP.r mo_al (q_aload_n dL_orders_187 rfl),
  List.forall_mem_cons.mpr ⟨STP.r mo_il (q_iload_n dL_orders_188 rfl),
  List.forall_mem_cons.mpr ⟨STP.r mo_il (q_iload_n dL_orders_189 rfl),
  List.forall_mem_cons.mpr ⟨STP.r mo_ic (q_iconst dL_orders_190 (by decide)),
  List.forall_mem_cons.mpr ⟨(snd_CV sm_X6_order ⟨by decide, by decide⟩ rfl km_L_30 kt_X6_order kv_X6_order rfl ki_X6 kx_X6_order ⟨by decide, by decide, by decide +kernel⟩ (by decide) (by decide) dL_orders_191).r,
  List.forall_mem_cons.mpr ⟨STP.r mo_is (q_istore dL_orders_194),
  List.forall_mem_cons.mpr ⟨STP.r mo_inc (q_inc dL_orders_196 (by decide)),
  List.forall_mem_cons.mpr ⟨STP.r mo_goto (q_goto dL_orders_199 (by decide)),
  List.forall_mem_cons.mpr ⟨STP.r mo_ic (q_iconst dL_orders_202 (by decide)),
  List.forall_mem_cons.mpr ⟨STP.r mo_is (q_istore dL_orders_203),
  List.forall_mem_cons.mpr ⟨STP.r mo_ic (q_iconst dL_orders_205 (by decide)),
  List.forall_mem_cons.mpr ⟨STP.r mo_is (q_istore dL_orders_206),
  List.forall_mem_cons.mpr ⟨STP.r mo_il (q_iload dL_orders_208),
  List.forall_mem_cons.mpr ⟨STP.r mo_ic (q_bipush dL_orders_210 (by decide)),
  List.forall_mem_cons.mpr ⟨(q_ic_ge dL_orders_212 (by decide)).r,
  List.forall_mem_cons.mpr ⟨STP.r mo_il (q_iload dL_orders_215),
  List.forall_mem_cons.mpr ⟨STP.r mo_al (q_aload_n dL_orders_217 rfl),
  List.forall_mem_cons.mpr ⟨STP.r mo_il (q_iload dL_orders_218),
  List.forall_mem_cons.mpr ⟨STP.r mo_il (q_iload_n dL_orders_220 rfl),
  List.forall_mem_cons.mpr ⟨(q_if_eq dL_orders_221 (by decide)).r,
  List.forall_mem_cons.mpr ⟨STP.r mo_ic (q_bipush dL_orders_224 (by decide)),
  List.forall_mem_cons.mpr ⟨STP.r mo_goto (q_goto dL_orders_226 (by decide)),
  List.forall_mem_cons.mpr ⟨STP.r mo_ic (q_bipush dL_orders_229 (by decide)),
  List.forall_mem_cons.mpr ⟨(snd_CV sm_X6_kiln ⟨by decide, by decide⟩ rfl km_L_19 kt_X6_kiln kv_X6_kiln rfl ki_X6 kx_X6_kiln ⟨by decide, by decide, by decide +kernel⟩ (by decide) (by decide) dL_orders_231).r,
  List.forall_mem_cons.mpr ⟨STP.r mo_b2 (q_iadd dL_orders_234),
  List.forall_mem_cons.mpr ⟨STP.r mo_is (q_istore dL_orders_235),
  List.forall_mem_cons.mpr ⟨STP.r mo_inc (q_inc dL_orders_237 (by decide)),
  List.forall_mem_cons.mpr ⟨STP.r mo_goto (q_goto dL_orders_240 (by decide)),
  List.forall_mem_cons.mpr ⟨STP.r mo_ic (q_iconst dL_orders_243 (by decide)),
  List.forall_mem_cons.mpr ⟨STP.r mo_is (q_istore dL_orders_244),
  List.forall_mem_cons.mpr ⟨STP.r mo_al (q_aload_n dL_orders_246 rfl),
  List.forall_mem_cons.mpr ⟨STP.r mo_il (q_iload_n dL_orders_247 rfl),
  List.forall_mem_cons.mpr ⟨(q_if_ne dL_orders_248 (by decide)).r,
  List.forall_mem_cons.mpr ⟨STP.r mo_ic (q_iconst dL_orders_251 (by decide)),
  List.forall_mem_cons.mpr ⟨STP.r mo_goto (q_goto dL_orders_252 (by decide)),
  List.forall_mem_cons.mpr ⟨STP.r mo_ic (q_iconst dL_orders_255 (by decide)),
  List.forall_mem_cons.mpr ⟨STP.r mo_il (q_iload dL_orders_256),
  List.forall_mem_cons.mpr ⟨STP.r mo_ic (q_iconst dL_orders_258 (by decide)),
  List.forall_mem_cons.mpr ⟨(snd_CV sm_X6_order ⟨by decide, by decide⟩ rfl km_L_30 kt_X6_order kv_X6_order rfl ki_X6 kx_X6_order ⟨by decide, by decide, by decide +kernel⟩ (by decide) (by decide) dL_orders_259).r,
  List.forall_mem_cons.mpr ⟨(q_if_lt dL_orders_262 (by decide)).r,
  List.forall_mem_cons.mpr ⟨STP.r mo_inc (q_inc dL_orders_265 (by decide)),
  List.forall_mem_cons.mpr ⟨STP.r mo_goto (q_goto dL_orders_268 (by decide)),
  List.forall_mem_cons.mpr ⟨STP.r mo_il (q_iload dL_orders_271),
  List.forall_mem_cons.mpr ⟨STP.r mo_il (q_iload_n dL_orders_273 rfl),
  List.forall_mem_cons.mpr ⟨(q_ic_ne dL_orders_274 (by decide)).r,
  List.forall_mem_cons.mpr ⟨STP.r mo_il (q_iload_n dL_orders_277 rfl),
  List.forall_mem_cons.mpr ⟨STP.r mo_il (q_iload dL_orders_278),
  List.forall_mem_cons.mpr ⟨STP.r mo_b2 (q_iadd dL_orders_280),
  List.forall_mem_cons.mpr ⟨STP.r mo_al (q_aload_n dL_orders_281 rfl),
  List.forall_mem_cons.mpr ⟨STP.r mo_ic (q_bipush dL_orders_282 (by decide)),
  List.forall_mem_cons.mpr ⟨(snd_CV sm_X6_count ⟨by decide, by decide⟩ rfl km_L_13 kt_X6_count kv_X6_count rfl ki_X6 kx_X6_count ⟨by decide, by decide, by decide +kernel⟩ (by decide) (by decide) dL_orders_284).r,
  List.forall_mem_cons.mpr ⟨(q_ic_ne dL_orders_287 (by decide)).r,
  List.forall_mem_cons.mpr ⟨STP.r mo_al (q_aload_n dL_orders_290 rfl),
  List.forall_mem_cons.mpr ⟨STP.r mo_il (q_iload_n dL_orders_291 rfl),
  List.forall_mem_cons.mpr ⟨(q_if_ne dL_orders_292 (by decide)).r,
  List.forall_mem_cons.mpr ⟨STP.r mo_ic (q_iconst dL_orders_295 (by decide)),
  List.forall_mem_cons.mpr ⟨STP.r mo_goto (q_goto dL_orders_296 (by decide)),
  List.forall_mem_cons.mpr ⟨STP.r mo_ic (q_iconst dL_orders_299 (by decide)),
  List.forall_mem_cons.mpr ⟨STP.r mo_il (q_iload_n dL_orders_300 rfl),
  List.forall_mem_cons.mpr ⟨(q_if_eq dL_orders_301 (by decide)).r,
  List.forall_mem_cons.mpr ⟨STP.r mo_ic (q_iconst dL_orders_304 (by decide)),
  List.forall_mem_cons.mpr ⟨STP.r mo_goto (q_goto dL_orders_305 (by decide)),
  List.forall_mem_cons.mpr ⟨STP.r mo_ic (q_sipush dL_orders_308 (by decide)),
  List.forall_mem_cons.mpr ⟨(snd_CV sm_X6_depth ⟨by decide, by decide⟩ rfl km_L_34 kt_X6_depth kv_X6_depth rfl ki_X6 kx_X6_depth ⟨by decide, by decide, by decide +kernel⟩ (by decide) (by decide) dL_orders_311).r,
  List.forall_mem_cons.mpr ⟨STP.r mo_il (q_iload dL_orders_314),
  List.forall_mem_cons.mpr ⟨(q_ic_ne dL_orders_316 (by decide)).r,
  List.forall_mem_cons.mpr ⟨STP.r mo_al (q_aload_n dL_orders_319 rfl),
  List.forall_mem_cons.mpr ⟨STP.r mo_il (q_iload_n dL_orders_320 rfl),
  List.forall_mem_cons.mpr ⟨STP.r mo_il (q_iload_n dL_orders_321 rfl),
  List.forall_mem_cons.mpr ⟨STP.r mo_ic (q_iconst dL_orders_322 (by decide)),
  List.forall_mem_cons.mpr ⟨(snd_CV sm_X6_order ⟨by decide, by decide⟩ rfl km_L_30 kt_X6_order kv_X6_order rfl ki_X6 kx_X6_order ⟨by decide, by decide, by decide +kernel⟩ (by decide) (by decide) dL_orders_323).r,
  List.forall_mem_cons.mpr ⟨STP.r mo_ic (q_bipush dL_orders_326 (by decide)),
  List.forall_mem_cons.mpr ⟨(q_ic_ne dL_orders_328 (by decide)).r,
  List.forall_mem_cons.mpr ⟨STP.r mo_al (q_aload_n dL_orders_331 rfl),
  List.forall_mem_cons.mpr ⟨STP.r mo_il (q_iload_n dL_orders_332 rfl),
  List.forall_mem_cons.mpr ⟨STP.r mo_ic (q_iconst dL_orders_333 (by decide)),
  List.forall_mem_cons.mpr ⟨STP.r mo_ic (q_iconst dL_orders_334 (by decide)),
  List.forall_mem_cons.mpr ⟨(snd_CV sm_X6_order ⟨by decide, by decide⟩ rfl km_L_30 kt_X6_order kv_X6_order rfl ki_X6 kx_X6_order ⟨by decide, by decide, by decide +kernel⟩ (by decide) (by decide) dL_orders_335).r,
  List.forall_mem_cons.mpr ⟨STP.r mo_ic (q_bipush dL_orders_338 (by decide)),
  List.forall_mem_cons.mpr ⟨(q_ic_ne dL_orders_340 (by decide)).r,
  List.forall_mem_cons.mpr ⟨STP.r mo_ic (q_iconst dL_orders_343 (by decide)),
  List.forall_mem_cons.mpr ⟨STP.r mo_goto (q_goto dL_orders_344 (by decide)),
  List.forall_mem_cons.mpr ⟨STP.r mo_ic (q_iconst dL_orders_347 (by decide)),
  List.forall_mem_cons.mpr ⟨r_zret dL_orders_348,
  fun _ h => absurd h List.not_mem_nil⟩⟩⟩⟩⟩⟩⟩⟩⟩⟩⟩⟩⟩⟩⟩⟩⟩⟩⟩⟩⟩⟩⟩⟩⟩⟩⟩⟩⟩⟩⟩⟩⟩⟩⟩⟩⟩⟩⟩⟩⟩⟩⟩⟩⟩⟩⟩⟩⟩⟩⟩⟩⟩⟩⟩⟩⟩⟩⟩⟩⟩⟩⟩⟩⟩⟩⟩⟩⟩⟩⟩⟩⟩⟩⟩⟩⟩⟩⟩⟩⟩⟩⟩⟩⟩⟩⟩⟩⟩⟩⟩⟩⟩⟩⟩⟩⟩⟩⟩⟩⟩⟩⟩⟩⟩⟩⟩⟩⟩⟩⟩⟩⟩⟩⟩⟩⟩⟩⟩⟩⟩⟩⟩⟩⟩⟩⟩⟩⟩⟩⟩⟩⟩⟩⟩⟩⟩⟩⟩⟩⟩⟩⟩⟩⟩⟩⟩⟩⟩⟩⟩⟩⟩⟩⟩⟩⟩⟩⟩⟩⟩⟩⟩⟩⟩⟩⟩⟩⟩⟩⟩⟩⟩⟩⟩⟩⟩⟩⟩⟩⟩⟩⟩⟩⟩⟩⟩⟩⟩)
set_option maxRecDepth 100000 in
theorem e_L_orders_0 {Q : mQ} {ls st : List Value} {g : mG} : WP m_L_orders Q 0 ls st g = WP m_L_orders Q 1 ls (.int (nI 0) :: st) g := E_ic (v := nI 0) (n := 1) lo_L_orders rfl
set_option maxRecDepth 100000 in
theorem e_L_orders_1 {Q : mQ} {l0 l1 l2 l3 l4 l5 l6 l7 l8 l9 : Value} {st : List Value} {g : mG} {x : Int32} : WP m_L_orders Q 1 [l0, l1, l2, l3, l4, l5, l6, l7, l8, l9] (.int x :: st) g = (nl1 l1 ∧ WP m_L_orders Q 2 [l0, l1, .int x, l3, l4, l5, l6, l7, l8, l9] st g) := E_is (i := 2) (n := 1) lo_L_orders rfl (Nat.le_of_ble_eq_true rfl)
set_option maxRecDepth 100000 in
theorem e_L_orders_2 {Q : mQ} {ls st : List Value} {g : mG} : WP m_L_orders Q 2 ls st g = WP m_L_orders Q 3 ls (.int (nI 0) :: st) g := E_ic (v := nI 0) (n := 1) lo_L_orders rfl
set_option maxRecDepth 100000 in
theorem e_L_orders_3 {Q : mQ} {l0 l1 l2 l3 l4 l5 l6 l7 l8 l9 : Value} {st : List Value} {g : mG} {x : Int32} : WP m_L_orders Q 3 [l0, l1, l2, l3, l4, l5, l6, l7, l8, l9] (.int x :: st) g = (nl1 l2 ∧ WP m_L_orders Q 4 [l0, l1, l2, .int x, l4, l5, l6, l7, l8, l9] st g) := E_is (i := 3) (n := 1) lo_L_orders rfl (Nat.le_of_ble_eq_true rfl)
set_option maxRecDepth 100000 in
theorem e_L_orders_4 {Q : mQ} {ls st : List Value} {g : mG} : WP m_L_orders Q 4 ls st g = WP m_L_orders Q 5 ls (.int (nI 0) :: st) g := E_ic (v := nI 0) (n := 1) lo_L_orders rfl
set_option maxRecDepth 100000 in
theorem e_L_orders_5 {Q : mQ} {l0 l1 l2 l3 l4 l5 l6 l7 l8 l9 : Value} {st : List Value} {g : mG} {x : Int32} : WP m_L_orders Q 5 [l0, l1, l2, l3, l4, l5, l6, l7, l8, l9] (.int x :: st) g = (nl1 l3 ∧ WP m_L_orders Q 7 [l0, l1, l2, l3, .int x, l5, l6, l7, l8, l9] st g) := E_is (i := 4) (n := 2) lo_L_orders rfl (Nat.le_of_ble_eq_true rfl)
set_option maxRecDepth 100000 in
theorem e_L_orders_7 {Q : mQ} {l0 l2 l3 l4 l5 l6 l7 l8 l9 : Value} {st : List Value} {g : mG} {x : Int32} : WP m_L_orders Q 7 [l0, .int x, l2, l3, l4, l5, l6, l7, l8, l9] st g = WP m_L_orders Q 8 [l0, .int x, l2, l3, l4, l5, l6, l7, l8, l9] (.int x :: st) g := E_il (i := 1) (n := 1) lo_L_orders rfl rfl
set_option maxRecDepth 100000 in
theorem e_L_orders_8 {Q : mQ} {ls st : List Value} {g : mG} {x : Int32} : WP m_L_orders Q 8 ls (.int x :: st) g = ((x = 0 → WP m_L_orders Q 17 ls st g) ∧ (¬ (x = 0) → WP m_L_orders Q 11 ls st g)) := E_I1 (c := fun x => x = 0) (t := 17) lo_L_orders rfl
set_option maxRecDepth 100000 in
theorem e_L_orders_11 {Q : mQ} {ls st : List Value} {g : mG} : WP m_L_orders Q 11 ls st g = WP m_L_orders Q 14 ls (.int (nI 501) :: st) g := E_ic (v := nI 501) (n := 3) lo_L_orders rfl
set_option maxRecDepth 100000 in
theorem e_L_orders_14 {Q : mQ} {ls st : List Value} {g : mG} : WP m_L_orders Q 14 ls st g = WP m_L_orders Q 18 ls st g := E_goto lo_L_orders rfl
set_option maxRecDepth 100000 in
theorem e_L_orders_17 {Q : mQ} {ls st : List Value} {g : mG} : WP m_L_orders Q 17 ls st g = WP m_L_orders Q 18 ls (.int (nI 0) :: st) g := E_ic (v := nI 0) (n := 1) lo_L_orders rfl
set_option maxRecDepth 100000 in
theorem e_L_orders_18 {Q : mQ} {l0 l1 l2 l3 l4 l5 l6 l7 l8 l9 : Value} {st : List Value} {g : mG} {x : Int32} : WP m_L_orders Q 18 [l0, l1, l2, l3, l4, l5, l6, l7, l8, l9] (.int x :: st) g = (nl1 l4 ∧ WP m_L_orders Q 20 [l0, l1, l2, l3, l4, .int x, l6, l7, l8, l9] st g) := E_is (i := 5) (n := 2) lo_L_orders rfl (Nat.le_of_ble_eq_true rfl)
set_option maxRecDepth 100000 in
theorem e_L_orders_20 {Q : mQ} {ls st : List Value} {g : mG} : WP m_L_orders Q 20 ls st g = WP m_L_orders Q 21 ls (.int ((-1)) :: st) g := E_ic (v := (-1)) (n := 1) lo_L_orders rfl
set_option maxRecDepth 100000 in
theorem e_L_orders_21 {Q : mQ} {l0 l1 l2 l3 l4 l5 l6 l7 l8 l9 : Value} {st : List Value} {g : mG} {x : Int32} : WP m_L_orders Q 21 [l0, l1, l2, l3, l4, l5, l6, l7, l8, l9] (.int x :: st) g = (nl1 l5 ∧ WP m_L_orders Q 23 [l0, l1, l2, l3, l4, l5, .int x, l7, l8, l9] st g) := E_is (i := 6) (n := 2) lo_L_orders rfl (Nat.le_of_ble_eq_true rfl)
set_option maxRecDepth 100000 in
theorem e_L_orders_23 {Q : mQ} {l1 l2 l3 l4 l5 l6 l7 l8 l9 : Value} {st : List Value} {g : mG} {x : Nat} : WP m_L_orders Q 23 [.ref x, l1, l2, l3, l4, l5, l6, l7, l8, l9] st g = WP m_L_orders Q 24 [.ref x, l1, l2, l3, l4, l5, l6, l7, l8, l9] (.ref x :: st) g := E_al (i := 0) (n := 1) lo_L_orders rfl rfl
set_option maxRecDepth 100000 in
theorem e_L_orders_23n {Q : mQ} {l1 l2 l3 l4 l5 l6 l7 l8 l9 : Value} {st : List Value} {g : mG} : WP m_L_orders Q 23 [.null, l1, l2, l3, l4, l5, l6, l7, l8, l9] st g = WP m_L_orders Q 24 [.null, l1, l2, l3, l4, l5, l6, l7, l8, l9] (.null :: st) g := E_aln (i := 0) (n := 1) lo_L_orders rfl rfl
set_option maxRecDepth 100000 in
theorem e_L_orders_24 {Q : mQ} {l0 l2 l3 l4 l5 l6 l7 l8 l9 : Value} {st : List Value} {g : mG} {x : Int32} : WP m_L_orders Q 24 [l0, .int x, l2, l3, l4, l5, l6, l7, l8, l9] st g = WP m_L_orders Q 25 [l0, .int x, l2, l3, l4, l5, l6, l7, l8, l9] (.int x :: st) g := E_il (i := 1) (n := 1) lo_L_orders rfl rfl
set_option maxRecDepth 100000 in
theorem e_L_orders_25 {Q : mQ} {l0 l1 l3 l4 l5 l6 l7 l8 l9 : Value} {st : List Value} {g : mG} {x : Int32} : WP m_L_orders Q 25 [l0, l1, .int x, l3, l4, l5, l6, l7, l8, l9] st g = WP m_L_orders Q 26 [l0, l1, .int x, l3, l4, l5, l6, l7, l8, l9] (.int x :: st) g := E_il (i := 2) (n := 1) lo_L_orders rfl rfl
set_option maxRecDepth 100000 in
theorem e_L_orders_26 {Q : mQ} {ls st : List Value} {g : mG} : WP m_L_orders Q 26 ls st g = WP m_L_orders Q 27 ls (.int (nI 0) :: st) g := E_ic (v := nI 0) (n := 1) lo_L_orders rfl
set_option maxRecDepth 100000 in
theorem e_L_orders_27 {Q : mQ} {ls st : List Value} {g : mG} {b : Nat} {a0 a1 a2 : Value} : WP m_L_orders Q 27 ls (a2 :: a1 :: a0 :: .ref b :: st) g = (st.length ≤ 4 ∧ gK g b = 7 ∧ stbs g ls ∧ stbs g st ∧ w_X6_order [.ref b, a0, a1, a2] g (fun v g' => WP m_L_orders Q 30 ls (v.toList ++ st) g')) := E_CV (ar := [a2, a1, a0, .ref b]) lo_L_orders rfl rfl rfl (by decide)
set_option maxRecDepth 100000 in
theorem e_L_orders_30 {Q : mQ} {ls st : List Value} {g : mG} {x : Int32} : WP m_L_orders Q 30 ls (.int x :: st) g = ((x < 0 → WP m_L_orders Q 202 ls st g) ∧ (¬ (x < 0) → WP m_L_orders Q 33 ls st g)) := E_I1 (c := fun x => x < 0) (t := 202) lo_L_orders rfl
set_option maxRecDepth 100000 in
theorem e_L_orders_33 {Q : mQ} {l1 l2 l3 l4 l5 l6 l7 l8 l9 : Value} {st : List Value} {g : mG} {x : Nat} : WP m_L_orders Q 33 [.ref x, l1, l2, l3, l4, l5, l6, l7, l8, l9] st g = WP m_L_orders Q 34 [.ref x, l1, l2, l3, l4, l5, l6, l7, l8, l9] (.ref x :: st) g := E_al (i := 0) (n := 1) lo_L_orders rfl rfl
set_option maxRecDepth 100000 in
theorem e_L_orders_33n {Q : mQ} {l1 l2 l3 l4 l5 l6 l7 l8 l9 : Value} {st : List Value} {g : mG} : WP m_L_orders Q 33 [.null, l1, l2, l3, l4, l5, l6, l7, l8, l9] st g = WP m_L_orders Q 34 [.null, l1, l2, l3, l4, l5, l6, l7, l8, l9] (.null :: st) g := E_aln (i := 0) (n := 1) lo_L_orders rfl rfl
set_option maxRecDepth 100000 in
theorem e_L_orders_34 {Q : mQ} {l0 l2 l3 l4 l5 l6 l7 l8 l9 : Value} {st : List Value} {g : mG} {x : Int32} : WP m_L_orders Q 34 [l0, .int x, l2, l3, l4, l5, l6, l7, l8, l9] st g = WP m_L_orders Q 35 [l0, .int x, l2, l3, l4, l5, l6, l7, l8, l9] (.int x :: st) g := E_il (i := 1) (n := 1) lo_L_orders rfl rfl
set_option maxRecDepth 100000 in
theorem e_L_orders_35 {Q : mQ} {l0 l1 l3 l4 l5 l6 l7 l8 l9 : Value} {st : List Value} {g : mG} {x : Int32} : WP m_L_orders Q 35 [l0, l1, .int x, l3, l4, l5, l6, l7, l8, l9] st g = WP m_L_orders Q 36 [l0, l1, .int x, l3, l4, l5, l6, l7, l8, l9] (.int x :: st) g := E_il (i := 2) (n := 1) lo_L_orders rfl rfl
set_option maxRecDepth 100000 in
theorem e_L_orders_36 {Q : mQ} {ls st : List Value} {g : mG} : WP m_L_orders Q 36 ls st g = WP m_L_orders Q 37 ls (.int (nI 3) :: st) g := E_ic (v := nI 3) (n := 1) lo_L_orders rfl
set_option maxRecDepth 100000 in
theorem e_L_orders_37 {Q : mQ} {ls st : List Value} {g : mG} {b : Nat} {a0 a1 a2 : Value} : WP m_L_orders Q 37 ls (a2 :: a1 :: a0 :: .ref b :: st) g = (st.length ≤ 4 ∧ gK g b = 7 ∧ stbs g ls ∧ stbs g st ∧ w_X6_order [.ref b, a0, a1, a2] g (fun v g' => WP m_L_orders Q 40 ls (v.toList ++ st) g')) := E_CV (ar := [a2, a1, a0, .ref b]) lo_L_orders rfl rfl rfl (by decide)
set_option maxRecDepth 100000 in
theorem e_L_orders_40 {Q : mQ} {l0 l1 l2 l3 l4 l5 l6 l7 l8 l9 : Value} {st : List Value} {g : mG} {x : Int32} : WP m_L_orders Q 40 [l0, l1, l2, l3, l4, l5, l6, l7, l8, l9] (.int x :: st) g = (nl1 l6 ∧ WP m_L_orders Q 42 [l0, l1, l2, l3, l4, l5, l6, .int x, l8, l9] st g) := E_is (i := 7) (n := 2) lo_L_orders rfl (Nat.le_of_ble_eq_true rfl)
set_option maxRecDepth 100000 in
theorem e_L_orders_42 {Q : mQ} {l1 l2 l3 l4 l5 l6 l7 l8 l9 : Value} {st : List Value} {g : mG} {x : Nat} : WP m_L_orders Q 42 [.ref x, l1, l2, l3, l4, l5, l6, l7, l8, l9] st g = WP m_L_orders Q 43 [.ref x, l1, l2, l3, l4, l5, l6, l7, l8, l9] (.ref x :: st) g := E_al (i := 0) (n := 1) lo_L_orders rfl rfl
set_option maxRecDepth 100000 in
theorem e_L_orders_42n {Q : mQ} {l1 l2 l3 l4 l5 l6 l7 l8 l9 : Value} {st : List Value} {g : mG} : WP m_L_orders Q 42 [.null, l1, l2, l3, l4, l5, l6, l7, l8, l9] st g = WP m_L_orders Q 43 [.null, l1, l2, l3, l4, l5, l6, l7, l8, l9] (.null :: st) g := E_aln (i := 0) (n := 1) lo_L_orders rfl rfl
set_option maxRecDepth 100000 in
theorem e_L_orders_43 {Q : mQ} {l0 l2 l3 l4 l5 l6 l7 l8 l9 : Value} {st : List Value} {g : mG} {x : Int32} : WP m_L_orders Q 43 [l0, .int x, l2, l3, l4, l5, l6, l7, l8, l9] st g = WP m_L_orders Q 44 [l0, .int x, l2, l3, l4, l5, l6, l7, l8, l9] (.int x :: st) g := E_il (i := 1) (n := 1) lo_L_orders rfl rfl
set_option maxRecDepth 100000 in
theorem e_L_orders_44 {Q : mQ} {l0 l1 l3 l4 l5 l6 l7 l8 l9 : Value} {st : List Value} {g : mG} {x : Int32} : WP m_L_orders Q 44 [l0, l1, .int x, l3, l4, l5, l6, l7, l8, l9] st g = WP m_L_orders Q 45 [l0, l1, .int x, l3, l4, l5, l6, l7, l8, l9] (.int x :: st) g := E_il (i := 2) (n := 1) lo_L_orders rfl rfl
set_option maxRecDepth 100000 in
theorem e_L_orders_45 {Q : mQ} {ls st : List Value} {g : mG} : WP m_L_orders Q 45 ls st g = WP m_L_orders Q 46 ls (.int (nI 2) :: st) g := E_ic (v := nI 2) (n := 1) lo_L_orders rfl
set_option maxRecDepth 100000 in
theorem e_L_orders_46 {Q : mQ} {ls st : List Value} {g : mG} {b : Nat} {a0 a1 a2 : Value} : WP m_L_orders Q 46 ls (a2 :: a1 :: a0 :: .ref b :: st) g = (st.length ≤ 4 ∧ gK g b = 7 ∧ stbs g ls ∧ stbs g st ∧ w_X6_order [.ref b, a0, a1, a2] g (fun v g' => WP m_L_orders Q 49 ls (v.toList ++ st) g')) := E_CV (ar := [a2, a1, a0, .ref b]) lo_L_orders rfl rfl rfl (by decide)
set_option maxRecDepth 100000 in
theorem e_L_orders_49 {Q : mQ} {l0 l1 l2 l3 l4 l5 l6 l7 l8 l9 : Value} {st : List Value} {g : mG} {x : Int32} : WP m_L_orders Q 49 [l0, l1, l2, l3, l4, l5, l6, l7, l8, l9] (.int x :: st) g = (nl1 l7 ∧ WP m_L_orders Q 51 [l0, l1, l2, l3, l4, l5, l6, l7, .int x, l9] st g) := E_is (i := 8) (n := 2) lo_L_orders rfl (Nat.le_of_ble_eq_true rfl)
set_option maxRecDepth 100000 in
theorem e_L_orders_51 {Q : mQ} {l0 l1 l2 l3 l4 l5 l6 l8 l9 : Value} {st : List Value} {g : mG} {x : Int32} : WP m_L_orders Q 51 [l0, l1, l2, l3, l4, l5, l6, .int x, l8, l9] st g = WP m_L_orders Q 53 [l0, l1, l2, l3, l4, l5, l6, .int x, l8, l9] (.int x :: st) g := E_il (i := 7) (n := 2) lo_L_orders rfl rfl
set_option maxRecDepth 100000 in
theorem e_L_orders_53 {Q : mQ} {l0 l1 l2 l3 l4 l6 l7 l8 l9 : Value} {st : List Value} {g : mG} {x : Int32} : WP m_L_orders Q 53 [l0, l1, l2, l3, l4, .int x, l6, l7, l8, l9] st g = WP m_L_orders Q 55 [l0, l1, l2, l3, l4, .int x, l6, l7, l8, l9] (.int x :: st) g := E_il (i := 5) (n := 2) lo_L_orders rfl rfl
set_option maxRecDepth 100000 in
theorem e_L_orders_55 {Q : mQ} {ls st : List Value} {g : mG} {x y : Int32} : WP m_L_orders Q 55 ls (.int y :: .int x :: st) g = ((¬ x = y → WP m_L_orders Q 70 ls st g) ∧ (¬ (¬ x = y) → WP m_L_orders Q 58 ls st g)) := E_I2 (c := fun x y => ¬ x = y) (t := 70) lo_L_orders rfl
set_option maxRecDepth 100000 in
theorem e_L_orders_58 {Q : mQ} {l1 l2 l3 l4 l5 l6 l7 l8 l9 : Value} {st : List Value} {g : mG} {x : Nat} : WP m_L_orders Q 58 [.ref x, l1, l2, l3, l4, l5, l6, l7, l8, l9] st g = WP m_L_orders Q 59 [.ref x, l1, l2, l3, l4, l5, l6, l7, l8, l9] (.ref x :: st) g := E_al (i := 0) (n := 1) lo_L_orders rfl rfl
set_option maxRecDepth 100000 in
theorem e_L_orders_58n {Q : mQ} {l1 l2 l3 l4 l5 l6 l7 l8 l9 : Value} {st : List Value} {g : mG} : WP m_L_orders Q 58 [.null, l1, l2, l3, l4, l5, l6, l7, l8, l9] st g = WP m_L_orders Q 59 [.null, l1, l2, l3, l4, l5, l6, l7, l8, l9] (.null :: st) g := E_aln (i := 0) (n := 1) lo_L_orders rfl rfl
set_option maxRecDepth 100000 in
theorem e_L_orders_59 {Q : mQ} {l0 l2 l3 l4 l5 l6 l7 l8 l9 : Value} {st : List Value} {g : mG} {x : Int32} : WP m_L_orders Q 59 [l0, .int x, l2, l3, l4, l5, l6, l7, l8, l9] st g = WP m_L_orders Q 60 [l0, .int x, l2, l3, l4, l5, l6, l7, l8, l9] (.int x :: st) g := E_il (i := 1) (n := 1) lo_L_orders rfl rfl
set_option maxRecDepth 100000 in
theorem e_L_orders_60 {Q : mQ} {l0 l1 l3 l4 l5 l6 l7 l8 l9 : Value} {st : List Value} {g : mG} {x : Int32} : WP m_L_orders Q 60 [l0, l1, .int x, l3, l4, l5, l6, l7, l8, l9] st g = WP m_L_orders Q 61 [l0, l1, .int x, l3, l4, l5, l6, l7, l8, l9] (.int x :: st) g := E_il (i := 2) (n := 1) lo_L_orders rfl rfl
set_option maxRecDepth 100000 in
theorem e_L_orders_61 {Q : mQ} {ls st : List Value} {g : mG} : WP m_L_orders Q 61 ls st g = WP m_L_orders Q 62 ls (.int (nI 0) :: st) g := E_ic (v := nI 0) (n := 1) lo_L_orders rfl
set_option maxRecDepth 100000 in
theorem e_L_orders_62 {Q : mQ} {ls st : List Value} {g : mG} {b : Nat} {a0 a1 a2 : Value} : WP m_L_orders Q 62 ls (a2 :: a1 :: a0 :: .ref b :: st) g = (st.length ≤ 4 ∧ gK g b = 7 ∧ stbs g ls ∧ stbs g st ∧ w_X6_order [.ref b, a0, a1, a2] g (fun v g' => WP m_L_orders Q 65 ls (v.toList ++ st) g')) := E_CV (ar := [a2, a1, a0, .ref b]) lo_L_orders rfl rfl rfl (by decide)
set_option maxRecDepth 100000 in
theorem e_L_orders_65 {Q : mQ} {l0 l1 l2 l3 l4 l5 l7 l8 l9 : Value} {st : List Value} {g : mG} {x : Int32} : WP m_L_orders Q 65 [l0, l1, l2, l3, l4, l5, .int x, l7, l8, l9] st g = WP m_L_orders Q 67 [l0, l1, l2, l3, l4, l5, .int x, l7, l8, l9] (.int x :: st) g := E_il (i := 6) (n := 2) lo_L_orders rfl rfl
set_option maxRecDepth 100000 in
theorem e_L_orders_67 {Q : mQ} {ls st : List Value} {g : mG} {x y : Int32} : WP m_L_orders Q 67 ls (.int y :: .int x :: st) g = ((y < x → WP m_L_orders Q 91 ls st g) ∧ (¬ (y < x) → WP m_L_orders Q 70 ls st g)) := E_I2 (c := fun x y => y < x) (t := 91) lo_L_orders rfl
set_option maxRecDepth 100000 in
theorem e_L_orders_70 {Q : mQ} {l0 l2 l3 l4 l5 l6 l7 l8 l9 : Value} {st : List Value} {g : mG} {x : Int32} : WP m_L_orders Q 70 [l0, .int x, l2, l3, l4, l5, l6, l7, l8, l9] st g = WP m_L_orders Q 71 [l0, .int x, l2, l3, l4, l5, l6, l7, l8, l9] (.int x :: st) g := E_il (i := 1) (n := 1) lo_L_orders rfl rfl
set_option maxRecDepth 100000 in
theorem e_L_orders_71 {Q : mQ} {ls st : List Value} {g : mG} {x : Int32} : WP m_L_orders Q 71 ls (.int x :: st) g = ((x = 0 → WP m_L_orders Q 84 ls st g) ∧ (¬ (x = 0) → WP m_L_orders Q 74 ls st g)) := E_I1 (c := fun x => x = 0) (t := 84) lo_L_orders rfl
set_option maxRecDepth 100000 in
theorem e_L_orders_74 {Q : mQ} {l0 l1 l2 l3 l4 l5 l6 l8 l9 : Value} {st : List Value} {g : mG} {x : Int32} : WP m_L_orders Q 74 [l0, l1, l2, l3, l4, l5, l6, .int x, l8, l9] st g = WP m_L_orders Q 76 [l0, l1, l2, l3, l4, l5, l6, .int x, l8, l9] (.int x :: st) g := E_il (i := 7) (n := 2) lo_L_orders rfl rfl
set_option maxRecDepth 100000 in
theorem e_L_orders_76 {Q : mQ} {l0 l1 l2 l3 l4 l6 l7 l8 l9 : Value} {st : List Value} {g : mG} {x : Int32} : WP m_L_orders Q 76 [l0, l1, l2, l3, l4, .int x, l6, l7, l8, l9] st g = WP m_L_orders Q 78 [l0, l1, l2, l3, l4, .int x, l6, l7, l8, l9] (.int x :: st) g := E_il (i := 5) (n := 2) lo_L_orders rfl rfl
set_option maxRecDepth 100000 in
theorem e_L_orders_78 {Q : mQ} {ls st : List Value} {g : mG} {x y : Int32} : WP m_L_orders Q 78 ls (.int y :: .int x :: st) g = ((y ≤ x → WP m_L_orders Q 95 ls st g) ∧ (¬ (y ≤ x) → WP m_L_orders Q 81 ls st g)) := E_I2 (c := fun x y => y ≤ x) (t := 95) lo_L_orders rfl
set_option maxRecDepth 100000 in
theorem e_L_orders_81 {Q : mQ} {ls st : List Value} {g : mG} : WP m_L_orders Q 81 ls st g = WP m_L_orders Q 91 ls st g := E_goto lo_L_orders rfl
set_option maxRecDepth 100000 in
theorem e_L_orders_84 {Q : mQ} {l0 l1 l2 l3 l4 l5 l6 l8 l9 : Value} {st : List Value} {g : mG} {x : Int32} : WP m_L_orders Q 84 [l0, l1, l2, l3, l4, l5, l6, .int x, l8, l9] st g = WP m_L_orders Q 86 [l0, l1, l2, l3, l4, l5, l6, .int x, l8, l9] (.int x :: st) g := E_il (i := 7) (n := 2) lo_L_orders rfl rfl
set_option maxRecDepth 100000 in
theorem e_L_orders_86 {Q : mQ} {l0 l1 l2 l3 l4 l6 l7 l8 l9 : Value} {st : List Value} {g : mG} {x : Int32} : WP m_L_orders Q 86 [l0, l1, l2, l3, l4, .int x, l6, l7, l8, l9] st g = WP m_L_orders Q 88 [l0, l1, l2, l3, l4, .int x, l6, l7, l8, l9] (.int x :: st) g := E_il (i := 5) (n := 2) lo_L_orders rfl rfl
set_option maxRecDepth 100000 in
theorem e_L_orders_88 {Q : mQ} {ls st : List Value} {g : mG} {x y : Int32} : WP m_L_orders Q 88 ls (.int y :: .int x :: st) g = ((x ≤ y → WP m_L_orders Q 95 ls st g) ∧ (¬ (x ≤ y) → WP m_L_orders Q 91 ls st g)) := E_I2 (c := fun x y => x ≤ y) (t := 95) lo_L_orders rfl
set_option maxRecDepth 100000 in
theorem e_L_orders_91 {Q : mQ} {ls st : List Value} {g : mG} : WP m_L_orders Q 91 ls st g = WP m_L_orders Q 92 ls (.int (nI 1) :: st) g := E_ic (v := nI 1) (n := 1) lo_L_orders rfl
set_option maxRecDepth 100000 in
theorem e_L_orders_92 {Q : mQ} {ls st : List Value} {g : mG} : WP m_L_orders Q 92 ls st g = WP m_L_orders Q 96 ls st g := E_goto lo_L_orders rfl
set_option maxRecDepth 100000 in
theorem e_L_orders_95 {Q : mQ} {ls st : List Value} {g : mG} : WP m_L_orders Q 95 ls st g = WP m_L_orders Q 96 ls (.int (nI 0) :: st) g := E_ic (v := nI 0) (n := 1) lo_L_orders rfl
set_option maxRecDepth 100000 in
theorem e_L_orders_96 {Q : mQ} {l0 l1 l2 l3 l4 l5 l6 l7 l8 l9 : Value} {st : List Value} {g : mG} {x : Int32} : WP m_L_orders Q 96 [l0, l1, l2, l3, l4, l5, l6, l7, l8, l9] (.int x :: st) g = (nl1 l8 ∧ WP m_L_orders Q 98 [l0, l1, l2, l3, l4, l5, l6, l7, l8, .int x] st g) := E_is (i := 9) (n := 2) lo_L_orders rfl (Nat.le_of_ble_eq_true rfl)
set_option maxRecDepth 100000 in
theorem e_L_orders_98 {Q : mQ} {l0 l1 l2 l3 l4 l5 l6 l7 l8 : Value} {st : List Value} {g : mG} {x : Int32} : WP m_L_orders Q 98 [l0, l1, l2, l3, l4, l5, l6, l7, l8, .int x] st g = WP m_L_orders Q 100 [l0, l1, l2, l3, l4, l5, l6, l7, l8, .int x] (.int x :: st) g := E_il (i := 9) (n := 2) lo_L_orders rfl rfl
set_option maxRecDepth 100000 in
theorem e_L_orders_100 {Q : mQ} {ls st : List Value} {g : mG} {x : Int32} : WP m_L_orders Q 100 ls (.int x :: st) g = ((x = 0 → WP m_L_orders Q 135 ls st g) ∧ (¬ (x = 0) → WP m_L_orders Q 103 ls st g)) := E_I1 (c := fun x => x = 0) (t := 135) lo_L_orders rfl
set_option maxRecDepth 100000 in
theorem e_L_orders_103 {Q : mQ} {l0 l1 l2 l3 l4 l5 l6 l7 l9 : Value} {st : List Value} {g : mG} {x : Int32} : WP m_L_orders Q 103 [l0, l1, l2, l3, l4, l5, l6, l7, .int x, l9] st g = WP m_L_orders Q 105 [l0, l1, l2, l3, l4, l5, l6, l7, .int x, l9] (.int x :: st) g := E_il (i := 8) (n := 2) lo_L_orders rfl rfl
set_option maxRecDepth 100000 in
theorem e_L_orders_105 {Q : mQ} {ls st : List Value} {g : mG} : WP m_L_orders Q 105 ls st g = WP m_L_orders Q 106 ls (.int (nI 1) :: st) g := E_ic (v := nI 1) (n := 1) lo_L_orders rfl
set_option maxRecDepth 100000 in
theorem e_L_orders_106 {Q : mQ} {ls st : List Value} {g : mG} {x y : Int32} : WP m_L_orders Q 106 ls (.int y :: .int x :: st) g = ((x < y → WP m_L_orders Q 135 ls st g) ∧ (¬ (x < y) → WP m_L_orders Q 109 ls st g)) := E_I2 (c := fun x y => x < y) (t := 135) lo_L_orders rfl
set_option maxRecDepth 100000 in
theorem e_L_orders_109 {Q : mQ} {l1 l2 l3 l4 l5 l6 l7 l8 l9 : Value} {st : List Value} {g : mG} {x : Nat} : WP m_L_orders Q 109 [.ref x, l1, l2, l3, l4, l5, l6, l7, l8, l9] st g = WP m_L_orders Q 110 [.ref x, l1, l2, l3, l4, l5, l6, l7, l8, l9] (.ref x :: st) g := E_al (i := 0) (n := 1) lo_L_orders rfl rfl
set_option maxRecDepth 100000 in
theorem e_L_orders_109n {Q : mQ} {l1 l2 l3 l4 l5 l6 l7 l8 l9 : Value} {st : List Value} {g : mG} : WP m_L_orders Q 109 [.null, l1, l2, l3, l4, l5, l6, l7, l8, l9] st g = WP m_L_orders Q 110 [.null, l1, l2, l3, l4, l5, l6, l7, l8, l9] (.null :: st) g := E_aln (i := 0) (n := 1) lo_L_orders rfl rfl
set_option maxRecDepth 100000 in
theorem e_L_orders_110 {Q : mQ} {l0 l2 l3 l4 l5 l6 l7 l8 l9 : Value} {st : List Value} {g : mG} {x : Int32} : WP m_L_orders Q 110 [l0, .int x, l2, l3, l4, l5, l6, l7, l8, l9] st g = WP m_L_orders Q 111 [l0, .int x, l2, l3, l4, l5, l6, l7, l8, l9] (.int x :: st) g := E_il (i := 1) (n := 1) lo_L_orders rfl rfl
set_option maxRecDepth 100000 in
theorem e_L_orders_111 {Q : mQ} {l0 l1 l3 l4 l5 l6 l7 l8 l9 : Value} {st : List Value} {g : mG} {x : Int32} : WP m_L_orders Q 111 [l0, l1, .int x, l3, l4, l5, l6, l7, l8, l9] st g = WP m_L_orders Q 112 [l0, l1, .int x, l3, l4, l5, l6, l7, l8, l9] (.int x :: st) g := E_il (i := 2) (n := 1) lo_L_orders rfl rfl
set_option maxRecDepth 100000 in
theorem e_L_orders_112 {Q : mQ} {ls st : List Value} {g : mG} : WP m_L_orders Q 112 ls st g = WP m_L_orders Q 113 ls (.int (nI 0) :: st) g := E_ic (v := nI 0) (n := 1) lo_L_orders rfl
set_option maxRecDepth 100000 in
theorem e_L_orders_113 {Q : mQ} {ls st : List Value} {g : mG} {b : Nat} {a0 a1 a2 : Value} : WP m_L_orders Q 113 ls (a2 :: a1 :: a0 :: .ref b :: st) g = (st.length ≤ 4 ∧ gK g b = 7 ∧ stbs g ls ∧ stbs g st ∧ w_X6_order [.ref b, a0, a1, a2] g (fun v g' => WP m_L_orders Q 116 ls (v.toList ++ st) g')) := E_CV (ar := [a2, a1, a0, .ref b]) lo_L_orders rfl rfl rfl (by decide)
set_option maxRecDepth 100000 in
theorem e_L_orders_116 {Q : mQ} {l1 l2 l3 l4 l5 l6 l7 l8 l9 : Value} {st : List Value} {g : mG} {x : Nat} : WP m_L_orders Q 116 [.ref x, l1, l2, l3, l4, l5, l6, l7, l8, l9] st g = WP m_L_orders Q 117 [.ref x, l1, l2, l3, l4, l5, l6, l7, l8, l9] (.ref x :: st) g := E_al (i := 0) (n := 1) lo_L_orders rfl rfl
set_option maxRecDepth 100000 in
theorem e_L_orders_116n {Q : mQ} {l1 l2 l3 l4 l5 l6 l7 l8 l9 : Value} {st : List Value} {g : mG} : WP m_L_orders Q 116 [.null, l1, l2, l3, l4, l5, l6, l7, l8, l9] st g = WP m_L_orders Q 117 [.null, l1, l2, l3, l4, l5, l6, l7, l8, l9] (.null :: st) g := E_aln (i := 0) (n := 1) lo_L_orders rfl rfl
set_option maxRecDepth 100000 in
theorem e_L_orders_117 {Q : mQ} {ls st : List Value} {g : mG} : WP m_L_orders Q 117 ls st g = WP m_L_orders Q 119 ls (.int (nI 8) :: st) g := E_ic (v := nI 8) (n := 2) lo_L_orders rfl
set_option maxRecDepth 100000 in
theorem e_L_orders_119 {Q : mQ} {ls st : List Value} {g : mG} {b : Nat} {a0 : Value} : WP m_L_orders Q 119 ls (a0 :: .ref b :: st) g = (st.length ≤ 4 ∧ gK g b = 7 ∧ stbs g ls ∧ stbs g st ∧ w_X6_count [.ref b, a0] g (fun v g' => WP m_L_orders Q 122 ls (v.toList ++ st) g')) := E_CV (ar := [a0, .ref b]) lo_L_orders rfl rfl rfl (by decide)
set_option maxRecDepth 100000 in
theorem e_L_orders_122 {Q : mQ} {ls st : List Value} {g : mG} {x y : Int32} : WP m_L_orders Q 122 ls (.int y :: .int x :: st) g = ((y ≤ x → WP m_L_orders Q 135 ls st g) ∧ (¬ (y ≤ x) → WP m_L_orders Q 125 ls st g)) := E_I2 (c := fun x y => y ≤ x) (t := 135) lo_L_orders rfl
set_option maxRecDepth 100000 in
theorem e_L_orders_125 {Q : mQ} {l1 l2 l3 l4 l5 l6 l7 l8 l9 : Value} {st : List Value} {g : mG} {x : Nat} : WP m_L_orders Q 125 [.ref x, l1, l2, l3, l4, l5, l6, l7, l8, l9] st g = WP m_L_orders Q 126 [.ref x, l1, l2, l3, l4, l5, l6, l7, l8, l9] (.ref x :: st) g := E_al (i := 0) (n := 1) lo_L_orders rfl rfl
set_option maxRecDepth 100000 in
theorem e_L_orders_125n {Q : mQ} {l1 l2 l3 l4 l5 l6 l7 l8 l9 : Value} {st : List Value} {g : mG} : WP m_L_orders Q 125 [.null, l1, l2, l3, l4, l5, l6, l7, l8, l9] st g = WP m_L_orders Q 126 [.null, l1, l2, l3, l4, l5, l6, l7, l8, l9] (.null :: st) g := E_aln (i := 0) (n := 1) lo_L_orders rfl rfl
set_option maxRecDepth 100000 in
theorem e_L_orders_126 {Q : mQ} {l0 l2 l3 l4 l5 l6 l7 l8 l9 : Value} {st : List Value} {g : mG} {x : Int32} : WP m_L_orders Q 126 [l0, .int x, l2, l3, l4, l5, l6, l7, l8, l9] st g = WP m_L_orders Q 127 [l0, .int x, l2, l3, l4, l5, l6, l7, l8, l9] (.int x :: st) g := E_il (i := 1) (n := 1) lo_L_orders rfl rfl
set_option maxRecDepth 100000 in
theorem e_L_orders_127 {Q : mQ} {l0 l1 l3 l4 l5 l6 l7 l8 l9 : Value} {st : List Value} {g : mG} {x : Int32} : WP m_L_orders Q 127 [l0, l1, .int x, l3, l4, l5, l6, l7, l8, l9] st g = WP m_L_orders Q 128 [l0, l1, .int x, l3, l4, l5, l6, l7, l8, l9] (.int x :: st) g := E_il (i := 2) (n := 1) lo_L_orders rfl rfl
set_option maxRecDepth 100000 in
theorem e_L_orders_128 {Q : mQ} {ls st : List Value} {g : mG} : WP m_L_orders Q 128 ls st g = WP m_L_orders Q 129 ls (.int (nI 1) :: st) g := E_ic (v := nI 1) (n := 1) lo_L_orders rfl
set_option maxRecDepth 100000 in
theorem e_L_orders_129 {Q : mQ} {ls st : List Value} {g : mG} {b : Nat} {a0 a1 a2 : Value} : WP m_L_orders Q 129 ls (a2 :: a1 :: a0 :: .ref b :: st) g = (st.length ≤ 4 ∧ gK g b = 7 ∧ stbs g ls ∧ stbs g st ∧ w_X6_order [.ref b, a0, a1, a2] g (fun v g' => WP m_L_orders Q 132 ls (v.toList ++ st) g')) := E_CV (ar := [a2, a1, a0, .ref b]) lo_L_orders rfl rfl rfl (by decide)
set_option maxRecDepth 100000 in
theorem e_L_orders_132 {Q : mQ} {ls st : List Value} {g : mG} {x : Int32} : WP m_L_orders Q 132 ls (.int x :: st) g = ((0 ≤ x → WP m_L_orders Q 137 ls st g) ∧ (¬ (0 ≤ x) → WP m_L_orders Q 135 ls st g)) := E_I1 (c := fun x => 0 ≤ x) (t := 137) lo_L_orders rfl
set_option maxRecDepth 100000 in
theorem e_L_orders_135 {Q : mQ} {ls st : List Value} {g : mG} : WP m_L_orders Q 135 ls st g = WP m_L_orders Q 136 ls (.int (nI 0) :: st) g := E_ic (v := nI 0) (n := 1) lo_L_orders rfl
set_option maxRecDepth 100000 in
theorem e_L_orders_136 {Q : mQ} {ls : List Value} {g : mG} {v : Int32} : WP m_L_orders Q 136 ls [.int v] g = ((v = 0 ∨ v = 1) ∧ Q (some (.int v)) g) := E_zret lo_L_orders rfl
set_option maxRecDepth 100000 in
theorem e_L_orders_137 {Q : mQ} {l0 l1 l2 l3 l5 l6 l7 l8 l9 : Value} {st : List Value} {g : mG} {x : Int32} : WP m_L_orders Q 137 [l0, l1, l2, l3, .int x, l5, l6, l7, l8, l9] st g = WP m_L_orders Q 139 [l0, l1, l2, l3, .int x, l5, l6, l7, l8, l9] (.int x :: st) g := E_il (i := 4) (n := 2) lo_L_orders rfl rfl
set_option maxRecDepth 100000 in
theorem e_L_orders_139 {Q : mQ} {l0 l1 l2 l3 l4 l5 l6 l7 l9 : Value} {st : List Value} {g : mG} {x : Int32} : WP m_L_orders Q 139 [l0, l1, l2, l3, l4, l5, l6, l7, .int x, l9] st g = WP m_L_orders Q 141 [l0, l1, l2, l3, l4, l5, l6, l7, .int x, l9] (.int x :: st) g := E_il (i := 8) (n := 2) lo_L_orders rfl rfl
set_option maxRecDepth 100000 in
theorem e_L_orders_141 {Q : mQ} {ls st : List Value} {g : mG} {x y : Int32} : WP m_L_orders Q 141 ls (.int y :: .int x :: st) g = WP m_L_orders Q 142 ls (.int (x + y) :: st) g := E_b2 (f := fun x y => x + y) lo_L_orders rfl
set_option maxRecDepth 100000 in
theorem e_L_orders_142 {Q : mQ} {l0 l1 l2 l3 l4 l5 l6 l7 l8 l9 : Value} {st : List Value} {g : mG} {x : Int32} : WP m_L_orders Q 142 [l0, l1, l2, l3, l4, l5, l6, l7, l8, l9] (.int x :: st) g = (nl1 l3 ∧ WP m_L_orders Q 144 [l0, l1, l2, l3, .int x, l5, l6, l7, l8, l9] st g) := E_is (i := 4) (n := 2) lo_L_orders rfl (Nat.le_of_ble_eq_true rfl)
set_option maxRecDepth 100000 in
theorem e_L_orders_144 {Q : mQ} {l0 l1 l2 l4 l5 l6 l7 l8 l9 : Value} {st : List Value} {g : mG} {x : Int32} : WP m_L_orders Q 144 [l0, l1, l2, .int x, l4, l5, l6, l7, l8, l9] st g = WP m_L_orders Q 145 [l0, l1, l2, .int x, l4, l5, l6, l7, l8, l9] (.int x :: st) g := E_il (i := 3) (n := 1) lo_L_orders rfl rfl
set_option maxRecDepth 100000 in
theorem e_L_orders_145 {Q : mQ} {l0 l2 l3 l4 l5 l6 l7 l8 l9 : Value} {st : List Value} {g : mG} {x : Int32} : WP m_L_orders Q 145 [l0, .int x, l2, l3, l4, l5, l6, l7, l8, l9] st g = WP m_L_orders Q 146 [l0, .int x, l2, l3, l4, l5, l6, l7, l8, l9] (.int x :: st) g := E_il (i := 1) (n := 1) lo_L_orders rfl rfl
set_option maxRecDepth 100000 in
theorem e_L_orders_146 {Q : mQ} {ls st : List Value} {g : mG} {x : Int32} : WP m_L_orders Q 146 ls (.int x :: st) g = ((x = 0 → WP m_L_orders Q 157 ls st g) ∧ (¬ (x = 0) → WP m_L_orders Q 149 ls st g)) := E_I1 (c := fun x => x = 0) (t := 157) lo_L_orders rfl
set_option maxRecDepth 100000 in
theorem e_L_orders_149 {Q : mQ} {l0 l1 l2 l3 l4 l5 l6 l7 l9 : Value} {st : List Value} {g : mG} {x : Int32} : WP m_L_orders Q 149 [l0, l1, l2, l3, l4, l5, l6, l7, .int x, l9] st g = WP m_L_orders Q 151 [l0, l1, l2, l3, l4, l5, l6, l7, .int x, l9] (.int x :: st) g := E_il (i := 8) (n := 2) lo_L_orders rfl rfl
set_option maxRecDepth 100000 in
theorem e_L_orders_151 {Q : mQ} {l0 l1 l2 l3 l4 l5 l6 l8 l9 : Value} {st : List Value} {g : mG} {x : Int32} : WP m_L_orders Q 151 [l0, l1, l2, l3, l4, l5, l6, .int x, l8, l9] st g = WP m_L_orders Q 153 [l0, l1, l2, l3, l4, l5, l6, .int x, l8, l9] (.int x :: st) g := E_il (i := 7) (n := 2) lo_L_orders rfl rfl
set_option maxRecDepth 100000 in
theorem e_L_orders_153 {Q : mQ} {ls st : List Value} {g : mG} {x y : Int32} : WP m_L_orders Q 153 ls (.int y :: .int x :: st) g = WP m_L_orders Q 154 ls (.int (x * y) :: st) g := E_b2 (f := fun x y => x * y) lo_L_orders rfl
set_option maxRecDepth 100000 in
theorem e_L_orders_154 {Q : mQ} {ls st : List Value} {g : mG} : WP m_L_orders Q 154 ls st g = WP m_L_orders Q 159 ls st g := E_goto lo_L_orders rfl
set_option maxRecDepth 100000 in
theorem e_L_orders_157 {Q : mQ} {l0 l1 l2 l3 l4 l5 l6 l7 l9 : Value} {st : List Value} {g : mG} {x : Int32} : WP m_L_orders Q 157 [l0, l1, l2, l3, l4, l5, l6, l7, .int x, l9] st g = WP m_L_orders Q 159 [l0, l1, l2, l3, l4, l5, l6, l7, .int x, l9] (.int x :: st) g := E_il (i := 8) (n := 2) lo_L_orders rfl rfl
set_option maxRecDepth 100000 in
theorem e_L_orders_159 {Q : mQ} {ls st : List Value} {g : mG} {x y : Int32} : WP m_L_orders Q 159 ls (.int y :: .int x :: st) g = WP m_L_orders Q 160 ls (.int (x + y) :: st) g := E_b2 (f := fun x y => x + y) lo_L_orders rfl
set_option maxRecDepth 100000 in
theorem e_L_orders_160 {Q : mQ} {l0 l1 l2 l3 l4 l5 l6 l7 l8 l9 : Value} {st : List Value} {g : mG} {x : Int32} : WP m_L_orders Q 160 [l0, l1, l2, l3, l4, l5, l6, l7, l8, l9] (.int x :: st) g = (nl1 l2 ∧ WP m_L_orders Q 161 [l0, l1, l2, .int x, l4, l5, l6, l7, l8, l9] st g) := E_is (i := 3) (n := 1) lo_L_orders rfl (Nat.le_of_ble_eq_true rfl)
set_option maxRecDepth 100000 in
theorem e_L_orders_161 {Q : mQ} {l1 l2 l3 l4 l5 l6 l7 l8 l9 : Value} {st : List Value} {g : mG} {x : Nat} : WP m_L_orders Q 161 [.ref x, l1, l2, l3, l4, l5, l6, l7, l8, l9] st g = WP m_L_orders Q 162 [.ref x, l1, l2, l3, l4, l5, l6, l7, l8, l9] (.ref x :: st) g := E_al (i := 0) (n := 1) lo_L_orders rfl rfl
set_option maxRecDepth 100000 in
theorem e_L_orders_161n {Q : mQ} {l1 l2 l3 l4 l5 l6 l7 l8 l9 : Value} {st : List Value} {g : mG} : WP m_L_orders Q 161 [.null, l1, l2, l3, l4, l5, l6, l7, l8, l9] st g = WP m_L_orders Q 162 [.null, l1, l2, l3, l4, l5, l6, l7, l8, l9] (.null :: st) g := E_aln (i := 0) (n := 1) lo_L_orders rfl rfl
set_option maxRecDepth 100000 in
theorem e_L_orders_162 {Q : mQ} {l0 l2 l3 l4 l5 l6 l7 l8 l9 : Value} {st : List Value} {g : mG} {x : Int32} : WP m_L_orders Q 162 [l0, .int x, l2, l3, l4, l5, l6, l7, l8, l9] st g = WP m_L_orders Q 163 [l0, .int x, l2, l3, l4, l5, l6, l7, l8, l9] (.int x :: st) g := E_il (i := 1) (n := 1) lo_L_orders rfl rfl
set_option maxRecDepth 100000 in
theorem e_L_orders_163 {Q : mQ} {ls st : List Value} {g : mG} {x : Int32} : WP m_L_orders Q 163 ls (.int x :: st) g = ((¬ x = 0 → WP m_L_orders Q 170 ls st g) ∧ (¬ (¬ x = 0) → WP m_L_orders Q 166 ls st g)) := E_I1 (c := fun x => ¬ x = 0) (t := 170) lo_L_orders rfl
set_option maxRecDepth 100000 in
theorem e_L_orders_166 {Q : mQ} {ls st : List Value} {g : mG} : WP m_L_orders Q 166 ls st g = WP m_L_orders Q 167 ls (.int (nI 1) :: st) g := E_ic (v := nI 1) (n := 1) lo_L_orders rfl
set_option maxRecDepth 100000 in
theorem e_L_orders_167 {Q : mQ} {ls st : List Value} {g : mG} : WP m_L_orders Q 167 ls st g = WP m_L_orders Q 171 ls st g := E_goto lo_L_orders rfl
set_option maxRecDepth 100000 in
theorem e_L_orders_170 {Q : mQ} {ls st : List Value} {g : mG} : WP m_L_orders Q 170 ls st g = WP m_L_orders Q 171 ls (.int (nI 0) :: st) g := E_ic (v := nI 0) (n := 1) lo_L_orders rfl
set_option maxRecDepth 100000 in
theorem e_L_orders_171 {Q : mQ} {l0 l1 l2 l3 l4 l5 l6 l8 l9 : Value} {st : List Value} {g : mG} {x : Int32} : WP m_L_orders Q 171 [l0, l1, l2, l3, l4, l5, l6, .int x, l8, l9] st g = WP m_L_orders Q 173 [l0, l1, l2, l3, l4, l5, l6, .int x, l8, l9] (.int x :: st) g := E_il (i := 7) (n := 2) lo_L_orders rfl rfl
set_option maxRecDepth 100000 in
theorem e_L_orders_173 {Q : mQ} {ls st : List Value} {g : mG} {b : Nat} {a0 a1 : Value} : WP m_L_orders Q 173 ls (a1 :: a0 :: .ref b :: st) g = (st.length ≤ 4 ∧ gK g b = 7 ∧ stbs g ls ∧ stbs g st ∧ w_X6_depth [.ref b, a0, a1] g (fun v g' => WP m_L_orders Q 176 ls (v.toList ++ st) g')) := E_CV (ar := [a1, a0, .ref b]) lo_L_orders rfl rfl rfl (by decide)
set_option maxRecDepth 100000 in
theorem e_L_orders_176 {Q : mQ} {l0 l1 l2 l3 l5 l6 l7 l8 l9 : Value} {st : List Value} {g : mG} {x : Int32} : WP m_L_orders Q 176 [l0, l1, l2, l3, .int x, l5, l6, l7, l8, l9] st g = WP m_L_orders Q 178 [l0, l1, l2, l3, .int x, l5, l6, l7, l8, l9] (.int x :: st) g := E_il (i := 4) (n := 2) lo_L_orders rfl rfl
set_option maxRecDepth 100000 in
theorem e_L_orders_178 {Q : mQ} {ls st : List Value} {g : mG} {x y : Int32} : WP m_L_orders Q 178 ls (.int y :: .int x :: st) g = ((y ≤ x → WP m_L_orders Q 183 ls st g) ∧ (¬ (y ≤ x) → WP m_L_orders Q 181 ls st g)) := E_I2 (c := fun x y => y ≤ x) (t := 183) lo_L_orders rfl
set_option maxRecDepth 100000 in
theorem e_L_orders_181 {Q : mQ} {ls st : List Value} {g : mG} : WP m_L_orders Q 181 ls st g = WP m_L_orders Q 182 ls (.int (nI 0) :: st) g := E_ic (v := nI 0) (n := 1) lo_L_orders rfl
set_option maxRecDepth 100000 in
theorem e_L_orders_182 {Q : mQ} {ls : List Value} {g : mG} {v : Int32} : WP m_L_orders Q 182 ls [.int v] g = ((v = 0 ∨ v = 1) ∧ Q (some (.int v)) g) := E_zret lo_L_orders rfl
set_option maxRecDepth 100000 in
theorem e_L_orders_183 {Q : mQ} {l0 l1 l2 l3 l4 l5 l6 l8 l9 : Value} {st : List Value} {g : mG} {x : Int32} : WP m_L_orders Q 183 [l0, l1, l2, l3, l4, l5, l6, .int x, l8, l9] st g = WP m_L_orders Q 185 [l0, l1, l2, l3, l4, l5, l6, .int x, l8, l9] (.int x :: st) g := E_il (i := 7) (n := 2) lo_L_orders rfl rfl
set_option maxRecDepth 100000 in
theorem e_L_orders_185 {Q : mQ} {l0 l1 l2 l3 l4 l5 l6 l7 l8 l9 : Value} {st : List Value} {g : mG} {x : Int32} : WP m_L_orders Q 185 [l0, l1, l2, l3, l4, l5, l6, l7, l8, l9] (.int x :: st) g = (nl1 l4 ∧ WP m_L_orders Q 187 [l0, l1, l2, l3, l4, .int x, l6, l7, l8, l9] st g) := E_is (i := 5) (n := 2) lo_L_orders rfl (Nat.le_of_ble_eq_true rfl)
set_option maxRecDepth 100000 in
theorem e_L_orders_187 {Q : mQ} {l1 l2 l3 l4 l5 l6 l7 l8 l9 : Value} {st : List Value} {g : mG} {x : Nat} : WP m_L_orders Q 187 [.ref x, l1, l2, l3, l4, l5, l6, l7, l8, l9] st g = WP m_L_orders Q 188 [.ref x, l1, l2, l3, l4, l5, l6, l7, l8, l9] (.ref x :: st) g := E_al (i := 0) (n := 1) lo_L_orders rfl rfl
set_option maxRecDepth 100000 in
theorem e_L_orders_187n {Q : mQ} {l1 l2 l3 l4 l5 l6 l7 l8 l9 : Value} {st : List Value} {g : mG} : WP m_L_orders Q 187 [.null, l1, l2, l3, l4, l5, l6, l7, l8, l9] st g = WP m_L_orders Q 188 [.null, l1, l2, l3, l4, l5, l6, l7, l8, l9] (.null :: st) g := E_aln (i := 0) (n := 1) lo_L_orders rfl rfl
set_option maxRecDepth 100000 in
theorem e_L_orders_188 {Q : mQ} {l0 l2 l3 l4 l5 l6 l7 l8 l9 : Value} {st : List Value} {g : mG} {x : Int32} : WP m_L_orders Q 188 [l0, .int x, l2, l3, l4, l5, l6, l7, l8, l9] st g = WP m_L_orders Q 189 [l0, .int x, l2, l3, l4, l5, l6, l7, l8, l9] (.int x :: st) g := E_il (i := 1) (n := 1) lo_L_orders rfl rfl
set_option maxRecDepth 100000 in
theorem e_L_orders_189 {Q : mQ} {l0 l1 l3 l4 l5 l6 l7 l8 l9 : Value} {st : List Value} {g : mG} {x : Int32} : WP m_L_orders Q 189 [l0, l1, .int x, l3, l4, l5, l6, l7, l8, l9] st g = WP m_L_orders Q 190 [l0, l1, .int x, l3, l4, l5, l6, l7, l8, l9] (.int x :: st) g := E_il (i := 2) (n := 1) lo_L_orders rfl rfl
set_option maxRecDepth 100000 in
theorem e_L_orders_190 {Q : mQ} {ls st : List Value} {g : mG} : WP m_L_orders Q 190 ls st g = WP m_L_orders Q 191 ls (.int (nI 0) :: st) g := E_ic (v := nI 0) (n := 1) lo_L_orders rfl
set_option maxRecDepth 100000 in
theorem e_L_orders_191 {Q : mQ} {ls st : List Value} {g : mG} {b : Nat} {a0 a1 a2 : Value} : WP m_L_orders Q 191 ls (a2 :: a1 :: a0 :: .ref b :: st) g = (st.length ≤ 4 ∧ gK g b = 7 ∧ stbs g ls ∧ stbs g st ∧ w_X6_order [.ref b, a0, a1, a2] g (fun v g' => WP m_L_orders Q 194 ls (v.toList ++ st) g')) := E_CV (ar := [a2, a1, a0, .ref b]) lo_L_orders rfl rfl rfl (by decide)
set_option maxRecDepth 100000 in
theorem e_L_orders_194 {Q : mQ} {l0 l1 l2 l3 l4 l5 l6 l7 l8 l9 : Value} {st : List Value} {g : mG} {x : Int32} : WP m_L_orders Q 194 [l0, l1, l2, l3, l4, l5, l6, l7, l8, l9] (.int x :: st) g = (nl1 l5 ∧ WP m_L_orders Q 196 [l0, l1, l2, l3, l4, l5, .int x, l7, l8, l9] st g) := E_is (i := 6) (n := 2) lo_L_orders rfl (Nat.le_of_ble_eq_true rfl)
set_option maxRecDepth 100000 in
theorem e_L_orders_196 {Q : mQ} {l0 l1 l3 l4 l5 l6 l7 l8 l9 : Value} {st : List Value} {g : mG} {x : Int32} : WP m_L_orders Q 196 [l0, l1, .int x, l3, l4, l5, l6, l7, l8, l9] st g = (nl1 l1 ∧ WP m_L_orders Q 199 [l0, l1, .int (x + nI 1), l3, l4, l5, l6, l7, l8, l9] st g) := E_inc (i := 2) (d := nI 1) lo_L_orders rfl rfl
set_option maxRecDepth 100000 in
theorem e_L_orders_199 {Q : mQ} {ls st : List Value} {g : mG} : WP m_L_orders Q 199 ls st g = WP m_L_orders Q 23 ls st g := E_goto lo_L_orders rfl
set_option maxRecDepth 100000 in
theorem e_L_orders_202 {Q : mQ} {ls st : List Value} {g : mG} : WP m_L_orders Q 202 ls st g = WP m_L_orders Q 203 ls (.int (nI 0) :: st) g := E_ic (v := nI 0) (n := 1) lo_L_orders rfl
set_option maxRecDepth 100000 in
theorem e_L_orders_203 {Q : mQ} {l0 l1 l2 l3 l4 l5 l6 l7 l8 l9 : Value} {st : List Value} {g : mG} {x : Int32} : WP m_L_orders Q 203 [l0, l1, l2, l3, l4, l5, l6, l7, l8, l9] (.int x :: st) g = (nl1 l6 ∧ WP m_L_orders Q 205 [l0, l1, l2, l3, l4, l5, l6, .int x, l8, l9] st g) := E_is (i := 7) (n := 2) lo_L_orders rfl (Nat.le_of_ble_eq_true rfl)
set_option maxRecDepth 100000 in
theorem e_L_orders_205 {Q : mQ} {ls st : List Value} {g : mG} : WP m_L_orders Q 205 ls st g = WP m_L_orders Q 206 ls (.int (nI 0) :: st) g := E_ic (v := nI 0) (n := 1) lo_L_orders rfl
set_option maxRecDepth 100000 in
theorem e_L_orders_206 {Q : mQ} {l0 l1 l2 l3 l4 l5 l6 l7 l8 l9 : Value} {st : List Value} {g : mG} {x : Int32} : WP m_L_orders Q 206 [l0, l1, l2, l3, l4, l5, l6, l7, l8, l9] (.int x :: st) g = (nl1 l7 ∧ WP m_L_orders Q 208 [l0, l1, l2, l3, l4, l5, l6, l7, .int x, l9] st g) := E_is (i := 8) (n := 2) lo_L_orders rfl (Nat.le_of_ble_eq_true rfl)
set_option maxRecDepth 100000 in
theorem e_L_orders_208 {Q : mQ} {l0 l1 l2 l3 l4 l5 l6 l7 l9 : Value} {st : List Value} {g : mG} {x : Int32} : WP m_L_orders Q 208 [l0, l1, l2, l3, l4, l5, l6, l7, .int x, l9] st g = WP m_L_orders Q 210 [l0, l1, l2, l3, l4, l5, l6, l7, .int x, l9] (.int x :: st) g := E_il (i := 8) (n := 2) lo_L_orders rfl rfl
set_option maxRecDepth 100000 in
theorem e_L_orders_210 {Q : mQ} {ls st : List Value} {g : mG} : WP m_L_orders Q 210 ls st g = WP m_L_orders Q 212 ls (.int (nI 6) :: st) g := E_ic (v := nI 6) (n := 2) lo_L_orders rfl
set_option maxRecDepth 100000 in
theorem e_L_orders_212 {Q : mQ} {ls st : List Value} {g : mG} {x y : Int32} : WP m_L_orders Q 212 ls (.int y :: .int x :: st) g = ((y ≤ x → WP m_L_orders Q 243 ls st g) ∧ (¬ (y ≤ x) → WP m_L_orders Q 215 ls st g)) := E_I2 (c := fun x y => y ≤ x) (t := 243) lo_L_orders rfl
set_option maxRecDepth 100000 in
theorem e_L_orders_215 {Q : mQ} {l0 l1 l2 l3 l4 l5 l6 l8 l9 : Value} {st : List Value} {g : mG} {x : Int32} : WP m_L_orders Q 215 [l0, l1, l2, l3, l4, l5, l6, .int x, l8, l9] st g = WP m_L_orders Q 217 [l0, l1, l2, l3, l4, l5, l6, .int x, l8, l9] (.int x :: st) g := E_il (i := 7) (n := 2) lo_L_orders rfl rfl
set_option maxRecDepth 100000 in
theorem e_L_orders_217 {Q : mQ} {l1 l2 l3 l4 l5 l6 l7 l8 l9 : Value} {st : List Value} {g : mG} {x : Nat} : WP m_L_orders Q 217 [.ref x, l1, l2, l3, l4, l5, l6, l7, l8, l9] st g = WP m_L_orders Q 218 [.ref x, l1, l2, l3, l4, l5, l6, l7, l8, l9] (.ref x :: st) g := E_al (i := 0) (n := 1) lo_L_orders rfl rfl
set_option maxRecDepth 100000 in
theorem e_L_orders_217n {Q : mQ} {l1 l2 l3 l4 l5 l6 l7 l8 l9 : Value} {st : List Value} {g : mG} : WP m_L_orders Q 217 [.null, l1, l2, l3, l4, l5, l6, l7, l8, l9] st g = WP m_L_orders Q 218 [.null, l1, l2, l3, l4, l5, l6, l7, l8, l9] (.null :: st) g := E_aln (i := 0) (n := 1) lo_L_orders rfl rfl
set_option maxRecDepth 100000 in
theorem e_L_orders_218 {Q : mQ} {l0 l1 l2 l3 l4 l5 l6 l7 l9 : Value} {st : List Value} {g : mG} {x : Int32} : WP m_L_orders Q 218 [l0, l1, l2, l3, l4, l5, l6, l7, .int x, l9] st g = WP m_L_orders Q 220 [l0, l1, l2, l3, l4, l5, l6, l7, .int x, l9] (.int x :: st) g := E_il (i := 8) (n := 2) lo_L_orders rfl rfl
set_option maxRecDepth 100000 in
theorem e_L_orders_220 {Q : mQ} {l0 l2 l3 l4 l5 l6 l7 l8 l9 : Value} {st : List Value} {g : mG} {x : Int32} : WP m_L_orders Q 220 [l0, .int x, l2, l3, l4, l5, l6, l7, l8, l9] st g = WP m_L_orders Q 221 [l0, .int x, l2, l3, l4, l5, l6, l7, l8, l9] (.int x :: st) g := E_il (i := 1) (n := 1) lo_L_orders rfl rfl
set_option maxRecDepth 100000 in
theorem e_L_orders_221 {Q : mQ} {ls st : List Value} {g : mG} {x : Int32} : WP m_L_orders Q 221 ls (.int x :: st) g = ((x = 0 → WP m_L_orders Q 229 ls st g) ∧ (¬ (x = 0) → WP m_L_orders Q 224 ls st g)) := E_I1 (c := fun x => x = 0) (t := 229) lo_L_orders rfl
set_option maxRecDepth 100000 in
theorem e_L_orders_224 {Q : mQ} {ls st : List Value} {g : mG} : WP m_L_orders Q 224 ls st g = WP m_L_orders Q 226 ls (.int (nI 11) :: st) g := E_ic (v := nI 11) (n := 2) lo_L_orders rfl
set_option maxRecDepth 100000 in
theorem e_L_orders_226 {Q : mQ} {ls st : List Value} {g : mG} : WP m_L_orders Q 226 ls st g = WP m_L_orders Q 231 ls st g := E_goto lo_L_orders rfl
set_option maxRecDepth 100000 in
theorem e_L_orders_229 {Q : mQ} {ls st : List Value} {g : mG} : WP m_L_orders Q 229 ls st g = WP m_L_orders Q 231 ls (.int (nI 10) :: st) g := E_ic (v := nI 10) (n := 2) lo_L_orders rfl
set_option maxRecDepth 100000 in
theorem e_L_orders_231 {Q : mQ} {ls st : List Value} {g : mG} {b : Nat} {a0 a1 : Value} : WP m_L_orders Q 231 ls (a1 :: a0 :: .ref b :: st) g = (st.length ≤ 4 ∧ gK g b = 7 ∧ stbs g ls ∧ stbs g st ∧ w_X6_kiln [.ref b, a0, a1] g (fun v g' => WP m_L_orders Q 234 ls (v.toList ++ st) g')) := E_CV (ar := [a1, a0, .ref b]) lo_L_orders rfl rfl rfl (by decide)
set_option maxRecDepth 100000 in
theorem e_L_orders_234 {Q : mQ} {ls st : List Value} {g : mG} {x y : Int32} : WP m_L_orders Q 234 ls (.int y :: .int x :: st) g = WP m_L_orders Q 235 ls (.int (x + y) :: st) g := E_b2 (f := fun x y => x + y) lo_L_orders rfl
set_option maxRecDepth 100000 in
theorem e_L_orders_235 {Q : mQ} {l0 l1 l2 l3 l4 l5 l6 l7 l8 l9 : Value} {st : List Value} {g : mG} {x : Int32} : WP m_L_orders Q 235 [l0, l1, l2, l3, l4, l5, l6, l7, l8, l9] (.int x :: st) g = (nl1 l6 ∧ WP m_L_orders Q 237 [l0, l1, l2, l3, l4, l5, l6, .int x, l8, l9] st g) := E_is (i := 7) (n := 2) lo_L_orders rfl (Nat.le_of_ble_eq_true rfl)
set_option maxRecDepth 100000 in
theorem e_L_orders_237 {Q : mQ} {l0 l1 l2 l3 l4 l5 l6 l7 l9 : Value} {st : List Value} {g : mG} {x : Int32} : WP m_L_orders Q 237 [l0, l1, l2, l3, l4, l5, l6, l7, .int x, l9] st g = (nl1 l7 ∧ WP m_L_orders Q 240 [l0, l1, l2, l3, l4, l5, l6, l7, .int (x + nI 1), l9] st g) := E_inc (i := 8) (d := nI 1) lo_L_orders rfl rfl
set_option maxRecDepth 100000 in
theorem e_L_orders_240 {Q : mQ} {ls st : List Value} {g : mG} : WP m_L_orders Q 240 ls st g = WP m_L_orders Q 208 ls st g := E_goto lo_L_orders rfl
set_option maxRecDepth 100000 in
theorem e_L_orders_243 {Q : mQ} {ls st : List Value} {g : mG} : WP m_L_orders Q 243 ls st g = WP m_L_orders Q 244 ls (.int (nI 0) :: st) g := E_ic (v := nI 0) (n := 1) lo_L_orders rfl
set_option maxRecDepth 100000 in
theorem e_L_orders_244 {Q : mQ} {l0 l1 l2 l3 l4 l5 l6 l7 l8 l9 : Value} {st : List Value} {g : mG} {x : Int32} : WP m_L_orders Q 244 [l0, l1, l2, l3, l4, l5, l6, l7, l8, l9] (.int x :: st) g = (nl1 l7 ∧ WP m_L_orders Q 246 [l0, l1, l2, l3, l4, l5, l6, l7, .int x, l9] st g) := E_is (i := 8) (n := 2) lo_L_orders rfl (Nat.le_of_ble_eq_true rfl)
set_option maxRecDepth 100000 in
theorem e_L_orders_246 {Q : mQ} {l1 l2 l3 l4 l5 l6 l7 l8 l9 : Value} {st : List Value} {g : mG} {x : Nat} : WP m_L_orders Q 246 [.ref x, l1, l2, l3, l4, l5, l6, l7, l8, l9] st g = WP m_L_orders Q 247 [.ref x, l1, l2, l3, l4, l5, l6, l7, l8, l9] (.ref x :: st) g := E_al (i := 0) (n := 1) lo_L_orders rfl rfl
set_option maxRecDepth 100000 in
theorem e_L_orders_246n {Q : mQ} {l1 l2 l3 l4 l5 l6 l7 l8 l9 : Value} {st : List Value} {g : mG} : WP m_L_orders Q 246 [.null, l1, l2, l3, l4, l5, l6, l7, l8, l9] st g = WP m_L_orders Q 247 [.null, l1, l2, l3, l4, l5, l6, l7, l8, l9] (.null :: st) g := E_aln (i := 0) (n := 1) lo_L_orders rfl rfl
set_option maxRecDepth 100000 in
theorem e_L_orders_247 {Q : mQ} {l0 l2 l3 l4 l5 l6 l7 l8 l9 : Value} {st : List Value} {g : mG} {x : Int32} : WP m_L_orders Q 247 [l0, .int x, l2, l3, l4, l5, l6, l7, l8, l9] st g = WP m_L_orders Q 248 [l0, .int x, l2, l3, l4, l5, l6, l7, l8, l9] (.int x :: st) g := E_il (i := 1) (n := 1) lo_L_orders rfl rfl
set_option maxRecDepth 100000 in
theorem e_L_orders_248 {Q : mQ} {ls st : List Value} {g : mG} {x : Int32} : WP m_L_orders Q 248 ls (.int x :: st) g = ((¬ x = 0 → WP m_L_orders Q 255 ls st g) ∧ (¬ (¬ x = 0) → WP m_L_orders Q 251 ls st g)) := E_I1 (c := fun x => ¬ x = 0) (t := 255) lo_L_orders rfl
set_option maxRecDepth 100000 in
theorem e_L_orders_251 {Q : mQ} {ls st : List Value} {g : mG} : WP m_L_orders Q 251 ls st g = WP m_L_orders Q 252 ls (.int (nI 1) :: st) g := E_ic (v := nI 1) (n := 1) lo_L_orders rfl
set_option maxRecDepth 100000 in
theorem e_L_orders_252 {Q : mQ} {ls st : List Value} {g : mG} : WP m_L_orders Q 252 ls st g = WP m_L_orders Q 256 ls st g := E_goto lo_L_orders rfl
set_option maxRecDepth 100000 in
theorem e_L_orders_255 {Q : mQ} {ls st : List Value} {g : mG} : WP m_L_orders Q 255 ls st g = WP m_L_orders Q 256 ls (.int (nI 0) :: st) g := E_ic (v := nI 0) (n := 1) lo_L_orders rfl
set_option maxRecDepth 100000 in
theorem e_L_orders_256 {Q : mQ} {l0 l1 l2 l3 l4 l5 l6 l7 l9 : Value} {st : List Value} {g : mG} {x : Int32} : WP m_L_orders Q 256 [l0, l1, l2, l3, l4, l5, l6, l7, .int x, l9] st g = WP m_L_orders Q 258 [l0, l1, l2, l3, l4, l5, l6, l7, .int x, l9] (.int x :: st) g := E_il (i := 8) (n := 2) lo_L_orders rfl rfl
set_option maxRecDepth 100000 in
theorem e_L_orders_258 {Q : mQ} {ls st : List Value} {g : mG} : WP m_L_orders Q 258 ls st g = WP m_L_orders Q 259 ls (.int (nI 0) :: st) g := E_ic (v := nI 0) (n := 1) lo_L_orders rfl
set_option maxRecDepth 100000 in
theorem e_L_orders_259 {Q : mQ} {ls st : List Value} {g : mG} {b : Nat} {a0 a1 a2 : Value} : WP m_L_orders Q 259 ls (a2 :: a1 :: a0 :: .ref b :: st) g = (st.length ≤ 4 ∧ gK g b = 7 ∧ stbs g ls ∧ stbs g st ∧ w_X6_order [.ref b, a0, a1, a2] g (fun v g' => WP m_L_orders Q 262 ls (v.toList ++ st) g')) := E_CV (ar := [a2, a1, a0, .ref b]) lo_L_orders rfl rfl rfl (by decide)
set_option maxRecDepth 100000 in
theorem e_L_orders_262 {Q : mQ} {ls st : List Value} {g : mG} {x : Int32} : WP m_L_orders Q 262 ls (.int x :: st) g = ((x < 0 → WP m_L_orders Q 271 ls st g) ∧ (¬ (x < 0) → WP m_L_orders Q 265 ls st g)) := E_I1 (c := fun x => x < 0) (t := 271) lo_L_orders rfl
set_option maxRecDepth 100000 in
theorem e_L_orders_265 {Q : mQ} {l0 l1 l2 l3 l4 l5 l6 l7 l9 : Value} {st : List Value} {g : mG} {x : Int32} : WP m_L_orders Q 265 [l0, l1, l2, l3, l4, l5, l6, l7, .int x, l9] st g = (nl1 l7 ∧ WP m_L_orders Q 268 [l0, l1, l2, l3, l4, l5, l6, l7, .int (x + nI 1), l9] st g) := E_inc (i := 8) (d := nI 1) lo_L_orders rfl rfl
set_option maxRecDepth 100000 in
theorem e_L_orders_268 {Q : mQ} {ls st : List Value} {g : mG} : WP m_L_orders Q 268 ls st g = WP m_L_orders Q 246 ls st g := E_goto lo_L_orders rfl
set_option maxRecDepth 100000 in
theorem e_L_orders_271 {Q : mQ} {l0 l1 l2 l3 l4 l5 l6 l8 l9 : Value} {st : List Value} {g : mG} {x : Int32} : WP m_L_orders Q 271 [l0, l1, l2, l3, l4, l5, l6, .int x, l8, l9] st g = WP m_L_orders Q 273 [l0, l1, l2, l3, l4, l5, l6, .int x, l8, l9] (.int x :: st) g := E_il (i := 7) (n := 2) lo_L_orders rfl rfl
set_option maxRecDepth 100000 in
theorem e_L_orders_273 {Q : mQ} {l0 l1 l2 l4 l5 l6 l7 l8 l9 : Value} {st : List Value} {g : mG} {x : Int32} : WP m_L_orders Q 273 [l0, l1, l2, .int x, l4, l5, l6, l7, l8, l9] st g = WP m_L_orders Q 274 [l0, l1, l2, .int x, l4, l5, l6, l7, l8, l9] (.int x :: st) g := E_il (i := 3) (n := 1) lo_L_orders rfl rfl
set_option maxRecDepth 100000 in
theorem e_L_orders_274 {Q : mQ} {ls st : List Value} {g : mG} {x y : Int32} : WP m_L_orders Q 274 ls (.int y :: .int x :: st) g = ((¬ x = y → WP m_L_orders Q 347 ls st g) ∧ (¬ (¬ x = y) → WP m_L_orders Q 277 ls st g)) := E_I2 (c := fun x y => ¬ x = y) (t := 347) lo_L_orders rfl
set_option maxRecDepth 100000 in
theorem e_L_orders_277 {Q : mQ} {l0 l1 l3 l4 l5 l6 l7 l8 l9 : Value} {st : List Value} {g : mG} {x : Int32} : WP m_L_orders Q 277 [l0, l1, .int x, l3, l4, l5, l6, l7, l8, l9] st g = WP m_L_orders Q 278 [l0, l1, .int x, l3, l4, l5, l6, l7, l8, l9] (.int x :: st) g := E_il (i := 2) (n := 1) lo_L_orders rfl rfl
set_option maxRecDepth 100000 in
theorem e_L_orders_278 {Q : mQ} {l0 l1 l2 l3 l4 l5 l6 l7 l9 : Value} {st : List Value} {g : mG} {x : Int32} : WP m_L_orders Q 278 [l0, l1, l2, l3, l4, l5, l6, l7, .int x, l9] st g = WP m_L_orders Q 280 [l0, l1, l2, l3, l4, l5, l6, l7, .int x, l9] (.int x :: st) g := E_il (i := 8) (n := 2) lo_L_orders rfl rfl
set_option maxRecDepth 100000 in
theorem e_L_orders_280 {Q : mQ} {ls st : List Value} {g : mG} {x y : Int32} : WP m_L_orders Q 280 ls (.int y :: .int x :: st) g = WP m_L_orders Q 281 ls (.int (x + y) :: st) g := E_b2 (f := fun x y => x + y) lo_L_orders rfl
set_option maxRecDepth 100000 in
theorem e_L_orders_281 {Q : mQ} {l1 l2 l3 l4 l5 l6 l7 l8 l9 : Value} {st : List Value} {g : mG} {x : Nat} : WP m_L_orders Q 281 [.ref x, l1, l2, l3, l4, l5, l6, l7, l8, l9] st g = WP m_L_orders Q 282 [.ref x, l1, l2, l3, l4, l5, l6, l7, l8, l9] (.ref x :: st) g := E_al (i := 0) (n := 1) lo_L_orders rfl rfl
set_option maxRecDepth 100000 in
theorem e_L_orders_281n {Q : mQ} {l1 l2 l3 l4 l5 l6 l7 l8 l9 : Value} {st : List Value} {g : mG} : WP m_L_orders Q 281 [.null, l1, l2, l3, l4, l5, l6, l7, l8, l9] st g = WP m_L_orders Q 282 [.null, l1, l2, l3, l4, l5, l6, l7, l8, l9] (.null :: st) g := E_aln (i := 0) (n := 1) lo_L_orders rfl rfl
set_option maxRecDepth 100000 in
theorem e_L_orders_282 {Q : mQ} {ls st : List Value} {g : mG} : WP m_L_orders Q 282 ls st g = WP m_L_orders Q 284 ls (.int (nI 7) :: st) g := E_ic (v := nI 7) (n := 2) lo_L_orders rfl
set_option maxRecDepth 100000 in
theorem e_L_orders_284 {Q : mQ} {ls st : List Value} {g : mG} {b : Nat} {a0 : Value} : WP m_L_orders Q 284 ls (a0 :: .ref b :: st) g = (st.length ≤ 4 ∧ gK g b = 7 ∧ stbs g ls ∧ stbs g st ∧ w_X6_count [.ref b, a0] g (fun v g' => WP m_L_orders Q 287 ls (v.toList ++ st) g')) := E_CV (ar := [a0, .ref b]) lo_L_orders rfl rfl rfl (by decide)
set_option maxRecDepth 100000 in
theorem e_L_orders_287 {Q : mQ} {ls st : List Value} {g : mG} {x y : Int32} : WP m_L_orders Q 287 ls (.int y :: .int x :: st) g = ((¬ x = y → WP m_L_orders Q 347 ls st g) ∧ (¬ (¬ x = y) → WP m_L_orders Q 290 ls st g)) := E_I2 (c := fun x y => ¬ x = y) (t := 347) lo_L_orders rfl
set_option maxRecDepth 100000 in
theorem e_L_orders_290 {Q : mQ} {l1 l2 l3 l4 l5 l6 l7 l8 l9 : Value} {st : List Value} {g : mG} {x : Nat} : WP m_L_orders Q 290 [.ref x, l1, l2, l3, l4, l5, l6, l7, l8, l9] st g = WP m_L_orders Q 291 [.ref x, l1, l2, l3, l4, l5, l6, l7, l8, l9] (.ref x :: st) g := E_al (i := 0) (n := 1) lo_L_orders rfl rfl
set_option maxRecDepth 100000 in
theorem e_L_orders_290n {Q : mQ} {l1 l2 l3 l4 l5 l6 l7 l8 l9 : Value} {st : List Value} {g : mG} : WP m_L_orders Q 290 [.null, l1, l2, l3, l4, l5, l6, l7, l8, l9] st g = WP m_L_orders Q 291 [.null, l1, l2, l3, l4, l5, l6, l7, l8, l9] (.null :: st) g := E_aln (i := 0) (n := 1) lo_L_orders rfl rfl
set_option maxRecDepth 100000 in
theorem e_L_orders_291 {Q : mQ} {l0 l2 l3 l4 l5 l6 l7 l8 l9 : Value} {st : List Value} {g : mG} {x : Int32} : WP m_L_orders Q 291 [l0, .int x, l2, l3, l4, l5, l6, l7, l8, l9] st g = WP m_L_orders Q 292 [l0, .int x, l2, l3, l4, l5, l6, l7, l8, l9] (.int x :: st) g := E_il (i := 1) (n := 1) lo_L_orders rfl rfl
set_option maxRecDepth 100000 in
theorem e_L_orders_292 {Q : mQ} {ls st : List Value} {g : mG} {x : Int32} : WP m_L_orders Q 292 ls (.int x :: st) g = ((¬ x = 0 → WP m_L_orders Q 299 ls st g) ∧ (¬ (¬ x = 0) → WP m_L_orders Q 295 ls st g)) := E_I1 (c := fun x => ¬ x = 0) (t := 299) lo_L_orders rfl
set_option maxRecDepth 100000 in
theorem e_L_orders_295 {Q : mQ} {ls st : List Value} {g : mG} : WP m_L_orders Q 295 ls st g = WP m_L_orders Q 296 ls (.int (nI 1) :: st) g := E_ic (v := nI 1) (n := 1) lo_L_orders rfl
set_option maxRecDepth 100000 in
theorem e_L_orders_296 {Q : mQ} {ls st : List Value} {g : mG} : WP m_L_orders Q 296 ls st g = WP m_L_orders Q 300 ls st g := E_goto lo_L_orders rfl
set_option maxRecDepth 100000 in
theorem e_L_orders_299 {Q : mQ} {ls st : List Value} {g : mG} : WP m_L_orders Q 299 ls st g = WP m_L_orders Q 300 ls (.int (nI 0) :: st) g := E_ic (v := nI 0) (n := 1) lo_L_orders rfl
set_option maxRecDepth 100000 in
theorem e_L_orders_300 {Q : mQ} {l0 l2 l3 l4 l5 l6 l7 l8 l9 : Value} {st : List Value} {g : mG} {x : Int32} : WP m_L_orders Q 300 [l0, .int x, l2, l3, l4, l5, l6, l7, l8, l9] st g = WP m_L_orders Q 301 [l0, .int x, l2, l3, l4, l5, l6, l7, l8, l9] (.int x :: st) g := E_il (i := 1) (n := 1) lo_L_orders rfl rfl
set_option maxRecDepth 100000 in
theorem e_L_orders_301 {Q : mQ} {ls st : List Value} {g : mG} {x : Int32} : WP m_L_orders Q 301 ls (.int x :: st) g = ((x = 0 → WP m_L_orders Q 308 ls st g) ∧ (¬ (x = 0) → WP m_L_orders Q 304 ls st g)) := E_I1 (c := fun x => x = 0) (t := 308) lo_L_orders rfl
set_option maxRecDepth 100000 in
theorem e_L_orders_304 {Q : mQ} {ls st : List Value} {g : mG} : WP m_L_orders Q 304 ls st g = WP m_L_orders Q 305 ls (.int (nI 1) :: st) g := E_ic (v := nI 1) (n := 1) lo_L_orders rfl
set_option maxRecDepth 100000 in
theorem e_L_orders_305 {Q : mQ} {ls st : List Value} {g : mG} : WP m_L_orders Q 305 ls st g = WP m_L_orders Q 311 ls st g := E_goto lo_L_orders rfl
set_option maxRecDepth 100000 in
theorem e_L_orders_308 {Q : mQ} {ls st : List Value} {g : mG} : WP m_L_orders Q 308 ls st g = WP m_L_orders Q 311 ls (.int (nI 500) :: st) g := E_ic (v := nI 500) (n := 3) lo_L_orders rfl
set_option maxRecDepth 100000 in
theorem e_L_orders_311 {Q : mQ} {ls st : List Value} {g : mG} {b : Nat} {a0 a1 : Value} : WP m_L_orders Q 311 ls (a1 :: a0 :: .ref b :: st) g = (st.length ≤ 4 ∧ gK g b = 7 ∧ stbs g ls ∧ stbs g st ∧ w_X6_depth [.ref b, a0, a1] g (fun v g' => WP m_L_orders Q 314 ls (v.toList ++ st) g')) := E_CV (ar := [a1, a0, .ref b]) lo_L_orders rfl rfl rfl (by decide)
set_option maxRecDepth 100000 in
theorem e_L_orders_314 {Q : mQ} {l0 l1 l2 l3 l5 l6 l7 l8 l9 : Value} {st : List Value} {g : mG} {x : Int32} : WP m_L_orders Q 314 [l0, l1, l2, l3, .int x, l5, l6, l7, l8, l9] st g = WP m_L_orders Q 316 [l0, l1, l2, l3, .int x, l5, l6, l7, l8, l9] (.int x :: st) g := E_il (i := 4) (n := 2) lo_L_orders rfl rfl
set_option maxRecDepth 100000 in
theorem e_L_orders_316 {Q : mQ} {ls st : List Value} {g : mG} {x y : Int32} : WP m_L_orders Q 316 ls (.int y :: .int x :: st) g = ((¬ x = y → WP m_L_orders Q 347 ls st g) ∧ (¬ (¬ x = y) → WP m_L_orders Q 319 ls st g)) := E_I2 (c := fun x y => ¬ x = y) (t := 347) lo_L_orders rfl
set_option maxRecDepth 100000 in
theorem e_L_orders_319 {Q : mQ} {l1 l2 l3 l4 l5 l6 l7 l8 l9 : Value} {st : List Value} {g : mG} {x : Nat} : WP m_L_orders Q 319 [.ref x, l1, l2, l3, l4, l5, l6, l7, l8, l9] st g = WP m_L_orders Q 320 [.ref x, l1, l2, l3, l4, l5, l6, l7, l8, l9] (.ref x :: st) g := E_al (i := 0) (n := 1) lo_L_orders rfl rfl
set_option maxRecDepth 100000 in
theorem e_L_orders_319n {Q : mQ} {l1 l2 l3 l4 l5 l6 l7 l8 l9 : Value} {st : List Value} {g : mG} : WP m_L_orders Q 319 [.null, l1, l2, l3, l4, l5, l6, l7, l8, l9] st g = WP m_L_orders Q 320 [.null, l1, l2, l3, l4, l5, l6, l7, l8, l9] (.null :: st) g := E_aln (i := 0) (n := 1) lo_L_orders rfl rfl
set_option maxRecDepth 100000 in
theorem e_L_orders_320 {Q : mQ} {l0 l2 l3 l4 l5 l6 l7 l8 l9 : Value} {st : List Value} {g : mG} {x : Int32} : WP m_L_orders Q 320 [l0, .int x, l2, l3, l4, l5, l6, l7, l8, l9] st g = WP m_L_orders Q 321 [l0, .int x, l2, l3, l4, l5, l6, l7, l8, l9] (.int x :: st) g := E_il (i := 1) (n := 1) lo_L_orders rfl rfl
set_option maxRecDepth 100000 in
theorem e_L_orders_321 {Q : mQ} {l0 l1 l3 l4 l5 l6 l7 l8 l9 : Value} {st : List Value} {g : mG} {x : Int32} : WP m_L_orders Q 321 [l0, l1, .int x, l3, l4, l5, l6, l7, l8, l9] st g = WP m_L_orders Q 322 [l0, l1, .int x, l3, l4, l5, l6, l7, l8, l9] (.int x :: st) g := E_il (i := 2) (n := 1) lo_L_orders rfl rfl
set_option maxRecDepth 100000 in
theorem e_L_orders_322 {Q : mQ} {ls st : List Value} {g : mG} : WP m_L_orders Q 322 ls st g = WP m_L_orders Q 323 ls (.int (nI 3) :: st) g := E_ic (v := nI 3) (n := 1) lo_L_orders rfl
set_option maxRecDepth 100000 in
theorem e_L_orders_323 {Q : mQ} {ls st : List Value} {g : mG} {b : Nat} {a0 a1 a2 : Value} : WP m_L_orders Q 323 ls (a2 :: a1 :: a0 :: .ref b :: st) g = (st.length ≤ 4 ∧ gK g b = 7 ∧ stbs g ls ∧ stbs g st ∧ w_X6_order [.ref b, a0, a1, a2] g (fun v g' => WP m_L_orders Q 326 ls (v.toList ++ st) g')) := E_CV (ar := [a2, a1, a0, .ref b]) lo_L_orders rfl rfl rfl (by decide)
set_option maxRecDepth 100000 in
theorem e_L_orders_326 {Q : mQ} {ls st : List Value} {g : mG} : WP m_L_orders Q 326 ls st g = WP m_L_orders Q 328 ls (.int ((-5)) :: st) g := E_ic (v := (-5)) (n := 2) lo_L_orders rfl
set_option maxRecDepth 100000 in
theorem e_L_orders_328 {Q : mQ} {ls st : List Value} {g : mG} {x y : Int32} : WP m_L_orders Q 328 ls (.int y :: .int x :: st) g = ((¬ x = y → WP m_L_orders Q 347 ls st g) ∧ (¬ (¬ x = y) → WP m_L_orders Q 331 ls st g)) := E_I2 (c := fun x y => ¬ x = y) (t := 347) lo_L_orders rfl
set_option maxRecDepth 100000 in
theorem e_L_orders_331 {Q : mQ} {l1 l2 l3 l4 l5 l6 l7 l8 l9 : Value} {st : List Value} {g : mG} {x : Nat} : WP m_L_orders Q 331 [.ref x, l1, l2, l3, l4, l5, l6, l7, l8, l9] st g = WP m_L_orders Q 332 [.ref x, l1, l2, l3, l4, l5, l6, l7, l8, l9] (.ref x :: st) g := E_al (i := 0) (n := 1) lo_L_orders rfl rfl
set_option maxRecDepth 100000 in
theorem e_L_orders_331n {Q : mQ} {l1 l2 l3 l4 l5 l6 l7 l8 l9 : Value} {st : List Value} {g : mG} : WP m_L_orders Q 331 [.null, l1, l2, l3, l4, l5, l6, l7, l8, l9] st g = WP m_L_orders Q 332 [.null, l1, l2, l3, l4, l5, l6, l7, l8, l9] (.null :: st) g := E_aln (i := 0) (n := 1) lo_L_orders rfl rfl
set_option maxRecDepth 100000 in
theorem e_L_orders_332 {Q : mQ} {l0 l2 l3 l4 l5 l6 l7 l8 l9 : Value} {st : List Value} {g : mG} {x : Int32} : WP m_L_orders Q 332 [l0, .int x, l2, l3, l4, l5, l6, l7, l8, l9] st g = WP m_L_orders Q 333 [l0, .int x, l2, l3, l4, l5, l6, l7, l8, l9] (.int x :: st) g := E_il (i := 1) (n := 1) lo_L_orders rfl rfl
set_option maxRecDepth 100000 in
theorem e_L_orders_333 {Q : mQ} {ls st : List Value} {g : mG} : WP m_L_orders Q 333 ls st g = WP m_L_orders Q 334 ls (.int ((-1)) :: st) g := E_ic (v := (-1)) (n := 1) lo_L_orders rfl
set_option maxRecDepth 100000 in
theorem e_L_orders_334 {Q : mQ} {ls st : List Value} {g : mG} : WP m_L_orders Q 334 ls st g = WP m_L_orders Q 335 ls (.int (nI 0) :: st) g := E_ic (v := nI 0) (n := 1) lo_L_orders rfl
set_option maxRecDepth 100000 in
theorem e_L_orders_335 {Q : mQ} {ls st : List Value} {g : mG} {b : Nat} {a0 a1 a2 : Value} : WP m_L_orders Q 335 ls (a2 :: a1 :: a0 :: .ref b :: st) g = (st.length ≤ 4 ∧ gK g b = 7 ∧ stbs g ls ∧ stbs g st ∧ w_X6_order [.ref b, a0, a1, a2] g (fun v g' => WP m_L_orders Q 338 ls (v.toList ++ st) g')) := E_CV (ar := [a2, a1, a0, .ref b]) lo_L_orders rfl rfl rfl (by decide)
set_option maxRecDepth 100000 in
theorem e_L_orders_338 {Q : mQ} {ls st : List Value} {g : mG} : WP m_L_orders Q 338 ls st g = WP m_L_orders Q 340 ls (.int ((-2)) :: st) g := E_ic (v := (-2)) (n := 2) lo_L_orders rfl
set_option maxRecDepth 100000 in
theorem e_L_orders_340 {Q : mQ} {ls st : List Value} {g : mG} {x y : Int32} : WP m_L_orders Q 340 ls (.int y :: .int x :: st) g = ((¬ x = y → WP m_L_orders Q 347 ls st g) ∧ (¬ (¬ x = y) → WP m_L_orders Q 343 ls st g)) := E_I2 (c := fun x y => ¬ x = y) (t := 347) lo_L_orders rfl
set_option maxRecDepth 100000 in
theorem e_L_orders_343 {Q : mQ} {ls st : List Value} {g : mG} : WP m_L_orders Q 343 ls st g = WP m_L_orders Q 344 ls (.int (nI 1) :: st) g := E_ic (v := nI 1) (n := 1) lo_L_orders rfl
set_option maxRecDepth 100000 in
theorem e_L_orders_344 {Q : mQ} {ls st : List Value} {g : mG} : WP m_L_orders Q 344 ls st g = WP m_L_orders Q 348 ls st g := E_goto lo_L_orders rfl
set_option maxRecDepth 100000 in
theorem e_L_orders_347 {Q : mQ} {ls st : List Value} {g : mG} : WP m_L_orders Q 347 ls st g = WP m_L_orders Q 348 ls (.int (nI 0) :: st) g := E_ic (v := nI 0) (n := 1) lo_L_orders rfl
set_option maxRecDepth 100000 in
theorem e_L_orders_348 {Q : mQ} {ls : List Value} {g : mG} {v : Int32} : WP m_L_orders Q 348 ls [.int v] g = ((v = 0 ∨ v = 1) ∧ Q (some (.int v)) g) := E_zret lo_L_orders rfl
/-! KilnPermitsLaw.sums(LKilnPermits;)Z -/
def m_L_sums : List (Nat × mT) := [(0, tD (f_ic (nI 0) 1)),
  (1, tD (f_is 1 1)),
  (2, tD (f_ic (nI 0) 1)),
  (3, tD (f_is 2 1)),
  (4, tD (f_ic (nI 0) 1)),
  (5, tD (f_is 3 1)),
  (6, tD (f_il 3 1)),
  (7, tD (f_ic (nI 6) 2)),
  (9, tI2 (fun x y => y ≤ x) 62),
  (12, tD (f_al 0 1)),
  (13, tD (f_il 3 1)),
  (14, tC w_L_kiln 0 2),
  (17, tI1 (fun x => ¬ x = 0) 22),
  (20, tD (f_ic (nI 0) 1)),
  (21, tR f_zret),
  (22, tD (f_il 1 1)),
  (23, tD (f_al 0 1)),
  (24, tD (f_il 3 1)),
  (25, tD (f_ic (nI 0) 1)),
  (26, tC w_X6_kiln 7 3),
  (29, tD (f_al 0 1)),
  (30, tD (f_il 3 1)),
  (31, tD (f_ic (nI 11) 2)),
  (33, tC w_X6_kiln 7 3),
  (36, tD (f_b2 fun x y => x + y)),
  (37, tD (f_b2 fun x y => x + y)),
  (38, tD (f_is 1 1)),
  (39, tD (f_il 2 1)),
  (40, tD (f_al 0 1)),
  (41, tD (f_il 3 1)),
  (42, tD (f_ic (nI 1) 1)),
  (43, tC w_X6_kiln 7 3),
  (46, tD (f_al 0 1)),
  (47, tD (f_il 3 1)),
  (48, tD (f_ic (nI 10) 2)),
  (50, tC w_X6_kiln 7 3),
  (53, tD (f_b2 fun x y => x + y)),
  (54, tD (f_b2 fun x y => x + y)),
  (55, tD (f_is 2 1)),
  (56, tD (f_inc 3 (nI 1))),
  (59, tD (f_goto 6)),
  (62, tD (f_al 0 1)),
  (63, tD (f_ic (nI 1) 1)),
  (64, tD (f_ic (nI 0) 1)),
  (65, tD (f_ic (nI 3) 1)),
  (66, tC w_X6_order 7 4),
  (69, tI1 (fun x => x < 0) 103),
  (72, tD (f_al 0 1)),
  (73, tD (f_ic (nI 0) 1)),
  (74, tD (f_ic (nI 0) 1)),
  (75, tD (f_ic (nI 3) 1)),
  (76, tC w_X6_order 7 4),
  (79, tI1 (fun x => x < 0) 103),
  (82, tD (f_al 0 1)),
  (83, tD (f_ic (nI 1) 1)),
  (84, tD (f_ic (nI 0) 1)),
  (85, tD (f_ic (nI 3) 1)),
  (86, tC w_X6_order 7 4),
  (89, tD (f_al 0 1)),
  (90, tD (f_ic (nI 0) 1)),
  (91, tD (f_ic (nI 0) 1)),
  (92, tD (f_ic (nI 3) 1)),
  (93, tC w_X6_order 7 4),
  (96, tI2 (fun x y => x < y) 103),
  (99, tD (f_ic (nI 1) 1)),
  (100, tD (f_goto 104)),
  (103, tD (f_ic (nI 0) 1)),
  (104, tD (f_is 3 1)),
  (105, tD (f_il 3 1)),
  (106, tI1 (fun x => ¬ x = 0) 209),
  (109, tD (f_al 0 1)),
  (110, tD (f_ic (nI 11) 2)),
  (112, tC w_X6_count 7 2),
  (115, tD (f_il 1 1)),
  (116, tI2 (fun x y => ¬ x = y) 209),
  (119, tD (f_il 1 1)),
  (120, tD (f_al 0 1)),
  (121, tD (f_ic (nI 12) 2)),
  (123, tC w_X6_count 7 2),
  (126, tD (f_b2 fun x y => x + y)),
  (127, tD (f_al 0 1)),
  (128, tD (f_ic (nI 13) 2)),
  (130, tC w_X6_count 7 2),
  (133, tD (f_b2 fun x y => x + y)),
  (134, tD (f_ic (nI 6000) 3)),
  (137, tI2 (fun x y => ¬ x = y) 209),
  (140, tD (f_al 0 1)),
  (141, tD (f_ic (nI 1) 1)),
  (142, tC w_X6_count 7 2),
  (145, tD (f_il 2 1)),
  (146, tI2 (fun x y => ¬ x = y) 209),
  (149, tD (f_il 2 1)),
  (150, tD (f_al 0 1)),
  (151, tD (f_ic (nI 2) 1)),
  (152, tC w_X6_count 7 2),
  (155, tD (f_al 0 1)),
  (156, tD (f_ic (nI 6) 2)),
  (158, tC w_X6_count 7 2),
  (161, tD (f_b2 fun x y => x + y)),
  (162, tD (f_al 0 1)),
  (163, tD (f_ic (nI 3) 1)),
  (164, tC w_X6_count 7 2),
  (167, tD (f_b2 fun x y => x - y)),
  (168, tI2 (fun x y => ¬ x = y) 209),
  (171, tD (f_al 0 1)),
  (172, tD (f_ic (nI 5) 1)),
  (173, tC w_X6_count 7 2),
  (176, tD (f_al 0 1)),
  (177, tD (f_ic (nI 6) 2)),
  (179, tC w_X6_count 7 2),
  (182, tD (f_b2 fun x y => x + y)),
  (183, tD (f_ic (nI 500) 3)),
  (186, tI2 (fun x y => ¬ x = y) 209),
  (189, tD (f_al 0 1)),
  (190, tD (f_ic (nI 1) 1)),
  (191, tC w_L_orders 0 2),
  (194, tI1 (fun x => x = 0) 209),
  (197, tD (f_al 0 1)),
  (198, tD (f_ic (nI 0) 1)),
  (199, tC w_L_orders 0 2),
  (202, tI1 (fun x => x = 0) 209),
  (205, tD (f_ic (nI 1) 1)),
  (206, tD (f_goto 210)),
  (209, tD (f_ic (nI 0) 1)),
  (210, tR f_zret)]
abbrev w_L_sums : mS := wm m_L_sums 1 3
set_option maxRecDepth 100000 in
theorem lo_L_sums : locs_ok m_L_sums := List.forall_mem_cons.mpr ⟨loc_D mo_ic,
  List.forall_mem_cons.mpr ⟨loc_D mo_is,
  List.forall_mem_cons.mpr ⟨loc_D mo_ic,
  List.forall_mem_cons.mpr ⟨loc_D mo_is,
  List.forall_mem_cons.mpr ⟨loc_D mo_ic,
  List.forall_mem_cons.mpr ⟨loc_D mo_is,
  List.forall_mem_cons.mpr ⟨loc_D mo_il,
  List.forall_mem_cons.mpr ⟨loc_D mo_ic,
  List.forall_mem_cons.mpr ⟨loc_I2,
  List.forall_mem_cons.mpr ⟨loc_D mo_al,
  List.forall_mem_cons.mpr ⟨loc_D mo_il,
  List.forall_mem_cons.mpr ⟨loc_C sm_L_kiln.1,
  List.forall_mem_cons.mpr ⟨loc_I1,
  List.forall_mem_cons.mpr ⟨loc_D mo_ic,
  List.forall_mem_cons.mpr ⟨loc_R,
  List.forall_mem_cons.mpr ⟨loc_D mo_il,
  List.forall_mem_cons.mpr ⟨loc_D mo_al,
  List.forall_mem_cons.mpr ⟨loc_D mo_il,
  List.forall_mem_cons.mpr ⟨loc_D mo_ic,
  List.forall_mem_cons.mpr ⟨loc_C sm_X6_kiln.1,
  List.forall_mem_cons.mpr ⟨loc_D mo_al,
  List.forall_mem_cons.mpr ⟨loc_D mo_il,
  List.forall_mem_cons.mpr ⟨loc_D mo_ic,
  List.forall_mem_cons.mpr ⟨loc_C sm_X6_kiln.1,
  List.forall_mem_cons.mpr ⟨loc_D mo_b2,
  List.forall_mem_cons.mpr ⟨loc_D mo_b2,
  List.forall_mem_cons.mpr ⟨loc_D mo_is,
  List.forall_mem_cons.mpr ⟨loc_D mo_il,
  List.forall_mem_cons.mpr ⟨loc_D mo_al,
  List.forall_mem_cons.mpr ⟨loc_D mo_il,
  List.forall_mem_cons.mpr ⟨loc_D mo_ic,
  List.forall_mem_cons.mpr ⟨loc_C sm_X6_kiln.1,
  List.forall_mem_cons.mpr ⟨loc_D mo_al,
  List.forall_mem_cons.mpr ⟨loc_D mo_il,
  List.forall_mem_cons.mpr ⟨loc_D mo_ic,
  List.forall_mem_cons.mpr ⟨loc_C sm_X6_kiln.1,
  List.forall_mem_cons.mpr ⟨loc_D mo_b2,
  List.forall_mem_cons.mpr ⟨loc_D mo_b2,
  List.forall_mem_cons.mpr ⟨loc_D mo_is,
  List.forall_mem_cons.mpr ⟨loc_D mo_inc,
  List.forall_mem_cons.mpr ⟨loc_D mo_goto,
  List.forall_mem_cons.mpr ⟨loc_D mo_al,
  List.forall_mem_cons.mpr ⟨loc_D mo_ic,
  List.forall_mem_cons.mpr ⟨loc_D mo_ic,
  List.forall_mem_cons.mpr ⟨loc_D mo_ic,
  List.forall_mem_cons.mpr ⟨loc_C sm_X6_order.1,
  List.forall_mem_cons.mpr ⟨loc_I1,
  List.forall_mem_cons.mpr ⟨loc_D mo_al,
  List.forall_mem_cons.mpr ⟨loc_D mo_ic,
  List.forall_mem_cons.mpr ⟨loc_D mo_ic,
  List.forall_mem_cons.mpr ⟨loc_D mo_ic,
  List.forall_mem_cons.mpr ⟨loc_C sm_X6_order.1,
  List.forall_mem_cons.mpr ⟨loc_I1,
  List.forall_mem_cons.mpr ⟨loc_D mo_al,
  List.forall_mem_cons.mpr ⟨loc_D mo_ic,
  List.forall_mem_cons.mpr ⟨loc_D mo_ic,
  List.forall_mem_cons.mpr ⟨loc_D mo_ic,
  List.forall_mem_cons.mpr ⟨loc_C sm_X6_order.1,
  List.forall_mem_cons.mpr ⟨loc_D mo_al,
  List.forall_mem_cons.mpr ⟨loc_D mo_ic,
  List.forall_mem_cons.mpr ⟨loc_D mo_ic,
  List.forall_mem_cons.mpr ⟨loc_D mo_ic,
  List.forall_mem_cons.mpr ⟨loc_C sm_X6_order.1,
  List.forall_mem_cons.mpr ⟨loc_I2,
  List.forall_mem_cons.mpr ⟨loc_D mo_ic,
  List.forall_mem_cons.mpr ⟨loc_D mo_goto,
  List.forall_mem_cons.mpr ⟨loc_D mo_ic,
  List.forall_mem_cons.mpr ⟨loc_D mo_is,
  List.forall_mem_cons.mpr ⟨loc_D mo_il,
  List.forall_mem_cons.mpr ⟨loc_I1,
  List.forall_mem_cons.mpr ⟨loc_D mo_al,
  List.forall_mem_cons.mpr ⟨loc_D mo_ic,
  List.forall_mem_cons.mpr ⟨loc_C sm_X6_count.1,
  List.forall_mem_cons.mpr ⟨loc_D mo_il,
  List.forall_mem_cons.mpr ⟨loc_I2,
  List.forall_mem_cons.mpr ⟨loc_D mo_il,
  List.forall_mem_cons.mpr ⟨loc_D mo_al,
  List.forall_mem_cons.mpr ⟨loc_D mo_ic,
  List.forall_mem_cons.mpr ⟨loc_C sm_X6_count.1,
  List.forall_mem_cons.mpr ⟨loc_D mo_b2,
  List.forall_mem_cons.mpr ⟨loc_D mo_al,
  List.forall_mem_cons.mpr ⟨loc_D mo_ic,
  List.forall_mem_cons.mpr ⟨loc_C sm_X6_count.1,
  List.forall_mem_cons.mpr ⟨loc_D mo_b2,
  List.forall_mem_cons.mpr ⟨loc_D mo_ic,
  List.forall_mem_cons.mpr ⟨loc_I2,
  List.forall_mem_cons.mpr ⟨loc_D mo_al,
  List.forall_mem_cons.mpr ⟨loc_D mo_ic,
  List.forall_mem_cons.mpr ⟨loc_C sm_X6_count.1,
  List.forall_mem_cons.mpr ⟨loc_D mo_il,
  List.forall_mem_cons.mpr ⟨loc_I2,
  List.forall_mem_cons.mpr ⟨loc_D mo_il,
  List.forall_mem_cons.mpr ⟨loc_D mo_al,
  List.forall_mem_cons.mpr ⟨loc_D mo_ic,
  List.forall_mem_cons.mpr ⟨loc_C sm_X6_count.1,
  List.forall_mem_cons.mpr ⟨loc_D mo_al,
  List.forall_mem_cons.mpr ⟨loc_D mo_ic,
  List.forall_mem_cons.mpr ⟨loc_C sm_X6_count.1,
  List.forall_mem_cons.mpr ⟨loc_D mo_b2,
  List.forall_mem_cons.mpr ⟨loc_D mo_al,
  List.forall_mem_cons.mpr ⟨loc_D mo_ic,
  List.forall_mem_cons.mpr ⟨loc_C sm_X6_count.1,
  List.forall_mem_cons.mpr ⟨loc_D mo_b2,
  List.forall_mem_cons.mpr ⟨loc_I2,
  List.forall_mem_cons.mpr ⟨loc_D mo_al,
  List.forall_mem_cons.mpr ⟨loc_D mo_ic,
  List.forall_mem_cons.mpr ⟨loc_C sm_X6_count.1,
  List.forall_mem_cons.mpr ⟨loc_D mo_al,
  List.forall_mem_cons.mpr ⟨loc_D mo_ic,
  List.forall_mem_cons.mpr ⟨loc_C sm_X6_count.1,
  List.forall_mem_cons.mpr ⟨loc_D mo_b2,
  List.forall_mem_cons.mpr ⟨loc_D mo_ic,
  List.forall_mem_cons.mpr ⟨loc_I2,
  List.forall_mem_cons.mpr ⟨loc_D mo_al,
  List.forall_mem_cons.mpr ⟨loc_D mo_ic,
  List.forall_mem_cons.mpr ⟨loc_C sm_L_orders.1,
  List.forall_mem_cons.mpr ⟨loc_I1,
  List.forall_mem_cons.mpr ⟨loc_D mo_al,
  List.forall_mem_cons.mpr ⟨loc_D mo_ic,
  List.forall_mem_cons.mpr ⟨loc_C sm_L_orders.1,
  List.forall_mem_cons.mpr ⟨loc_I1,
  List.forall_mem_cons.mpr ⟨loc_D mo_ic,
  List.forall_mem_cons.mpr ⟨loc_D mo_goto,
  List.forall_mem_cons.mpr ⟨loc_D mo_ic,
  List.forall_mem_cons.mpr ⟨loc_R,
  fun _ h => absurd h List.not_mem_nil⟩⟩⟩⟩⟩⟩⟩⟩⟩⟩⟩⟩⟩⟩⟩⟩⟩⟩⟩⟩⟩⟩⟩⟩⟩⟩⟩⟩⟩⟩⟩⟩⟩⟩⟩⟩⟩⟩⟩⟩⟩⟩⟩⟩⟩⟩⟩⟩⟩⟩⟩⟩⟩⟩⟩⟩⟩⟩⟩⟩⟩⟩⟩⟩⟩⟩⟩⟩⟩⟩⟩⟩⟩⟩⟩⟩⟩⟩⟩⟩⟩⟩⟩⟩⟩⟩⟩⟩⟩⟩⟩⟩⟩⟩⟩⟩⟩⟩⟩⟩⟩⟩⟩⟩⟩⟩⟩⟩⟩⟩⟩⟩⟩⟩⟩⟩⟩⟩⟩⟩⟩⟩⟩⟩⟩
set_option maxRecDepth 100000 in
theorem sm_L_sums : SM yL_sums cL_sums 4 (some .boolean) 6 w_L_sums := SM_of' RL "sums" rfl rfl (by decide) (by decide) (by decide) lo_L_sums (List.forall_mem_cons.mpr ⟨STP.r mo_ic (q_iconst dL_sums_0 (by decide)),
  List.forall_mem_cons.mpr ⟨STP.r mo_is (q_istore_n dL_sums_1 rfl),
  List.forall_mem_cons.mpr ⟨STP.r mo_ic (q_iconst dL_sums_2 (by decide)),
  List.forall_mem_cons.mpr ⟨STP.r mo_is (q_istore_n dL_sums_3 rfl),
  List.forall_mem_cons.mpr ⟨STP.r mo_ic (q_iconst dL_sums_4 (by decide)),
  List.forall_mem_cons.mpr ⟨STP.r mo_is (q_istore_n dL_sums_5 rfl),
  List.forall_mem_cons.mpr ⟨STP.r mo_il (q_iload_n dL_sums_6 rfl),
  List.forall_mem_cons.mpr ⟨STP.r mo_ic (q_bipush dL_sums_7 (by decide)),
  List.forall_mem_cons.mpr ⟨(q_ic_ge dL_sums_9 (by decide)).r,
  List.forall_mem_cons.mpr ⟨STP.r mo_al (q_aload_n dL_sums_12 rfl),
  List.forall_mem_cons.mpr ⟨STP.r mo_il (q_iload_n dL_sums_13 rfl),
  List.forall_mem_cons.mpr ⟨(snd_CS sm_L_kiln km_L_38 ks_L_kiln ki_L kx_L_kiln ⟨by decide, by decide, by decide +kernel⟩ (by decide) (by decide) dL_sums_14).r,
  List.forall_mem_cons.mpr ⟨(q_if_ne dL_sums_17 (by decide)).r,
  List.forall_mem_cons.mpr ⟨STP.r mo_ic (q_iconst dL_sums_20 (by decide)),
  List.forall_mem_cons.mpr ⟨r_zret dL_sums_21,
  List.forall_mem_cons.mpr ⟨STP.r mo_il (q_iload_n dL_sums_22 rfl),
  List.forall_mem_cons.mpr ⟨STP.r mo_al (q_aload_n dL_sums_23 rfl),
  List.forall_mem_cons.mpr ⟨STP.r mo_il (q_iload_n dL_sums_24 rfl),
  List.forall_mem_cons.mpr ⟨STP.r mo_ic (q_iconst dL_sums_25 (by decide)),
  List.forall_mem_cons.mpr ⟨(snd_CV sm_X6_kiln ⟨by decide, by decide⟩ rfl km_L_19 kt_X6_kiln kv_X6_kiln rfl ki_X6 kx_X6_kiln ⟨by decide, by decide, by decide +kernel⟩ (by decide) (by decide) dL_sums_26).r,
  List.forall_mem_cons.mpr ⟨STP.r mo_al (q_aload_n dL_sums_29 rfl),
  List.forall_mem_cons.mpr ⟨STP.r mo_il (q_iload_n dL_sums_30 rfl),
  List.forall_mem_cons.mpr ⟨STP.r mo_ic (q_bipush dL_sums_31 (by decide)),
  List.forall_mem_cons.mpr ⟨(snd_CV sm_X6_kiln ⟨by decide, by decide⟩ rfl km_L_19 kt_X6_kiln kv_X6_kiln rfl ki_X6 kx_X6_kiln ⟨by decide, by decide, by decide +kernel⟩ (by decide) (by decide) dL_sums_33).r,
  List.forall_mem_cons.mpr ⟨STP.r mo_b2 (q_iadd dL_sums_36),
  List.forall_mem_cons.mpr ⟨STP.r mo_b2 (q_iadd dL_sums_37),
  List.forall_mem_cons.mpr ⟨STP.r mo_is (q_istore_n dL_sums_38 rfl),
  List.forall_mem_cons.mpr ⟨STP.r mo_il (q_iload_n dL_sums_39 rfl),
  List.forall_mem_cons.mpr ⟨STP.r mo_al (q_aload_n dL_sums_40 rfl),
  List.forall_mem_cons.mpr ⟨STP.r mo_il (q_iload_n dL_sums_41 rfl),
  List.forall_mem_cons.mpr ⟨STP.r mo_ic (q_iconst dL_sums_42 (by decide)),
  List.forall_mem_cons.mpr ⟨(snd_CV sm_X6_kiln ⟨by decide, by decide⟩ rfl km_L_19 kt_X6_kiln kv_X6_kiln rfl ki_X6 kx_X6_kiln ⟨by decide, by decide, by decide +kernel⟩ (by decide) (by decide) dL_sums_43).r,
  List.forall_mem_cons.mpr ⟨STP.r mo_al (q_aload_n dL_sums_46 rfl),
  List.forall_mem_cons.mpr ⟨STP.r mo_il (q_iload_n dL_sums_47 rfl),
  List.forall_mem_cons.mpr ⟨STP.r mo_ic (q_bipush dL_sums_48 (by decide)),
  List.forall_mem_cons.mpr ⟨(snd_CV sm_X6_kiln ⟨by decide, by decide⟩ rfl km_L_19 kt_X6_kiln kv_X6_kiln rfl ki_X6 kx_X6_kiln ⟨by decide, by decide, by decide +kernel⟩ (by decide) (by decide) dL_sums_50).r,
  List.forall_mem_cons.mpr ⟨STP.r mo_b2 (q_iadd dL_sums_53),
  List.forall_mem_cons.mpr ⟨STP.r mo_b2 (q_iadd dL_sums_54),
  List.forall_mem_cons.mpr ⟨STP.r mo_is (q_istore_n dL_sums_55 rfl),
  List.forall_mem_cons.mpr ⟨STP.r mo_inc (q_inc dL_sums_56 (by decide)),
  List.forall_mem_cons.mpr ⟨STP.r mo_goto (q_goto dL_sums_59 (by decide)),
  List.forall_mem_cons.mpr ⟨STP.r mo_al (q_aload_n dL_sums_62 rfl),
  List.forall_mem_cons.mpr ⟨STP.r mo_ic (q_iconst dL_sums_63 (by decide)),
  List.forall_mem_cons.mpr ⟨STP.r mo_ic (q_iconst dL_sums_64 (by decide)),
  List.forall_mem_cons.mpr ⟨STP.r mo_ic (q_iconst dL_sums_65 (by decide)),
  List.forall_mem_cons.mpr ⟨(snd_CV sm_X6_order ⟨by decide, by decide⟩ rfl km_L_30 kt_X6_order kv_X6_order rfl ki_X6 kx_X6_order ⟨by decide, by decide, by decide +kernel⟩ (by decide) (by decide) dL_sums_66).r,
  List.forall_mem_cons.mpr ⟨(q_if_lt dL_sums_69 (by decide)).r,
  List.forall_mem_cons.mpr ⟨STP.r mo_al (q_aload_n dL_sums_72 rfl),
  List.forall_mem_cons.mpr ⟨STP.r mo_ic (q_iconst dL_sums_73 (by decide)),
  List.forall_mem_cons.mpr ⟨STP.r mo_ic (q_iconst dL_sums_74 (by decide)),
  List.forall_mem_cons.mpr ⟨STP.r mo_ic (q_iconst dL_sums_75 (by decide)),
  List.forall_mem_cons.mpr ⟨(snd_CV sm_X6_order ⟨by decide, by decide⟩ rfl km_L_30 kt_X6_order kv_X6_order rfl ki_X6 kx_X6_order ⟨by decide, by decide, by decide +kernel⟩ (by decide) (by decide) dL_sums_76).r,
  List.forall_mem_cons.mpr ⟨(q_if_lt dL_sums_79 (by decide)).r,
  List.forall_mem_cons.mpr ⟨STP.r mo_al (q_aload_n dL_sums_82 rfl),
  List.forall_mem_cons.mpr ⟨STP.r mo_ic (q_iconst dL_sums_83 (by decide)),
  List.forall_mem_cons.mpr ⟨STP.r mo_ic (q_iconst dL_sums_84 (by decide)),
  List.forall_mem_cons.mpr ⟨STP.r mo_ic (q_iconst dL_sums_85 (by decide)),
  List.forall_mem_cons.mpr ⟨(snd_CV sm_X6_order ⟨by decide, by decide⟩ rfl km_L_30 kt_X6_order kv_X6_order rfl ki_X6 kx_X6_order ⟨by decide, by decide, by decide +kernel⟩ (by decide) (by decide) dL_sums_86).r,
  List.forall_mem_cons.mpr ⟨STP.r mo_al (q_aload_n dL_sums_89 rfl),
  List.forall_mem_cons.mpr ⟨STP.r mo_ic (q_iconst dL_sums_90 (by decide)),
  List.forall_mem_cons.mpr ⟨STP.r mo_ic (q_iconst dL_sums_91 (by decide)),
  List.forall_mem_cons.mpr ⟨STP.r mo_ic (q_iconst dL_sums_92 (by decide)),
  List.forall_mem_cons.mpr ⟨(snd_CV sm_X6_order ⟨by decide, by decide⟩ rfl km_L_30 kt_X6_order kv_X6_order rfl ki_X6 kx_X6_order ⟨by decide, by decide, by decide +kernel⟩ (by decide) (by decide) dL_sums_93).r,
  List.forall_mem_cons.mpr ⟨(q_ic_lt dL_sums_96 (by decide)).r,
  List.forall_mem_cons.mpr ⟨STP.r mo_ic (q_iconst dL_sums_99 (by decide)),
  List.forall_mem_cons.mpr ⟨STP.r mo_goto (q_goto dL_sums_100 (by decide)),
  List.forall_mem_cons.mpr ⟨STP.r mo_ic (q_iconst dL_sums_103 (by decide)),
  List.forall_mem_cons.mpr ⟨STP.r mo_is (q_istore_n dL_sums_104 rfl),
  List.forall_mem_cons.mpr ⟨STP.r mo_il (q_iload_n dL_sums_105 rfl),
  List.forall_mem_cons.mpr ⟨(q_if_ne dL_sums_106 (by decide)).r,
  List.forall_mem_cons.mpr ⟨STP.r mo_al (q_aload_n dL_sums_109 rfl),
  List.forall_mem_cons.mpr ⟨STP.r mo_ic (q_bipush dL_sums_110 (by decide)),
  List.forall_mem_cons.mpr ⟨(snd_CV sm_X6_count ⟨by decide, by decide⟩ rfl km_L_13 kt_X6_count kv_X6_count rfl ki_X6 kx_X6_count ⟨by decide, by decide, by decide +kernel⟩ (by decide) (by decide) dL_sums_112).r,
  List.forall_mem_cons.mpr ⟨STP.r mo_il (q_iload_n dL_sums_115 rfl),
  List.forall_mem_cons.mpr ⟨(q_ic_ne dL_sums_116 (by decide)).r,
  List.forall_mem_cons.mpr ⟨STP.r mo_il (q_iload_n dL_sums_119 rfl),
  List.forall_mem_cons.mpr ⟨STP.r mo_al (q_aload_n dL_sums_120 rfl),
  List.forall_mem_cons.mpr ⟨STP.r mo_ic (q_bipush dL_sums_121 (by decide)),
  List.forall_mem_cons.mpr ⟨(snd_CV sm_X6_count ⟨by decide, by decide⟩ rfl km_L_13 kt_X6_count kv_X6_count rfl ki_X6 kx_X6_count ⟨by decide, by decide, by decide +kernel⟩ (by decide) (by decide) dL_sums_123).r,
  List.forall_mem_cons.mpr ⟨STP.r mo_b2 (q_iadd dL_sums_126),
  List.forall_mem_cons.mpr ⟨STP.r mo_al (q_aload_n dL_sums_127 rfl),
  List.forall_mem_cons.mpr ⟨STP.r mo_ic (q_bipush dL_sums_128 (by decide)),
  List.forall_mem_cons.mpr ⟨(snd_CV sm_X6_count ⟨by decide, by decide⟩ rfl km_L_13 kt_X6_count kv_X6_count rfl ki_X6 kx_X6_count ⟨by decide, by decide, by decide +kernel⟩ (by decide) (by decide) dL_sums_130).r,
  List.forall_mem_cons.mpr ⟨STP.r mo_b2 (q_iadd dL_sums_133),
  List.forall_mem_cons.mpr ⟨STP.r mo_ic (q_sipush dL_sums_134 (by decide)),
  List.forall_mem_cons.mpr ⟨(q_ic_ne dL_sums_137 (by decide)).r,
  List.forall_mem_cons.mpr ⟨STP.r mo_al (q_aload_n dL_sums_140 rfl),
  List.forall_mem_cons.mpr ⟨STP.r mo_ic (q_iconst dL_sums_141 (by decide)),
  List.forall_mem_cons.mpr ⟨(snd_CV sm_X6_count ⟨by decide, by decide⟩ rfl km_L_13 kt_X6_count kv_X6_count rfl ki_X6 kx_X6_count ⟨by decide, by decide, by decide +kernel⟩ (by decide) (by decide) dL_sums_142).r,
  List.forall_mem_cons.mpr ⟨STP.r mo_il (q_iload_n dL_sums_145 rfl),
  List.forall_mem_cons.mpr ⟨(q_ic_ne dL_sums_146 (by decide)).r,
  List.forall_mem_cons.mpr ⟨STP.r mo_il (q_iload_n dL_sums_149 rfl),
  List.forall_mem_cons.mpr ⟨STP.r mo_al (q_aload_n dL_sums_150 rfl),
  List.forall_mem_cons.mpr ⟨STP.r mo_ic (q_iconst dL_sums_151 (by decide)),
  List.forall_mem_cons.mpr ⟨(snd_CV sm_X6_count ⟨by decide, by decide⟩ rfl km_L_13 kt_X6_count kv_X6_count rfl ki_X6 kx_X6_count ⟨by decide, by decide, by decide +kernel⟩ (by decide) (by decide) dL_sums_152).r,
  List.forall_mem_cons.mpr ⟨STP.r mo_al (q_aload_n dL_sums_155 rfl),
  List.forall_mem_cons.mpr ⟨STP.r mo_ic (q_bipush dL_sums_156 (by decide)),
  List.forall_mem_cons.mpr ⟨(snd_CV sm_X6_count ⟨by decide, by decide⟩ rfl km_L_13 kt_X6_count kv_X6_count rfl ki_X6 kx_X6_count ⟨by decide, by decide, by decide +kernel⟩ (by decide) (by decide) dL_sums_158).r,
  List.forall_mem_cons.mpr ⟨STP.r mo_b2 (q_iadd dL_sums_161),
  List.forall_mem_cons.mpr ⟨STP.r mo_al (q_aload_n dL_sums_162 rfl),
  List.forall_mem_cons.mpr ⟨STP.r mo_ic (q_iconst dL_sums_163 (by decide)),
  List.forall_mem_cons.mpr ⟨(snd_CV sm_X6_count ⟨by decide, by decide⟩ rfl km_L_13 kt_X6_count kv_X6_count rfl ki_X6 kx_X6_count ⟨by decide, by decide, by decide +kernel⟩ (by decide) (by decide) dL_sums_164).r,
  List.forall_mem_cons.mpr ⟨STP.r mo_b2 (q_isub dL_sums_167),
  List.forall_mem_cons.mpr ⟨(q_ic_ne dL_sums_168 (by decide)).r,
  List.forall_mem_cons.mpr ⟨STP.r mo_al (q_aload_n dL_sums_171 rfl),
  List.forall_mem_cons.mpr ⟨STP.r mo_ic (q_iconst dL_sums_172 (by decide)),
  List.forall_mem_cons.mpr ⟨(snd_CV sm_X6_count ⟨by decide, by decide⟩ rfl km_L_13 kt_X6_count kv_X6_count rfl ki_X6 kx_X6_count ⟨by decide, by decide, by decide +kernel⟩ (by decide) (by decide) dL_sums_173).r,
  List.forall_mem_cons.mpr ⟨STP.r mo_al (q_aload_n dL_sums_176 rfl),
  List.forall_mem_cons.mpr ⟨STP.r mo_ic (q_bipush dL_sums_177 (by decide)),
  List.forall_mem_cons.mpr ⟨(snd_CV sm_X6_count ⟨by decide, by decide⟩ rfl km_L_13 kt_X6_count kv_X6_count rfl ki_X6 kx_X6_count ⟨by decide, by decide, by decide +kernel⟩ (by decide) (by decide) dL_sums_179).r,
  List.forall_mem_cons.mpr ⟨STP.r mo_b2 (q_iadd dL_sums_182),
  List.forall_mem_cons.mpr ⟨STP.r mo_ic (q_sipush dL_sums_183 (by decide)),
  List.forall_mem_cons.mpr ⟨(q_ic_ne dL_sums_186 (by decide)).r,
  List.forall_mem_cons.mpr ⟨STP.r mo_al (q_aload_n dL_sums_189 rfl),
  List.forall_mem_cons.mpr ⟨STP.r mo_ic (q_iconst dL_sums_190 (by decide)),
  List.forall_mem_cons.mpr ⟨(snd_CS sm_L_orders km_L_43 ks_L_orders ki_L kx_L_orders ⟨by decide, by decide, by decide +kernel⟩ (by decide) (by decide) dL_sums_191).r,
  List.forall_mem_cons.mpr ⟨(q_if_eq dL_sums_194 (by decide)).r,
  List.forall_mem_cons.mpr ⟨STP.r mo_al (q_aload_n dL_sums_197 rfl),
  List.forall_mem_cons.mpr ⟨STP.r mo_ic (q_iconst dL_sums_198 (by decide)),
  List.forall_mem_cons.mpr ⟨(snd_CS sm_L_orders km_L_43 ks_L_orders ki_L kx_L_orders ⟨by decide, by decide, by decide +kernel⟩ (by decide) (by decide) dL_sums_199).r,
  List.forall_mem_cons.mpr ⟨(q_if_eq dL_sums_202 (by decide)).r,
  List.forall_mem_cons.mpr ⟨STP.r mo_ic (q_iconst dL_sums_205 (by decide)),
  List.forall_mem_cons.mpr ⟨STP.r mo_goto (q_goto dL_sums_206 (by decide)),
  List.forall_mem_cons.mpr ⟨STP.r mo_ic (q_iconst dL_sums_209 (by decide)),
  List.forall_mem_cons.mpr ⟨r_zret dL_sums_210,
  fun _ h => absurd h List.not_mem_nil⟩⟩⟩⟩⟩⟩⟩⟩⟩⟩⟩⟩⟩⟩⟩⟩⟩⟩⟩⟩⟩⟩⟩⟩⟩⟩⟩⟩⟩⟩⟩⟩⟩⟩⟩⟩⟩⟩⟩⟩⟩⟩⟩⟩⟩⟩⟩⟩⟩⟩⟩⟩⟩⟩⟩⟩⟩⟩⟩⟩⟩⟩⟩⟩⟩⟩⟩⟩⟩⟩⟩⟩⟩⟩⟩⟩⟩⟩⟩⟩⟩⟩⟩⟩⟩⟩⟩⟩⟩⟩⟩⟩⟩⟩⟩⟩⟩⟩⟩⟩⟩⟩⟩⟩⟩⟩⟩⟩⟩⟩⟩⟩⟩⟩⟩⟩⟩⟩⟩⟩⟩⟩⟩⟩⟩)
set_option maxRecDepth 100000 in
theorem e_L_sums_0 {Q : mQ} {ls st : List Value} {g : mG} : WP m_L_sums Q 0 ls st g = WP m_L_sums Q 1 ls (.int (nI 0) :: st) g := E_ic (v := nI 0) (n := 1) lo_L_sums rfl
set_option maxRecDepth 100000 in
theorem e_L_sums_1 {Q : mQ} {l0 l1 l2 l3 : Value} {st : List Value} {g : mG} {x : Int32} : WP m_L_sums Q 1 [l0, l1, l2, l3] (.int x :: st) g = (nl1 l0 ∧ WP m_L_sums Q 2 [l0, .int x, l2, l3] st g) := E_is (i := 1) (n := 1) lo_L_sums rfl (Nat.le_of_ble_eq_true rfl)
set_option maxRecDepth 100000 in
theorem e_L_sums_2 {Q : mQ} {ls st : List Value} {g : mG} : WP m_L_sums Q 2 ls st g = WP m_L_sums Q 3 ls (.int (nI 0) :: st) g := E_ic (v := nI 0) (n := 1) lo_L_sums rfl
set_option maxRecDepth 100000 in
theorem e_L_sums_3 {Q : mQ} {l0 l1 l2 l3 : Value} {st : List Value} {g : mG} {x : Int32} : WP m_L_sums Q 3 [l0, l1, l2, l3] (.int x :: st) g = (nl1 l1 ∧ WP m_L_sums Q 4 [l0, l1, .int x, l3] st g) := E_is (i := 2) (n := 1) lo_L_sums rfl (Nat.le_of_ble_eq_true rfl)
set_option maxRecDepth 100000 in
theorem e_L_sums_4 {Q : mQ} {ls st : List Value} {g : mG} : WP m_L_sums Q 4 ls st g = WP m_L_sums Q 5 ls (.int (nI 0) :: st) g := E_ic (v := nI 0) (n := 1) lo_L_sums rfl
set_option maxRecDepth 100000 in
theorem e_L_sums_5 {Q : mQ} {l0 l1 l2 l3 : Value} {st : List Value} {g : mG} {x : Int32} : WP m_L_sums Q 5 [l0, l1, l2, l3] (.int x :: st) g = (nl1 l2 ∧ WP m_L_sums Q 6 [l0, l1, l2, .int x] st g) := E_is (i := 3) (n := 1) lo_L_sums rfl (Nat.le_of_ble_eq_true rfl)
set_option maxRecDepth 100000 in
theorem e_L_sums_6 {Q : mQ} {l0 l1 l2 : Value} {st : List Value} {g : mG} {x : Int32} : WP m_L_sums Q 6 [l0, l1, l2, .int x] st g = WP m_L_sums Q 7 [l0, l1, l2, .int x] (.int x :: st) g := E_il (i := 3) (n := 1) lo_L_sums rfl rfl
set_option maxRecDepth 100000 in
theorem e_L_sums_7 {Q : mQ} {ls st : List Value} {g : mG} : WP m_L_sums Q 7 ls st g = WP m_L_sums Q 9 ls (.int (nI 6) :: st) g := E_ic (v := nI 6) (n := 2) lo_L_sums rfl
set_option maxRecDepth 100000 in
theorem e_L_sums_9 {Q : mQ} {ls st : List Value} {g : mG} {x y : Int32} : WP m_L_sums Q 9 ls (.int y :: .int x :: st) g = ((y ≤ x → WP m_L_sums Q 62 ls st g) ∧ (¬ (y ≤ x) → WP m_L_sums Q 12 ls st g)) := E_I2 (c := fun x y => y ≤ x) (t := 62) lo_L_sums rfl
set_option maxRecDepth 100000 in
theorem e_L_sums_12 {Q : mQ} {l1 l2 l3 : Value} {st : List Value} {g : mG} {x : Nat} : WP m_L_sums Q 12 [.ref x, l1, l2, l3] st g = WP m_L_sums Q 13 [.ref x, l1, l2, l3] (.ref x :: st) g := E_al (i := 0) (n := 1) lo_L_sums rfl rfl
set_option maxRecDepth 100000 in
theorem e_L_sums_12n {Q : mQ} {l1 l2 l3 : Value} {st : List Value} {g : mG} : WP m_L_sums Q 12 [.null, l1, l2, l3] st g = WP m_L_sums Q 13 [.null, l1, l2, l3] (.null :: st) g := E_aln (i := 0) (n := 1) lo_L_sums rfl rfl
set_option maxRecDepth 100000 in
theorem e_L_sums_13 {Q : mQ} {l0 l1 l2 : Value} {st : List Value} {g : mG} {x : Int32} : WP m_L_sums Q 13 [l0, l1, l2, .int x] st g = WP m_L_sums Q 14 [l0, l1, l2, .int x] (.int x :: st) g := E_il (i := 3) (n := 1) lo_L_sums rfl rfl
set_option maxRecDepth 100000 in
theorem e_L_sums_14 {Q : mQ} {ls st : List Value} {g : mG} {a0 a1 : Value} : WP m_L_sums Q 14 ls (a1 :: a0 :: st) g = (st.length ≤ 4 ∧ stbs g ls ∧ stbs g st ∧ w_L_kiln [a0, a1] g (fun v g' => WP m_L_sums Q 17 ls (v.toList ++ st) g')) := E_CS (ar := [a1, a0]) lo_L_sums rfl rfl rfl
set_option maxRecDepth 100000 in
theorem e_L_sums_17 {Q : mQ} {ls st : List Value} {g : mG} {x : Int32} : WP m_L_sums Q 17 ls (.int x :: st) g = ((¬ x = 0 → WP m_L_sums Q 22 ls st g) ∧ (¬ (¬ x = 0) → WP m_L_sums Q 20 ls st g)) := E_I1 (c := fun x => ¬ x = 0) (t := 22) lo_L_sums rfl
set_option maxRecDepth 100000 in
theorem e_L_sums_20 {Q : mQ} {ls st : List Value} {g : mG} : WP m_L_sums Q 20 ls st g = WP m_L_sums Q 21 ls (.int (nI 0) :: st) g := E_ic (v := nI 0) (n := 1) lo_L_sums rfl
set_option maxRecDepth 100000 in
theorem e_L_sums_21 {Q : mQ} {ls : List Value} {g : mG} {v : Int32} : WP m_L_sums Q 21 ls [.int v] g = ((v = 0 ∨ v = 1) ∧ Q (some (.int v)) g) := E_zret lo_L_sums rfl
set_option maxRecDepth 100000 in
theorem e_L_sums_22 {Q : mQ} {l0 l2 l3 : Value} {st : List Value} {g : mG} {x : Int32} : WP m_L_sums Q 22 [l0, .int x, l2, l3] st g = WP m_L_sums Q 23 [l0, .int x, l2, l3] (.int x :: st) g := E_il (i := 1) (n := 1) lo_L_sums rfl rfl
set_option maxRecDepth 100000 in
theorem e_L_sums_23 {Q : mQ} {l1 l2 l3 : Value} {st : List Value} {g : mG} {x : Nat} : WP m_L_sums Q 23 [.ref x, l1, l2, l3] st g = WP m_L_sums Q 24 [.ref x, l1, l2, l3] (.ref x :: st) g := E_al (i := 0) (n := 1) lo_L_sums rfl rfl
set_option maxRecDepth 100000 in
theorem e_L_sums_23n {Q : mQ} {l1 l2 l3 : Value} {st : List Value} {g : mG} : WP m_L_sums Q 23 [.null, l1, l2, l3] st g = WP m_L_sums Q 24 [.null, l1, l2, l3] (.null :: st) g := E_aln (i := 0) (n := 1) lo_L_sums rfl rfl
set_option maxRecDepth 100000 in
theorem e_L_sums_24 {Q : mQ} {l0 l1 l2 : Value} {st : List Value} {g : mG} {x : Int32} : WP m_L_sums Q 24 [l0, l1, l2, .int x] st g = WP m_L_sums Q 25 [l0, l1, l2, .int x] (.int x :: st) g := E_il (i := 3) (n := 1) lo_L_sums rfl rfl
set_option maxRecDepth 100000 in
theorem e_L_sums_25 {Q : mQ} {ls st : List Value} {g : mG} : WP m_L_sums Q 25 ls st g = WP m_L_sums Q 26 ls (.int (nI 0) :: st) g := E_ic (v := nI 0) (n := 1) lo_L_sums rfl
set_option maxRecDepth 100000 in
theorem e_L_sums_26 {Q : mQ} {ls st : List Value} {g : mG} {b : Nat} {a0 a1 : Value} : WP m_L_sums Q 26 ls (a1 :: a0 :: .ref b :: st) g = (st.length ≤ 4 ∧ gK g b = 7 ∧ stbs g ls ∧ stbs g st ∧ w_X6_kiln [.ref b, a0, a1] g (fun v g' => WP m_L_sums Q 29 ls (v.toList ++ st) g')) := E_CV (ar := [a1, a0, .ref b]) lo_L_sums rfl rfl rfl (by decide)
set_option maxRecDepth 100000 in
theorem e_L_sums_29 {Q : mQ} {l1 l2 l3 : Value} {st : List Value} {g : mG} {x : Nat} : WP m_L_sums Q 29 [.ref x, l1, l2, l3] st g = WP m_L_sums Q 30 [.ref x, l1, l2, l3] (.ref x :: st) g := E_al (i := 0) (n := 1) lo_L_sums rfl rfl
set_option maxRecDepth 100000 in
theorem e_L_sums_29n {Q : mQ} {l1 l2 l3 : Value} {st : List Value} {g : mG} : WP m_L_sums Q 29 [.null, l1, l2, l3] st g = WP m_L_sums Q 30 [.null, l1, l2, l3] (.null :: st) g := E_aln (i := 0) (n := 1) lo_L_sums rfl rfl
set_option maxRecDepth 100000 in
theorem e_L_sums_30 {Q : mQ} {l0 l1 l2 : Value} {st : List Value} {g : mG} {x : Int32} : WP m_L_sums Q 30 [l0, l1, l2, .int x] st g = WP m_L_sums Q 31 [l0, l1, l2, .int x] (.int x :: st) g := E_il (i := 3) (n := 1) lo_L_sums rfl rfl
set_option maxRecDepth 100000 in
theorem e_L_sums_31 {Q : mQ} {ls st : List Value} {g : mG} : WP m_L_sums Q 31 ls st g = WP m_L_sums Q 33 ls (.int (nI 11) :: st) g := E_ic (v := nI 11) (n := 2) lo_L_sums rfl
set_option maxRecDepth 100000 in
theorem e_L_sums_33 {Q : mQ} {ls st : List Value} {g : mG} {b : Nat} {a0 a1 : Value} : WP m_L_sums Q 33 ls (a1 :: a0 :: .ref b :: st) g = (st.length ≤ 4 ∧ gK g b = 7 ∧ stbs g ls ∧ stbs g st ∧ w_X6_kiln [.ref b, a0, a1] g (fun v g' => WP m_L_sums Q 36 ls (v.toList ++ st) g')) := E_CV (ar := [a1, a0, .ref b]) lo_L_sums rfl rfl rfl (by decide)
set_option maxRecDepth 100000 in
theorem e_L_sums_36 {Q : mQ} {ls st : List Value} {g : mG} {x y : Int32} : WP m_L_sums Q 36 ls (.int y :: .int x :: st) g = WP m_L_sums Q 37 ls (.int (x + y) :: st) g := E_b2 (f := fun x y => x + y) lo_L_sums rfl
set_option maxRecDepth 100000 in
theorem e_L_sums_37 {Q : mQ} {ls st : List Value} {g : mG} {x y : Int32} : WP m_L_sums Q 37 ls (.int y :: .int x :: st) g = WP m_L_sums Q 38 ls (.int (x + y) :: st) g := E_b2 (f := fun x y => x + y) lo_L_sums rfl
set_option maxRecDepth 100000 in
theorem e_L_sums_38 {Q : mQ} {l0 l1 l2 l3 : Value} {st : List Value} {g : mG} {x : Int32} : WP m_L_sums Q 38 [l0, l1, l2, l3] (.int x :: st) g = (nl1 l0 ∧ WP m_L_sums Q 39 [l0, .int x, l2, l3] st g) := E_is (i := 1) (n := 1) lo_L_sums rfl (Nat.le_of_ble_eq_true rfl)
set_option maxRecDepth 100000 in
theorem e_L_sums_39 {Q : mQ} {l0 l1 l3 : Value} {st : List Value} {g : mG} {x : Int32} : WP m_L_sums Q 39 [l0, l1, .int x, l3] st g = WP m_L_sums Q 40 [l0, l1, .int x, l3] (.int x :: st) g := E_il (i := 2) (n := 1) lo_L_sums rfl rfl
set_option maxRecDepth 100000 in
theorem e_L_sums_40 {Q : mQ} {l1 l2 l3 : Value} {st : List Value} {g : mG} {x : Nat} : WP m_L_sums Q 40 [.ref x, l1, l2, l3] st g = WP m_L_sums Q 41 [.ref x, l1, l2, l3] (.ref x :: st) g := E_al (i := 0) (n := 1) lo_L_sums rfl rfl
set_option maxRecDepth 100000 in
theorem e_L_sums_40n {Q : mQ} {l1 l2 l3 : Value} {st : List Value} {g : mG} : WP m_L_sums Q 40 [.null, l1, l2, l3] st g = WP m_L_sums Q 41 [.null, l1, l2, l3] (.null :: st) g := E_aln (i := 0) (n := 1) lo_L_sums rfl rfl
set_option maxRecDepth 100000 in
theorem e_L_sums_41 {Q : mQ} {l0 l1 l2 : Value} {st : List Value} {g : mG} {x : Int32} : WP m_L_sums Q 41 [l0, l1, l2, .int x] st g = WP m_L_sums Q 42 [l0, l1, l2, .int x] (.int x :: st) g := E_il (i := 3) (n := 1) lo_L_sums rfl rfl
set_option maxRecDepth 100000 in
theorem e_L_sums_42 {Q : mQ} {ls st : List Value} {g : mG} : WP m_L_sums Q 42 ls st g = WP m_L_sums Q 43 ls (.int (nI 1) :: st) g := E_ic (v := nI 1) (n := 1) lo_L_sums rfl
set_option maxRecDepth 100000 in
theorem e_L_sums_43 {Q : mQ} {ls st : List Value} {g : mG} {b : Nat} {a0 a1 : Value} : WP m_L_sums Q 43 ls (a1 :: a0 :: .ref b :: st) g = (st.length ≤ 4 ∧ gK g b = 7 ∧ stbs g ls ∧ stbs g st ∧ w_X6_kiln [.ref b, a0, a1] g (fun v g' => WP m_L_sums Q 46 ls (v.toList ++ st) g')) := E_CV (ar := [a1, a0, .ref b]) lo_L_sums rfl rfl rfl (by decide)
set_option maxRecDepth 100000 in
theorem e_L_sums_46 {Q : mQ} {l1 l2 l3 : Value} {st : List Value} {g : mG} {x : Nat} : WP m_L_sums Q 46 [.ref x, l1, l2, l3] st g = WP m_L_sums Q 47 [.ref x, l1, l2, l3] (.ref x :: st) g := E_al (i := 0) (n := 1) lo_L_sums rfl rfl
set_option maxRecDepth 100000 in
theorem e_L_sums_46n {Q : mQ} {l1 l2 l3 : Value} {st : List Value} {g : mG} : WP m_L_sums Q 46 [.null, l1, l2, l3] st g = WP m_L_sums Q 47 [.null, l1, l2, l3] (.null :: st) g := E_aln (i := 0) (n := 1) lo_L_sums rfl rfl
set_option maxRecDepth 100000 in
theorem e_L_sums_47 {Q : mQ} {l0 l1 l2 : Value} {st : List Value} {g : mG} {x : Int32} : WP m_L_sums Q 47 [l0, l1, l2, .int x] st g = WP m_L_sums Q 48 [l0, l1, l2, .int x] (.int x :: st) g := E_il (i := 3) (n := 1) lo_L_sums rfl rfl
set_option maxRecDepth 100000 in
theorem e_L_sums_48 {Q : mQ} {ls st : List Value} {g : mG} : WP m_L_sums Q 48 ls st g = WP m_L_sums Q 50 ls (.int (nI 10) :: st) g := E_ic (v := nI 10) (n := 2) lo_L_sums rfl
set_option maxRecDepth 100000 in
theorem e_L_sums_50 {Q : mQ} {ls st : List Value} {g : mG} {b : Nat} {a0 a1 : Value} : WP m_L_sums Q 50 ls (a1 :: a0 :: .ref b :: st) g = (st.length ≤ 4 ∧ gK g b = 7 ∧ stbs g ls ∧ stbs g st ∧ w_X6_kiln [.ref b, a0, a1] g (fun v g' => WP m_L_sums Q 53 ls (v.toList ++ st) g')) := E_CV (ar := [a1, a0, .ref b]) lo_L_sums rfl rfl rfl (by decide)
set_option maxRecDepth 100000 in
theorem e_L_sums_53 {Q : mQ} {ls st : List Value} {g : mG} {x y : Int32} : WP m_L_sums Q 53 ls (.int y :: .int x :: st) g = WP m_L_sums Q 54 ls (.int (x + y) :: st) g := E_b2 (f := fun x y => x + y) lo_L_sums rfl
set_option maxRecDepth 100000 in
theorem e_L_sums_54 {Q : mQ} {ls st : List Value} {g : mG} {x y : Int32} : WP m_L_sums Q 54 ls (.int y :: .int x :: st) g = WP m_L_sums Q 55 ls (.int (x + y) :: st) g := E_b2 (f := fun x y => x + y) lo_L_sums rfl
set_option maxRecDepth 100000 in
theorem e_L_sums_55 {Q : mQ} {l0 l1 l2 l3 : Value} {st : List Value} {g : mG} {x : Int32} : WP m_L_sums Q 55 [l0, l1, l2, l3] (.int x :: st) g = (nl1 l1 ∧ WP m_L_sums Q 56 [l0, l1, .int x, l3] st g) := E_is (i := 2) (n := 1) lo_L_sums rfl (Nat.le_of_ble_eq_true rfl)
set_option maxRecDepth 100000 in
theorem e_L_sums_56 {Q : mQ} {l0 l1 l2 : Value} {st : List Value} {g : mG} {x : Int32} : WP m_L_sums Q 56 [l0, l1, l2, .int x] st g = (nl1 l2 ∧ WP m_L_sums Q 59 [l0, l1, l2, .int (x + nI 1)] st g) := E_inc (i := 3) (d := nI 1) lo_L_sums rfl rfl
set_option maxRecDepth 100000 in
theorem e_L_sums_59 {Q : mQ} {ls st : List Value} {g : mG} : WP m_L_sums Q 59 ls st g = WP m_L_sums Q 6 ls st g := E_goto lo_L_sums rfl
set_option maxRecDepth 100000 in
theorem e_L_sums_62 {Q : mQ} {l1 l2 l3 : Value} {st : List Value} {g : mG} {x : Nat} : WP m_L_sums Q 62 [.ref x, l1, l2, l3] st g = WP m_L_sums Q 63 [.ref x, l1, l2, l3] (.ref x :: st) g := E_al (i := 0) (n := 1) lo_L_sums rfl rfl
set_option maxRecDepth 100000 in
theorem e_L_sums_62n {Q : mQ} {l1 l2 l3 : Value} {st : List Value} {g : mG} : WP m_L_sums Q 62 [.null, l1, l2, l3] st g = WP m_L_sums Q 63 [.null, l1, l2, l3] (.null :: st) g := E_aln (i := 0) (n := 1) lo_L_sums rfl rfl
set_option maxRecDepth 100000 in
theorem e_L_sums_63 {Q : mQ} {ls st : List Value} {g : mG} : WP m_L_sums Q 63 ls st g = WP m_L_sums Q 64 ls (.int (nI 1) :: st) g := E_ic (v := nI 1) (n := 1) lo_L_sums rfl
set_option maxRecDepth 100000 in
theorem e_L_sums_64 {Q : mQ} {ls st : List Value} {g : mG} : WP m_L_sums Q 64 ls st g = WP m_L_sums Q 65 ls (.int (nI 0) :: st) g := E_ic (v := nI 0) (n := 1) lo_L_sums rfl
set_option maxRecDepth 100000 in
theorem e_L_sums_65 {Q : mQ} {ls st : List Value} {g : mG} : WP m_L_sums Q 65 ls st g = WP m_L_sums Q 66 ls (.int (nI 3) :: st) g := E_ic (v := nI 3) (n := 1) lo_L_sums rfl
set_option maxRecDepth 100000 in
theorem e_L_sums_66 {Q : mQ} {ls st : List Value} {g : mG} {b : Nat} {a0 a1 a2 : Value} : WP m_L_sums Q 66 ls (a2 :: a1 :: a0 :: .ref b :: st) g = (st.length ≤ 4 ∧ gK g b = 7 ∧ stbs g ls ∧ stbs g st ∧ w_X6_order [.ref b, a0, a1, a2] g (fun v g' => WP m_L_sums Q 69 ls (v.toList ++ st) g')) := E_CV (ar := [a2, a1, a0, .ref b]) lo_L_sums rfl rfl rfl (by decide)
set_option maxRecDepth 100000 in
theorem e_L_sums_69 {Q : mQ} {ls st : List Value} {g : mG} {x : Int32} : WP m_L_sums Q 69 ls (.int x :: st) g = ((x < 0 → WP m_L_sums Q 103 ls st g) ∧ (¬ (x < 0) → WP m_L_sums Q 72 ls st g)) := E_I1 (c := fun x => x < 0) (t := 103) lo_L_sums rfl
set_option maxRecDepth 100000 in
theorem e_L_sums_72 {Q : mQ} {l1 l2 l3 : Value} {st : List Value} {g : mG} {x : Nat} : WP m_L_sums Q 72 [.ref x, l1, l2, l3] st g = WP m_L_sums Q 73 [.ref x, l1, l2, l3] (.ref x :: st) g := E_al (i := 0) (n := 1) lo_L_sums rfl rfl
set_option maxRecDepth 100000 in
theorem e_L_sums_72n {Q : mQ} {l1 l2 l3 : Value} {st : List Value} {g : mG} : WP m_L_sums Q 72 [.null, l1, l2, l3] st g = WP m_L_sums Q 73 [.null, l1, l2, l3] (.null :: st) g := E_aln (i := 0) (n := 1) lo_L_sums rfl rfl
set_option maxRecDepth 100000 in
theorem e_L_sums_73 {Q : mQ} {ls st : List Value} {g : mG} : WP m_L_sums Q 73 ls st g = WP m_L_sums Q 74 ls (.int (nI 0) :: st) g := E_ic (v := nI 0) (n := 1) lo_L_sums rfl
set_option maxRecDepth 100000 in
theorem e_L_sums_74 {Q : mQ} {ls st : List Value} {g : mG} : WP m_L_sums Q 74 ls st g = WP m_L_sums Q 75 ls (.int (nI 0) :: st) g := E_ic (v := nI 0) (n := 1) lo_L_sums rfl
set_option maxRecDepth 100000 in
theorem e_L_sums_75 {Q : mQ} {ls st : List Value} {g : mG} : WP m_L_sums Q 75 ls st g = WP m_L_sums Q 76 ls (.int (nI 3) :: st) g := E_ic (v := nI 3) (n := 1) lo_L_sums rfl
set_option maxRecDepth 100000 in
theorem e_L_sums_76 {Q : mQ} {ls st : List Value} {g : mG} {b : Nat} {a0 a1 a2 : Value} : WP m_L_sums Q 76 ls (a2 :: a1 :: a0 :: .ref b :: st) g = (st.length ≤ 4 ∧ gK g b = 7 ∧ stbs g ls ∧ stbs g st ∧ w_X6_order [.ref b, a0, a1, a2] g (fun v g' => WP m_L_sums Q 79 ls (v.toList ++ st) g')) := E_CV (ar := [a2, a1, a0, .ref b]) lo_L_sums rfl rfl rfl (by decide)
set_option maxRecDepth 100000 in
theorem e_L_sums_79 {Q : mQ} {ls st : List Value} {g : mG} {x : Int32} : WP m_L_sums Q 79 ls (.int x :: st) g = ((x < 0 → WP m_L_sums Q 103 ls st g) ∧ (¬ (x < 0) → WP m_L_sums Q 82 ls st g)) := E_I1 (c := fun x => x < 0) (t := 103) lo_L_sums rfl
set_option maxRecDepth 100000 in
theorem e_L_sums_82 {Q : mQ} {l1 l2 l3 : Value} {st : List Value} {g : mG} {x : Nat} : WP m_L_sums Q 82 [.ref x, l1, l2, l3] st g = WP m_L_sums Q 83 [.ref x, l1, l2, l3] (.ref x :: st) g := E_al (i := 0) (n := 1) lo_L_sums rfl rfl
set_option maxRecDepth 100000 in
theorem e_L_sums_82n {Q : mQ} {l1 l2 l3 : Value} {st : List Value} {g : mG} : WP m_L_sums Q 82 [.null, l1, l2, l3] st g = WP m_L_sums Q 83 [.null, l1, l2, l3] (.null :: st) g := E_aln (i := 0) (n := 1) lo_L_sums rfl rfl
set_option maxRecDepth 100000 in
theorem e_L_sums_83 {Q : mQ} {ls st : List Value} {g : mG} : WP m_L_sums Q 83 ls st g = WP m_L_sums Q 84 ls (.int (nI 1) :: st) g := E_ic (v := nI 1) (n := 1) lo_L_sums rfl
set_option maxRecDepth 100000 in
theorem e_L_sums_84 {Q : mQ} {ls st : List Value} {g : mG} : WP m_L_sums Q 84 ls st g = WP m_L_sums Q 85 ls (.int (nI 0) :: st) g := E_ic (v := nI 0) (n := 1) lo_L_sums rfl
set_option maxRecDepth 100000 in
theorem e_L_sums_85 {Q : mQ} {ls st : List Value} {g : mG} : WP m_L_sums Q 85 ls st g = WP m_L_sums Q 86 ls (.int (nI 3) :: st) g := E_ic (v := nI 3) (n := 1) lo_L_sums rfl
set_option maxRecDepth 100000 in
theorem e_L_sums_86 {Q : mQ} {ls st : List Value} {g : mG} {b : Nat} {a0 a1 a2 : Value} : WP m_L_sums Q 86 ls (a2 :: a1 :: a0 :: .ref b :: st) g = (st.length ≤ 4 ∧ gK g b = 7 ∧ stbs g ls ∧ stbs g st ∧ w_X6_order [.ref b, a0, a1, a2] g (fun v g' => WP m_L_sums Q 89 ls (v.toList ++ st) g')) := E_CV (ar := [a2, a1, a0, .ref b]) lo_L_sums rfl rfl rfl (by decide)
set_option maxRecDepth 100000 in
theorem e_L_sums_89 {Q : mQ} {l1 l2 l3 : Value} {st : List Value} {g : mG} {x : Nat} : WP m_L_sums Q 89 [.ref x, l1, l2, l3] st g = WP m_L_sums Q 90 [.ref x, l1, l2, l3] (.ref x :: st) g := E_al (i := 0) (n := 1) lo_L_sums rfl rfl
set_option maxRecDepth 100000 in
theorem e_L_sums_89n {Q : mQ} {l1 l2 l3 : Value} {st : List Value} {g : mG} : WP m_L_sums Q 89 [.null, l1, l2, l3] st g = WP m_L_sums Q 90 [.null, l1, l2, l3] (.null :: st) g := E_aln (i := 0) (n := 1) lo_L_sums rfl rfl
set_option maxRecDepth 100000 in
theorem e_L_sums_90 {Q : mQ} {ls st : List Value} {g : mG} : WP m_L_sums Q 90 ls st g = WP m_L_sums Q 91 ls (.int (nI 0) :: st) g := E_ic (v := nI 0) (n := 1) lo_L_sums rfl
set_option maxRecDepth 100000 in
theorem e_L_sums_91 {Q : mQ} {ls st : List Value} {g : mG} : WP m_L_sums Q 91 ls st g = WP m_L_sums Q 92 ls (.int (nI 0) :: st) g := E_ic (v := nI 0) (n := 1) lo_L_sums rfl
set_option maxRecDepth 100000 in
theorem e_L_sums_92 {Q : mQ} {ls st : List Value} {g : mG} : WP m_L_sums Q 92 ls st g = WP m_L_sums Q 93 ls (.int (nI 3) :: st) g := E_ic (v := nI 3) (n := 1) lo_L_sums rfl
set_option maxRecDepth 100000 in
theorem e_L_sums_93 {Q : mQ} {ls st : List Value} {g : mG} {b : Nat} {a0 a1 a2 : Value} : WP m_L_sums Q 93 ls (a2 :: a1 :: a0 :: .ref b :: st) g = (st.length ≤ 4 ∧ gK g b = 7 ∧ stbs g ls ∧ stbs g st ∧ w_X6_order [.ref b, a0, a1, a2] g (fun v g' => WP m_L_sums Q 96 ls (v.toList ++ st) g')) := E_CV (ar := [a2, a1, a0, .ref b]) lo_L_sums rfl rfl rfl (by decide)
set_option maxRecDepth 100000 in
theorem e_L_sums_96 {Q : mQ} {ls st : List Value} {g : mG} {x y : Int32} : WP m_L_sums Q 96 ls (.int y :: .int x :: st) g = ((x < y → WP m_L_sums Q 103 ls st g) ∧ (¬ (x < y) → WP m_L_sums Q 99 ls st g)) := E_I2 (c := fun x y => x < y) (t := 103) lo_L_sums rfl
set_option maxRecDepth 100000 in
theorem e_L_sums_99 {Q : mQ} {ls st : List Value} {g : mG} : WP m_L_sums Q 99 ls st g = WP m_L_sums Q 100 ls (.int (nI 1) :: st) g := E_ic (v := nI 1) (n := 1) lo_L_sums rfl
set_option maxRecDepth 100000 in
theorem e_L_sums_100 {Q : mQ} {ls st : List Value} {g : mG} : WP m_L_sums Q 100 ls st g = WP m_L_sums Q 104 ls st g := E_goto lo_L_sums rfl
set_option maxRecDepth 100000 in
theorem e_L_sums_103 {Q : mQ} {ls st : List Value} {g : mG} : WP m_L_sums Q 103 ls st g = WP m_L_sums Q 104 ls (.int (nI 0) :: st) g := E_ic (v := nI 0) (n := 1) lo_L_sums rfl
set_option maxRecDepth 100000 in
theorem e_L_sums_104 {Q : mQ} {l0 l1 l2 l3 : Value} {st : List Value} {g : mG} {x : Int32} : WP m_L_sums Q 104 [l0, l1, l2, l3] (.int x :: st) g = (nl1 l2 ∧ WP m_L_sums Q 105 [l0, l1, l2, .int x] st g) := E_is (i := 3) (n := 1) lo_L_sums rfl (Nat.le_of_ble_eq_true rfl)
set_option maxRecDepth 100000 in
theorem e_L_sums_105 {Q : mQ} {l0 l1 l2 : Value} {st : List Value} {g : mG} {x : Int32} : WP m_L_sums Q 105 [l0, l1, l2, .int x] st g = WP m_L_sums Q 106 [l0, l1, l2, .int x] (.int x :: st) g := E_il (i := 3) (n := 1) lo_L_sums rfl rfl
set_option maxRecDepth 100000 in
theorem e_L_sums_106 {Q : mQ} {ls st : List Value} {g : mG} {x : Int32} : WP m_L_sums Q 106 ls (.int x :: st) g = ((¬ x = 0 → WP m_L_sums Q 209 ls st g) ∧ (¬ (¬ x = 0) → WP m_L_sums Q 109 ls st g)) := E_I1 (c := fun x => ¬ x = 0) (t := 209) lo_L_sums rfl
set_option maxRecDepth 100000 in
theorem e_L_sums_109 {Q : mQ} {l1 l2 l3 : Value} {st : List Value} {g : mG} {x : Nat} : WP m_L_sums Q 109 [.ref x, l1, l2, l3] st g = WP m_L_sums Q 110 [.ref x, l1, l2, l3] (.ref x :: st) g := E_al (i := 0) (n := 1) lo_L_sums rfl rfl
set_option maxRecDepth 100000 in
theorem e_L_sums_109n {Q : mQ} {l1 l2 l3 : Value} {st : List Value} {g : mG} : WP m_L_sums Q 109 [.null, l1, l2, l3] st g = WP m_L_sums Q 110 [.null, l1, l2, l3] (.null :: st) g := E_aln (i := 0) (n := 1) lo_L_sums rfl rfl
set_option maxRecDepth 100000 in
theorem e_L_sums_110 {Q : mQ} {ls st : List Value} {g : mG} : WP m_L_sums Q 110 ls st g = WP m_L_sums Q 112 ls (.int (nI 11) :: st) g := E_ic (v := nI 11) (n := 2) lo_L_sums rfl
set_option maxRecDepth 100000 in
theorem e_L_sums_112 {Q : mQ} {ls st : List Value} {g : mG} {b : Nat} {a0 : Value} : WP m_L_sums Q 112 ls (a0 :: .ref b :: st) g = (st.length ≤ 4 ∧ gK g b = 7 ∧ stbs g ls ∧ stbs g st ∧ w_X6_count [.ref b, a0] g (fun v g' => WP m_L_sums Q 115 ls (v.toList ++ st) g')) := E_CV (ar := [a0, .ref b]) lo_L_sums rfl rfl rfl (by decide)
set_option maxRecDepth 100000 in
theorem e_L_sums_115 {Q : mQ} {l0 l2 l3 : Value} {st : List Value} {g : mG} {x : Int32} : WP m_L_sums Q 115 [l0, .int x, l2, l3] st g = WP m_L_sums Q 116 [l0, .int x, l2, l3] (.int x :: st) g := E_il (i := 1) (n := 1) lo_L_sums rfl rfl
set_option maxRecDepth 100000 in
theorem e_L_sums_116 {Q : mQ} {ls st : List Value} {g : mG} {x y : Int32} : WP m_L_sums Q 116 ls (.int y :: .int x :: st) g = ((¬ x = y → WP m_L_sums Q 209 ls st g) ∧ (¬ (¬ x = y) → WP m_L_sums Q 119 ls st g)) := E_I2 (c := fun x y => ¬ x = y) (t := 209) lo_L_sums rfl
set_option maxRecDepth 100000 in
theorem e_L_sums_119 {Q : mQ} {l0 l2 l3 : Value} {st : List Value} {g : mG} {x : Int32} : WP m_L_sums Q 119 [l0, .int x, l2, l3] st g = WP m_L_sums Q 120 [l0, .int x, l2, l3] (.int x :: st) g := E_il (i := 1) (n := 1) lo_L_sums rfl rfl
set_option maxRecDepth 100000 in
theorem e_L_sums_120 {Q : mQ} {l1 l2 l3 : Value} {st : List Value} {g : mG} {x : Nat} : WP m_L_sums Q 120 [.ref x, l1, l2, l3] st g = WP m_L_sums Q 121 [.ref x, l1, l2, l3] (.ref x :: st) g := E_al (i := 0) (n := 1) lo_L_sums rfl rfl
set_option maxRecDepth 100000 in
theorem e_L_sums_120n {Q : mQ} {l1 l2 l3 : Value} {st : List Value} {g : mG} : WP m_L_sums Q 120 [.null, l1, l2, l3] st g = WP m_L_sums Q 121 [.null, l1, l2, l3] (.null :: st) g := E_aln (i := 0) (n := 1) lo_L_sums rfl rfl
set_option maxRecDepth 100000 in
theorem e_L_sums_121 {Q : mQ} {ls st : List Value} {g : mG} : WP m_L_sums Q 121 ls st g = WP m_L_sums Q 123 ls (.int (nI 12) :: st) g := E_ic (v := nI 12) (n := 2) lo_L_sums rfl
set_option maxRecDepth 100000 in
theorem e_L_sums_123 {Q : mQ} {ls st : List Value} {g : mG} {b : Nat} {a0 : Value} : WP m_L_sums Q 123 ls (a0 :: .ref b :: st) g = (st.length ≤ 4 ∧ gK g b = 7 ∧ stbs g ls ∧ stbs g st ∧ w_X6_count [.ref b, a0] g (fun v g' => WP m_L_sums Q 126 ls (v.toList ++ st) g')) := E_CV (ar := [a0, .ref b]) lo_L_sums rfl rfl rfl (by decide)
set_option maxRecDepth 100000 in
theorem e_L_sums_126 {Q : mQ} {ls st : List Value} {g : mG} {x y : Int32} : WP m_L_sums Q 126 ls (.int y :: .int x :: st) g = WP m_L_sums Q 127 ls (.int (x + y) :: st) g := E_b2 (f := fun x y => x + y) lo_L_sums rfl
set_option maxRecDepth 100000 in
theorem e_L_sums_127 {Q : mQ} {l1 l2 l3 : Value} {st : List Value} {g : mG} {x : Nat} : WP m_L_sums Q 127 [.ref x, l1, l2, l3] st g = WP m_L_sums Q 128 [.ref x, l1, l2, l3] (.ref x :: st) g := E_al (i := 0) (n := 1) lo_L_sums rfl rfl
set_option maxRecDepth 100000 in
theorem e_L_sums_127n {Q : mQ} {l1 l2 l3 : Value} {st : List Value} {g : mG} : WP m_L_sums Q 127 [.null, l1, l2, l3] st g = WP m_L_sums Q 128 [.null, l1, l2, l3] (.null :: st) g := E_aln (i := 0) (n := 1) lo_L_sums rfl rfl
set_option maxRecDepth 100000 in
theorem e_L_sums_128 {Q : mQ} {ls st : List Value} {g : mG} : WP m_L_sums Q 128 ls st g = WP m_L_sums Q 130 ls (.int (nI 13) :: st) g := E_ic (v := nI 13) (n := 2) lo_L_sums rfl
set_option maxRecDepth 100000 in
theorem e_L_sums_130 {Q : mQ} {ls st : List Value} {g : mG} {b : Nat} {a0 : Value} : WP m_L_sums Q 130 ls (a0 :: .ref b :: st) g = (st.length ≤ 4 ∧ gK g b = 7 ∧ stbs g ls ∧ stbs g st ∧ w_X6_count [.ref b, a0] g (fun v g' => WP m_L_sums Q 133 ls (v.toList ++ st) g')) := E_CV (ar := [a0, .ref b]) lo_L_sums rfl rfl rfl (by decide)
set_option maxRecDepth 100000 in
theorem e_L_sums_133 {Q : mQ} {ls st : List Value} {g : mG} {x y : Int32} : WP m_L_sums Q 133 ls (.int y :: .int x :: st) g = WP m_L_sums Q 134 ls (.int (x + y) :: st) g := E_b2 (f := fun x y => x + y) lo_L_sums rfl
set_option maxRecDepth 100000 in
theorem e_L_sums_134 {Q : mQ} {ls st : List Value} {g : mG} : WP m_L_sums Q 134 ls st g = WP m_L_sums Q 137 ls (.int (nI 6000) :: st) g := E_ic (v := nI 6000) (n := 3) lo_L_sums rfl
set_option maxRecDepth 100000 in
theorem e_L_sums_137 {Q : mQ} {ls st : List Value} {g : mG} {x y : Int32} : WP m_L_sums Q 137 ls (.int y :: .int x :: st) g = ((¬ x = y → WP m_L_sums Q 209 ls st g) ∧ (¬ (¬ x = y) → WP m_L_sums Q 140 ls st g)) := E_I2 (c := fun x y => ¬ x = y) (t := 209) lo_L_sums rfl
set_option maxRecDepth 100000 in
theorem e_L_sums_140 {Q : mQ} {l1 l2 l3 : Value} {st : List Value} {g : mG} {x : Nat} : WP m_L_sums Q 140 [.ref x, l1, l2, l3] st g = WP m_L_sums Q 141 [.ref x, l1, l2, l3] (.ref x :: st) g := E_al (i := 0) (n := 1) lo_L_sums rfl rfl
set_option maxRecDepth 100000 in
theorem e_L_sums_140n {Q : mQ} {l1 l2 l3 : Value} {st : List Value} {g : mG} : WP m_L_sums Q 140 [.null, l1, l2, l3] st g = WP m_L_sums Q 141 [.null, l1, l2, l3] (.null :: st) g := E_aln (i := 0) (n := 1) lo_L_sums rfl rfl
set_option maxRecDepth 100000 in
theorem e_L_sums_141 {Q : mQ} {ls st : List Value} {g : mG} : WP m_L_sums Q 141 ls st g = WP m_L_sums Q 142 ls (.int (nI 1) :: st) g := E_ic (v := nI 1) (n := 1) lo_L_sums rfl
set_option maxRecDepth 100000 in
theorem e_L_sums_142 {Q : mQ} {ls st : List Value} {g : mG} {b : Nat} {a0 : Value} : WP m_L_sums Q 142 ls (a0 :: .ref b :: st) g = (st.length ≤ 4 ∧ gK g b = 7 ∧ stbs g ls ∧ stbs g st ∧ w_X6_count [.ref b, a0] g (fun v g' => WP m_L_sums Q 145 ls (v.toList ++ st) g')) := E_CV (ar := [a0, .ref b]) lo_L_sums rfl rfl rfl (by decide)
set_option maxRecDepth 100000 in
theorem e_L_sums_145 {Q : mQ} {l0 l1 l3 : Value} {st : List Value} {g : mG} {x : Int32} : WP m_L_sums Q 145 [l0, l1, .int x, l3] st g = WP m_L_sums Q 146 [l0, l1, .int x, l3] (.int x :: st) g := E_il (i := 2) (n := 1) lo_L_sums rfl rfl
set_option maxRecDepth 100000 in
theorem e_L_sums_146 {Q : mQ} {ls st : List Value} {g : mG} {x y : Int32} : WP m_L_sums Q 146 ls (.int y :: .int x :: st) g = ((¬ x = y → WP m_L_sums Q 209 ls st g) ∧ (¬ (¬ x = y) → WP m_L_sums Q 149 ls st g)) := E_I2 (c := fun x y => ¬ x = y) (t := 209) lo_L_sums rfl
set_option maxRecDepth 100000 in
theorem e_L_sums_149 {Q : mQ} {l0 l1 l3 : Value} {st : List Value} {g : mG} {x : Int32} : WP m_L_sums Q 149 [l0, l1, .int x, l3] st g = WP m_L_sums Q 150 [l0, l1, .int x, l3] (.int x :: st) g := E_il (i := 2) (n := 1) lo_L_sums rfl rfl
set_option maxRecDepth 100000 in
theorem e_L_sums_150 {Q : mQ} {l1 l2 l3 : Value} {st : List Value} {g : mG} {x : Nat} : WP m_L_sums Q 150 [.ref x, l1, l2, l3] st g = WP m_L_sums Q 151 [.ref x, l1, l2, l3] (.ref x :: st) g := E_al (i := 0) (n := 1) lo_L_sums rfl rfl
set_option maxRecDepth 100000 in
theorem e_L_sums_150n {Q : mQ} {l1 l2 l3 : Value} {st : List Value} {g : mG} : WP m_L_sums Q 150 [.null, l1, l2, l3] st g = WP m_L_sums Q 151 [.null, l1, l2, l3] (.null :: st) g := E_aln (i := 0) (n := 1) lo_L_sums rfl rfl
set_option maxRecDepth 100000 in
theorem e_L_sums_151 {Q : mQ} {ls st : List Value} {g : mG} : WP m_L_sums Q 151 ls st g = WP m_L_sums Q 152 ls (.int (nI 2) :: st) g := E_ic (v := nI 2) (n := 1) lo_L_sums rfl
set_option maxRecDepth 100000 in
theorem e_L_sums_152 {Q : mQ} {ls st : List Value} {g : mG} {b : Nat} {a0 : Value} : WP m_L_sums Q 152 ls (a0 :: .ref b :: st) g = (st.length ≤ 4 ∧ gK g b = 7 ∧ stbs g ls ∧ stbs g st ∧ w_X6_count [.ref b, a0] g (fun v g' => WP m_L_sums Q 155 ls (v.toList ++ st) g')) := E_CV (ar := [a0, .ref b]) lo_L_sums rfl rfl rfl (by decide)
set_option maxRecDepth 100000 in
theorem e_L_sums_155 {Q : mQ} {l1 l2 l3 : Value} {st : List Value} {g : mG} {x : Nat} : WP m_L_sums Q 155 [.ref x, l1, l2, l3] st g = WP m_L_sums Q 156 [.ref x, l1, l2, l3] (.ref x :: st) g := E_al (i := 0) (n := 1) lo_L_sums rfl rfl
set_option maxRecDepth 100000 in
theorem e_L_sums_155n {Q : mQ} {l1 l2 l3 : Value} {st : List Value} {g : mG} : WP m_L_sums Q 155 [.null, l1, l2, l3] st g = WP m_L_sums Q 156 [.null, l1, l2, l3] (.null :: st) g := E_aln (i := 0) (n := 1) lo_L_sums rfl rfl
set_option maxRecDepth 100000 in
theorem e_L_sums_156 {Q : mQ} {ls st : List Value} {g : mG} : WP m_L_sums Q 156 ls st g = WP m_L_sums Q 158 ls (.int (nI 6) :: st) g := E_ic (v := nI 6) (n := 2) lo_L_sums rfl
set_option maxRecDepth 100000 in
theorem e_L_sums_158 {Q : mQ} {ls st : List Value} {g : mG} {b : Nat} {a0 : Value} : WP m_L_sums Q 158 ls (a0 :: .ref b :: st) g = (st.length ≤ 4 ∧ gK g b = 7 ∧ stbs g ls ∧ stbs g st ∧ w_X6_count [.ref b, a0] g (fun v g' => WP m_L_sums Q 161 ls (v.toList ++ st) g')) := E_CV (ar := [a0, .ref b]) lo_L_sums rfl rfl rfl (by decide)
set_option maxRecDepth 100000 in
theorem e_L_sums_161 {Q : mQ} {ls st : List Value} {g : mG} {x y : Int32} : WP m_L_sums Q 161 ls (.int y :: .int x :: st) g = WP m_L_sums Q 162 ls (.int (x + y) :: st) g := E_b2 (f := fun x y => x + y) lo_L_sums rfl
set_option maxRecDepth 100000 in
theorem e_L_sums_162 {Q : mQ} {l1 l2 l3 : Value} {st : List Value} {g : mG} {x : Nat} : WP m_L_sums Q 162 [.ref x, l1, l2, l3] st g = WP m_L_sums Q 163 [.ref x, l1, l2, l3] (.ref x :: st) g := E_al (i := 0) (n := 1) lo_L_sums rfl rfl
set_option maxRecDepth 100000 in
theorem e_L_sums_162n {Q : mQ} {l1 l2 l3 : Value} {st : List Value} {g : mG} : WP m_L_sums Q 162 [.null, l1, l2, l3] st g = WP m_L_sums Q 163 [.null, l1, l2, l3] (.null :: st) g := E_aln (i := 0) (n := 1) lo_L_sums rfl rfl
set_option maxRecDepth 100000 in
theorem e_L_sums_163 {Q : mQ} {ls st : List Value} {g : mG} : WP m_L_sums Q 163 ls st g = WP m_L_sums Q 164 ls (.int (nI 3) :: st) g := E_ic (v := nI 3) (n := 1) lo_L_sums rfl
set_option maxRecDepth 100000 in
theorem e_L_sums_164 {Q : mQ} {ls st : List Value} {g : mG} {b : Nat} {a0 : Value} : WP m_L_sums Q 164 ls (a0 :: .ref b :: st) g = (st.length ≤ 4 ∧ gK g b = 7 ∧ stbs g ls ∧ stbs g st ∧ w_X6_count [.ref b, a0] g (fun v g' => WP m_L_sums Q 167 ls (v.toList ++ st) g')) := E_CV (ar := [a0, .ref b]) lo_L_sums rfl rfl rfl (by decide)
set_option maxRecDepth 100000 in
theorem e_L_sums_167 {Q : mQ} {ls st : List Value} {g : mG} {x y : Int32} : WP m_L_sums Q 167 ls (.int y :: .int x :: st) g = WP m_L_sums Q 168 ls (.int (x - y) :: st) g := E_b2 (f := fun x y => x - y) lo_L_sums rfl
set_option maxRecDepth 100000 in
theorem e_L_sums_168 {Q : mQ} {ls st : List Value} {g : mG} {x y : Int32} : WP m_L_sums Q 168 ls (.int y :: .int x :: st) g = ((¬ x = y → WP m_L_sums Q 209 ls st g) ∧ (¬ (¬ x = y) → WP m_L_sums Q 171 ls st g)) := E_I2 (c := fun x y => ¬ x = y) (t := 209) lo_L_sums rfl
set_option maxRecDepth 100000 in
theorem e_L_sums_171 {Q : mQ} {l1 l2 l3 : Value} {st : List Value} {g : mG} {x : Nat} : WP m_L_sums Q 171 [.ref x, l1, l2, l3] st g = WP m_L_sums Q 172 [.ref x, l1, l2, l3] (.ref x :: st) g := E_al (i := 0) (n := 1) lo_L_sums rfl rfl
set_option maxRecDepth 100000 in
theorem e_L_sums_171n {Q : mQ} {l1 l2 l3 : Value} {st : List Value} {g : mG} : WP m_L_sums Q 171 [.null, l1, l2, l3] st g = WP m_L_sums Q 172 [.null, l1, l2, l3] (.null :: st) g := E_aln (i := 0) (n := 1) lo_L_sums rfl rfl
set_option maxRecDepth 100000 in
theorem e_L_sums_172 {Q : mQ} {ls st : List Value} {g : mG} : WP m_L_sums Q 172 ls st g = WP m_L_sums Q 173 ls (.int (nI 5) :: st) g := E_ic (v := nI 5) (n := 1) lo_L_sums rfl
set_option maxRecDepth 100000 in
theorem e_L_sums_173 {Q : mQ} {ls st : List Value} {g : mG} {b : Nat} {a0 : Value} : WP m_L_sums Q 173 ls (a0 :: .ref b :: st) g = (st.length ≤ 4 ∧ gK g b = 7 ∧ stbs g ls ∧ stbs g st ∧ w_X6_count [.ref b, a0] g (fun v g' => WP m_L_sums Q 176 ls (v.toList ++ st) g')) := E_CV (ar := [a0, .ref b]) lo_L_sums rfl rfl rfl (by decide)
set_option maxRecDepth 100000 in
theorem e_L_sums_176 {Q : mQ} {l1 l2 l3 : Value} {st : List Value} {g : mG} {x : Nat} : WP m_L_sums Q 176 [.ref x, l1, l2, l3] st g = WP m_L_sums Q 177 [.ref x, l1, l2, l3] (.ref x :: st) g := E_al (i := 0) (n := 1) lo_L_sums rfl rfl
set_option maxRecDepth 100000 in
theorem e_L_sums_176n {Q : mQ} {l1 l2 l3 : Value} {st : List Value} {g : mG} : WP m_L_sums Q 176 [.null, l1, l2, l3] st g = WP m_L_sums Q 177 [.null, l1, l2, l3] (.null :: st) g := E_aln (i := 0) (n := 1) lo_L_sums rfl rfl
set_option maxRecDepth 100000 in
theorem e_L_sums_177 {Q : mQ} {ls st : List Value} {g : mG} : WP m_L_sums Q 177 ls st g = WP m_L_sums Q 179 ls (.int (nI 6) :: st) g := E_ic (v := nI 6) (n := 2) lo_L_sums rfl
set_option maxRecDepth 100000 in
theorem e_L_sums_179 {Q : mQ} {ls st : List Value} {g : mG} {b : Nat} {a0 : Value} : WP m_L_sums Q 179 ls (a0 :: .ref b :: st) g = (st.length ≤ 4 ∧ gK g b = 7 ∧ stbs g ls ∧ stbs g st ∧ w_X6_count [.ref b, a0] g (fun v g' => WP m_L_sums Q 182 ls (v.toList ++ st) g')) := E_CV (ar := [a0, .ref b]) lo_L_sums rfl rfl rfl (by decide)
set_option maxRecDepth 100000 in
theorem e_L_sums_182 {Q : mQ} {ls st : List Value} {g : mG} {x y : Int32} : WP m_L_sums Q 182 ls (.int y :: .int x :: st) g = WP m_L_sums Q 183 ls (.int (x + y) :: st) g := E_b2 (f := fun x y => x + y) lo_L_sums rfl
set_option maxRecDepth 100000 in
theorem e_L_sums_183 {Q : mQ} {ls st : List Value} {g : mG} : WP m_L_sums Q 183 ls st g = WP m_L_sums Q 186 ls (.int (nI 500) :: st) g := E_ic (v := nI 500) (n := 3) lo_L_sums rfl
set_option maxRecDepth 100000 in
theorem e_L_sums_186 {Q : mQ} {ls st : List Value} {g : mG} {x y : Int32} : WP m_L_sums Q 186 ls (.int y :: .int x :: st) g = ((¬ x = y → WP m_L_sums Q 209 ls st g) ∧ (¬ (¬ x = y) → WP m_L_sums Q 189 ls st g)) := E_I2 (c := fun x y => ¬ x = y) (t := 209) lo_L_sums rfl
set_option maxRecDepth 100000 in
theorem e_L_sums_189 {Q : mQ} {l1 l2 l3 : Value} {st : List Value} {g : mG} {x : Nat} : WP m_L_sums Q 189 [.ref x, l1, l2, l3] st g = WP m_L_sums Q 190 [.ref x, l1, l2, l3] (.ref x :: st) g := E_al (i := 0) (n := 1) lo_L_sums rfl rfl
set_option maxRecDepth 100000 in
theorem e_L_sums_189n {Q : mQ} {l1 l2 l3 : Value} {st : List Value} {g : mG} : WP m_L_sums Q 189 [.null, l1, l2, l3] st g = WP m_L_sums Q 190 [.null, l1, l2, l3] (.null :: st) g := E_aln (i := 0) (n := 1) lo_L_sums rfl rfl
set_option maxRecDepth 100000 in
theorem e_L_sums_190 {Q : mQ} {ls st : List Value} {g : mG} : WP m_L_sums Q 190 ls st g = WP m_L_sums Q 191 ls (.int (nI 1) :: st) g := E_ic (v := nI 1) (n := 1) lo_L_sums rfl
set_option maxRecDepth 100000 in
theorem e_L_sums_191 {Q : mQ} {ls st : List Value} {g : mG} {a0 a1 : Value} : WP m_L_sums Q 191 ls (a1 :: a0 :: st) g = (st.length ≤ 4 ∧ stbs g ls ∧ stbs g st ∧ w_L_orders [a0, a1] g (fun v g' => WP m_L_sums Q 194 ls (v.toList ++ st) g')) := E_CS (ar := [a1, a0]) lo_L_sums rfl rfl rfl
set_option maxRecDepth 100000 in
theorem e_L_sums_194 {Q : mQ} {ls st : List Value} {g : mG} {x : Int32} : WP m_L_sums Q 194 ls (.int x :: st) g = ((x = 0 → WP m_L_sums Q 209 ls st g) ∧ (¬ (x = 0) → WP m_L_sums Q 197 ls st g)) := E_I1 (c := fun x => x = 0) (t := 209) lo_L_sums rfl
set_option maxRecDepth 100000 in
theorem e_L_sums_197 {Q : mQ} {l1 l2 l3 : Value} {st : List Value} {g : mG} {x : Nat} : WP m_L_sums Q 197 [.ref x, l1, l2, l3] st g = WP m_L_sums Q 198 [.ref x, l1, l2, l3] (.ref x :: st) g := E_al (i := 0) (n := 1) lo_L_sums rfl rfl
set_option maxRecDepth 100000 in
theorem e_L_sums_197n {Q : mQ} {l1 l2 l3 : Value} {st : List Value} {g : mG} : WP m_L_sums Q 197 [.null, l1, l2, l3] st g = WP m_L_sums Q 198 [.null, l1, l2, l3] (.null :: st) g := E_aln (i := 0) (n := 1) lo_L_sums rfl rfl
set_option maxRecDepth 100000 in
theorem e_L_sums_198 {Q : mQ} {ls st : List Value} {g : mG} : WP m_L_sums Q 198 ls st g = WP m_L_sums Q 199 ls (.int (nI 0) :: st) g := E_ic (v := nI 0) (n := 1) lo_L_sums rfl
set_option maxRecDepth 100000 in
theorem e_L_sums_199 {Q : mQ} {ls st : List Value} {g : mG} {a0 a1 : Value} : WP m_L_sums Q 199 ls (a1 :: a0 :: st) g = (st.length ≤ 4 ∧ stbs g ls ∧ stbs g st ∧ w_L_orders [a0, a1] g (fun v g' => WP m_L_sums Q 202 ls (v.toList ++ st) g')) := E_CS (ar := [a1, a0]) lo_L_sums rfl rfl rfl
set_option maxRecDepth 100000 in
theorem e_L_sums_202 {Q : mQ} {ls st : List Value} {g : mG} {x : Int32} : WP m_L_sums Q 202 ls (.int x :: st) g = ((x = 0 → WP m_L_sums Q 209 ls st g) ∧ (¬ (x = 0) → WP m_L_sums Q 205 ls st g)) := E_I1 (c := fun x => x = 0) (t := 209) lo_L_sums rfl
set_option maxRecDepth 100000 in
theorem e_L_sums_205 {Q : mQ} {ls st : List Value} {g : mG} : WP m_L_sums Q 205 ls st g = WP m_L_sums Q 206 ls (.int (nI 1) :: st) g := E_ic (v := nI 1) (n := 1) lo_L_sums rfl
set_option maxRecDepth 100000 in
theorem e_L_sums_206 {Q : mQ} {ls st : List Value} {g : mG} : WP m_L_sums Q 206 ls st g = WP m_L_sums Q 210 ls st g := E_goto lo_L_sums rfl
set_option maxRecDepth 100000 in
theorem e_L_sums_209 {Q : mQ} {ls st : List Value} {g : mG} : WP m_L_sums Q 209 ls st g = WP m_L_sums Q 210 ls (.int (nI 0) :: st) g := E_ic (v := nI 0) (n := 1) lo_L_sums rfl
set_option maxRecDepth 100000 in
theorem e_L_sums_210 {Q : mQ} {ls : List Value} {g : mG} {v : Int32} : WP m_L_sums Q 210 ls [.int v] g = ((v = 0 ∨ v = 1) ∧ Q (some (.int v)) g) := E_zret lo_L_sums rfl
