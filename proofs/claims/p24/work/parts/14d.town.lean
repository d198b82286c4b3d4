/-! ===== programs ===== -/
/-! KilnPermits$Town.copyFrom(LKilnPermits$Town;)V -/
def m_X5_copyFrom : List (Nat × mT) := [(0, tD (f_al 0 1)),
  (1, tD (f_al 1 1)),
  (2, tD (f_gI 6 0)),
  (5, tD (f_pI 6 0)),
  (8, tD (f_al 0 1)),
  (9, tD (f_al 1 1)),
  (10, tD (f_gI 6 1)),
  (13, tD (f_pI 6 1)),
  (16, tD (f_al 0 1)),
  (17, tD (f_al 1 1)),
  (18, tD (f_gI 6 2)),
  (21, tD (f_pI 6 2)),
  (24, tD (f_al 0 1)),
  (25, tD (f_al 1 1)),
  (26, tD (f_gI 6 3)),
  (29, tD (f_pI 6 3)),
  (32, tD (f_al 0 1)),
  (33, tD (f_al 1 1)),
  (34, tD (f_gI 6 4)),
  (37, tD (f_pI 6 4)),
  (40, tD (f_al 0 1)),
  (41, tD (f_al 1 1)),
  (42, tD (f_gI 6 5)),
  (45, tD (f_pI 6 5)),
  (48, tD (f_al 0 1)),
  (49, tD (f_al 1 1)),
  (50, tD (f_gI 6 6)),
  (53, tD (f_pI 6 6)),
  (56, tD (f_al 0 1)),
  (57, tD (f_al 1 1)),
  (58, tD (f_gI 6 7)),
  (61, tD (f_pI 6 7)),
  (64, tD (f_al 0 1)),
  (65, tD (f_al 1 1)),
  (66, tD (f_gI 6 8)),
  (69, tD (f_pI 6 8)),
  (72, tD (f_al 0 1)),
  (73, tD (f_al 1 1)),
  (74, tD (f_gI 6 9)),
  (77, tD (f_pI 6 9)),
  (80, tD (f_al 0 1)),
  (81, tD (f_al 1 1)),
  (82, tD (f_gI 6 10)),
  (85, tD (f_pI 6 10)),
  (88, tD (f_ic (nI 0) 1)),
  (89, tD (f_is 2 1)),
  (90, tD (f_il 2 1)),
  (91, tD (f_al 0 1)),
  (92, tD (f_gR 6 11)),
  (95, tD (f_alen)),
  (96, tI2 (fun x y => y ≤ x) 126),
  (99, tD (f_il 2 1)),
  (100, tD (f_al 1 1)),
  (101, tD (f_gR 6 11)),
  (104, tD (f_alen)),
  (105, tI2 (fun x y => y ≤ x) 126),
  (108, tD (f_al 0 1)),
  (109, tD (f_gR 6 11)),
  (112, tD (f_il 2 1)),
  (113, tD (f_al 1 1)),
  (114, tD (f_gR 6 11)),
  (117, tD (f_il 2 1)),
  (118, tD (f_iald)),
  (119, tD (f_iast)),
  (120, tD (f_inc 2 (nI 1))),
  (123, tD (f_goto 90)),
  (126, tD (f_ic (nI 0) 1)),
  (127, tD (f_is 2 1)),
  (128, tD (f_il 2 1)),
  (129, tD (f_al 0 1)),
  (130, tD (f_gR 6 12)),
  (133, tD (f_alen)),
  (134, tI2 (fun x y => y ≤ x) 167),
  (137, tD (f_il 2 1)),
  (138, tD (f_al 1 1)),
  (139, tD (f_gR 6 12)),
  (142, tD (f_alen)),
  (143, tI2 (fun x y => y ≤ x) 167),
  (146, tD (f_al 0 1)),
  (147, tD (f_gR 6 12)),
  (150, tD (f_il 2 1)),
  (151, tD (f_aald 14)),
  (152, tD (f_al 1 1)),
  (153, tD (f_gR 6 12)),
  (156, tD (f_il 2 1)),
  (157, tD (f_aald 14)),
  (158, tC w_X0_copyFrom 1 2),
  (161, tD (f_inc 2 (nI 1))),
  (164, tD (f_goto 128)),
  (167, tD (f_ic (nI 0) 1)),
  (168, tD (f_is 2 1)),
  (169, tD (f_il 2 1)),
  (170, tD (f_al 0 1)),
  (171, tD (f_gR 6 13)),
  (174, tD (f_alen)),
  (175, tI2 (fun x y => y ≤ x) 208),
  (178, tD (f_il 2 1)),
  (179, tD (f_al 1 1)),
  (180, tD (f_gR 6 13)),
  (183, tD (f_alen)),
  (184, tI2 (fun x y => y ≤ x) 208),
  (187, tD (f_al 0 1)),
  (188, tD (f_gR 6 13)),
  (191, tD (f_il 2 1)),
  (192, tD (f_aald 15)),
  (193, tD (f_al 1 1)),
  (194, tD (f_gR 6 13)),
  (197, tD (f_il 2 1)),
  (198, tD (f_aald 15)),
  (199, tC w_X2_copyFrom 3 2),
  (202, tD (f_inc 2 (nI 1))),
  (205, tD (f_goto 169)),
  (208, tR f_ret)]
abbrev w_X5_copyFrom : mS := wm m_X5_copyFrom 2 1
set_option maxRecDepth 100000 in
theorem lo_X5_copyFrom : locs_ok m_X5_copyFrom := List.forall_mem_cons.mpr ⟨loc_D mo_al,
  List.forall_mem_cons.mpr ⟨loc_D mo_al,
  List.forall_mem_cons.mpr ⟨loc_D mo_gI,
  List.forall_mem_cons.mpr ⟨loc_D mo_pI,
  List.forall_mem_cons.mpr ⟨loc_D mo_al,
  List.forall_mem_cons.mpr ⟨loc_D mo_al,
  List.forall_mem_cons.mpr ⟨loc_D mo_gI,
  List.forall_mem_cons.mpr ⟨loc_D mo_pI,
  List.forall_mem_cons.mpr ⟨loc_D mo_al,
  List.forall_mem_cons.mpr ⟨loc_D mo_al,
  List.forall_mem_cons.mpr ⟨loc_D mo_gI,
  List.forall_mem_cons.mpr ⟨loc_D mo_pI,
  List.forall_mem_cons.mpr ⟨loc_D mo_al,
  List.forall_mem_cons.mpr ⟨loc_D mo_al,
  List.forall_mem_cons.mpr ⟨loc_D mo_gI,
  List.forall_mem_cons.mpr ⟨loc_D mo_pI,
  List.forall_mem_cons.mpr ⟨loc_D mo_al,
  List.forall_mem_cons.mpr ⟨loc_D mo_al,
  List.forall_mem_cons.mpr ⟨loc_D mo_gI,
  List.forall_mem_cons.mpr ⟨loc_D mo_pI,
  List.forall_mem_cons.mpr ⟨loc_D mo_al,
  List.forall_mem_cons.mpr ⟨loc_D mo_al,
  List.forall_mem_cons.mpr ⟨loc_D mo_gI,
  List.forall_mem_cons.mpr ⟨loc_D mo_pI,
  List.forall_mem_cons.mpr ⟨loc_D mo_al,
  List.forall_mem_cons.mpr ⟨loc_D mo_al,
  List.forall_mem_cons.mpr ⟨loc_D mo_gI,
  List.forall_mem_cons.mpr ⟨loc_D mo_pI,
  List.forall_mem_cons.mpr ⟨loc_D mo_al,
  List.forall_mem_cons.mpr ⟨loc_D mo_al,
  List.forall_mem_cons.mpr ⟨loc_D mo_gI,
  List.forall_mem_cons.mpr ⟨loc_D mo_pI,
  List.forall_mem_cons.mpr ⟨loc_D mo_al,
  List.forall_mem_cons.mpr ⟨loc_D mo_al,
  List.forall_mem_cons.mpr ⟨loc_D mo_gI,
  List.forall_mem_cons.mpr ⟨loc_D mo_pI,
  List.forall_mem_cons.mpr ⟨loc_D mo_al,
  List.forall_mem_cons.mpr ⟨loc_D mo_al,
  List.forall_mem_cons.mpr ⟨loc_D mo_gI,
  List.forall_mem_cons.mpr ⟨loc_D mo_pI,
  List.forall_mem_cons.mpr ⟨loc_D mo_al,
  List.forall_mem_cons.mpr ⟨loc_D mo_al,
  List.forall_mem_cons.mpr ⟨loc_D mo_gI,
  List.forall_mem_cons.mpr ⟨loc_D mo_pI,
  List.forall_mem_cons.mpr ⟨loc_D mo_ic,
  List.forall_mem_cons.mpr ⟨loc_D mo_is,
  List.forall_mem_cons.mpr ⟨loc_D mo_il,
  List.forall_mem_cons.mpr ⟨loc_D mo_al,
  List.forall_mem_cons.mpr ⟨loc_D mo_gR,
  List.forall_mem_cons.mpr ⟨loc_D mo_alen,
  List.forall_mem_cons.mpr ⟨loc_I2,
  List.forall_mem_cons.mpr ⟨loc_D mo_il,
  List.forall_mem_cons.mpr ⟨loc_D mo_al,
  List.forall_mem_cons.mpr ⟨loc_D mo_gR,
  List.forall_mem_cons.mpr ⟨loc_D mo_alen,
  List.forall_mem_cons.mpr ⟨loc_I2,
  List.forall_mem_cons.mpr ⟨loc_D mo_al,
  List.forall_mem_cons.mpr ⟨loc_D mo_gR,
  List.forall_mem_cons.mpr ⟨loc_D mo_il,
  List.forall_mem_cons.mpr ⟨loc_D mo_al,
  List.forall_mem_cons.mpr ⟨loc_D mo_gR,
  List.forall_mem_cons.mpr ⟨loc_D mo_il,
  List.forall_mem_cons.mpr ⟨loc_D mo_iald,
  List.forall_mem_cons.mpr ⟨loc_D mo_iast,
  List.forall_mem_cons.mpr ⟨loc_D mo_inc,
  List.forall_mem_cons.mpr ⟨loc_D mo_goto,
  List.forall_mem_cons.mpr ⟨loc_D mo_ic,
  List.forall_mem_cons.mpr ⟨loc_D mo_is,
  List.forall_mem_cons.mpr ⟨loc_D mo_il,
  List.forall_mem_cons.mpr ⟨loc_D mo_al,
  List.forall_mem_cons.mpr ⟨loc_D mo_gR,
  List.forall_mem_cons.mpr ⟨loc_D mo_alen,
  List.forall_mem_cons.mpr ⟨loc_I2,
  List.forall_mem_cons.mpr ⟨loc_D mo_il,
  List.forall_mem_cons.mpr ⟨loc_D mo_al,
  List.forall_mem_cons.mpr ⟨loc_D mo_gR,
  List.forall_mem_cons.mpr ⟨loc_D mo_alen,
  List.forall_mem_cons.mpr ⟨loc_I2,
  List.forall_mem_cons.mpr ⟨loc_D mo_al,
  List.forall_mem_cons.mpr ⟨loc_D mo_gR,
  List.forall_mem_cons.mpr ⟨loc_D mo_il,
  List.forall_mem_cons.mpr ⟨loc_D mo_aald,
  List.forall_mem_cons.mpr ⟨loc_D mo_al,
  List.forall_mem_cons.mpr ⟨loc_D mo_gR,
  List.forall_mem_cons.mpr ⟨loc_D mo_il,
  List.forall_mem_cons.mpr ⟨loc_D mo_aald,
  List.forall_mem_cons.mpr ⟨loc_C sm_X0_copyFrom.1,
  List.forall_mem_cons.mpr ⟨loc_D mo_inc,
  List.forall_mem_cons.mpr ⟨loc_D mo_goto,
  List.forall_mem_cons.mpr ⟨loc_D mo_ic,
  List.forall_mem_cons.mpr ⟨loc_D mo_is,
  List.forall_mem_cons.mpr ⟨loc_D mo_il,
  List.forall_mem_cons.mpr ⟨loc_D mo_al,
  List.forall_mem_cons.mpr ⟨loc_D mo_gR,
  List.forall_mem_cons.mpr ⟨loc_D mo_alen,
  List.forall_mem_cons.mpr ⟨loc_I2,
  List.forall_mem_cons.mpr ⟨loc_D mo_il,
  List.forall_mem_cons.mpr ⟨loc_D mo_al,
  List.forall_mem_cons.mpr ⟨loc_D mo_gR,
  List.forall_mem_cons.mpr ⟨loc_D mo_alen,
  List.forall_mem_cons.mpr ⟨loc_I2,
  List.forall_mem_cons.mpr ⟨loc_D mo_al,
  List.forall_mem_cons.mpr ⟨loc_D mo_gR,
  List.forall_mem_cons.mpr ⟨loc_D mo_il,
  List.forall_mem_cons.mpr ⟨loc_D mo_aald,
  List.forall_mem_cons.mpr ⟨loc_D mo_al,
  List.forall_mem_cons.mpr ⟨loc_D mo_gR,
  List.forall_mem_cons.mpr ⟨loc_D mo_il,
  List.forall_mem_cons.mpr ⟨loc_D mo_aald,
  List.forall_mem_cons.mpr ⟨loc_C sm_X2_copyFrom.1,
  List.forall_mem_cons.mpr ⟨loc_D mo_inc,
  List.forall_mem_cons.mpr ⟨loc_D mo_goto,
  List.forall_mem_cons.mpr ⟨loc_R,
  fun _ h => absurd h List.not_mem_nil⟩⟩⟩⟩⟩⟩⟩⟩⟩⟩⟩⟩⟩⟩⟩⟩⟩⟩⟩⟩⟩⟩⟩⟩⟩⟩⟩⟩⟩⟩⟩⟩⟩⟩⟩⟩⟩⟩⟩⟩⟩⟩⟩⟩⟩⟩⟩⟩⟩⟩⟩⟩⟩⟩⟩⟩⟩⟩⟩⟩⟩⟩⟩⟩⟩⟩⟩⟩⟩⟩⟩⟩⟩⟩⟩⟩⟩⟩⟩⟩⟩⟩⟩⟩⟩⟩⟩⟩⟩⟩⟩⟩⟩⟩⟩⟩⟩⟩⟩⟩⟩⟩⟩⟩⟩⟩⟩⟩⟩⟩⟩⟩⟩
set_option maxRecDepth 100000 in
theorem sm_X5_copyFrom : SM yX5_copyFrom cX5_copyFrom 3 none 3 w_X5_copyFrom := SM_of' RX5 "copyFrom" rfl rfl (by decide) (by decide) (by decide) lo_X5_copyFrom (List.forall_mem_cons.mpr ⟨STP.r mo_al (q_aload_n dX5_copyFrom_0 rfl),
  List.forall_mem_cons.mpr ⟨STP.r mo_al (q_aload_n dX5_copyFrom_1 rfl),
  List.forall_mem_cons.mpr ⟨STP.r mo_gI (q_gI ⟨by decide, by decide⟩ (by decide) rfl kf_X5_41 dX5_copyFrom_2),
  List.forall_mem_cons.mpr ⟨STP.r mo_pI (q_pI ⟨by decide, by decide⟩ (by decide) rfl rfl kf_X5_41 dX5_copyFrom_5),
  List.forall_mem_cons.mpr ⟨STP.r mo_al (q_aload_n dX5_copyFrom_8 rfl),
  List.forall_mem_cons.mpr ⟨STP.r mo_al (q_aload_n dX5_copyFrom_9 rfl),
  List.forall_mem_cons.mpr ⟨STP.r mo_gI (q_gI ⟨by decide, by decide⟩ (by decide) rfl kf_X5_44 dX5_copyFrom_10),
  List.forall_mem_cons.mpr ⟨STP.r mo_pI (q_pI ⟨by decide, by decide⟩ (by decide) rfl rfl kf_X5_44 dX5_copyFrom_13),
  List.forall_mem_cons.mpr ⟨STP.r mo_al (q_aload_n dX5_copyFrom_16 rfl),
  List.forall_mem_cons.mpr ⟨STP.r mo_al (q_aload_n dX5_copyFrom_17 rfl),
  List.forall_mem_cons.mpr ⟨STP.r mo_gI (q_gI ⟨by decide, by decide⟩ (by decide) rfl kf_X5_47 dX5_copyFrom_18),
  List.forall_mem_cons.mpr ⟨STP.r mo_pI (q_pI ⟨by decide, by decide⟩ (by decide) rfl rfl kf_X5_47 dX5_copyFrom_21),
  List.forall_mem_cons.mpr ⟨STP.r mo_al (q_aload_n dX5_copyFrom_24 rfl),
  List.forall_mem_cons.mpr ⟨STP.r mo_al (q_aload_n dX5_copyFrom_25 rfl),
  List.forall_mem_cons.mpr ⟨STP.r mo_gI (q_gI ⟨by decide, by decide⟩ (by decide) rfl kf_X5_50 dX5_copyFrom_26),
  List.forall_mem_cons.mpr ⟨STP.r mo_pI (q_pI ⟨by decide, by decide⟩ (by decide) rfl rfl kf_X5_50 dX5_copyFrom_29),
  List.forall_mem_cons.mpr ⟨STP.r mo_al (q_aload_n dX5_copyFrom_32 rfl),
  List.forall_mem_cons.mpr ⟨STP.r mo_al (q_aload_n dX5_copyFrom_33 rfl),
  List.forall_mem_cons.mpr ⟨STP.r mo_gI (q_gI ⟨by decide, by decide⟩ (by decide) rfl kf_X5_9 dX5_copyFrom_34),
  List.forall_mem_cons.mpr ⟨STP.r mo_pI (q_pI ⟨by decide, by decide⟩ (by decide) rfl rfl kf_X5_9 dX5_copyFrom_37),
  List.forall_mem_cons.mpr ⟨STP.r mo_al (q_aload_n dX5_copyFrom_40 rfl),
  List.forall_mem_cons.mpr ⟨STP.r mo_al (q_aload_n dX5_copyFrom_41 rfl),
  List.forall_mem_cons.mpr ⟨STP.r mo_gI (q_gI ⟨by decide, by decide⟩ (by decide) rfl kf_X5_53 dX5_copyFrom_42),
  List.forall_mem_cons.mpr ⟨STP.r mo_pI (q_pI ⟨by decide, by decide⟩ (by decide) rfl rfl kf_X5_53 dX5_copyFrom_45),
  List.forall_mem_cons.mpr ⟨STP.r mo_al (q_aload_n dX5_copyFrom_48 rfl),
  List.forall_mem_cons.mpr ⟨STP.r mo_al (q_aload_n dX5_copyFrom_49 rfl),
  List.forall_mem_cons.mpr ⟨STP.r mo_gI (q_gI ⟨by decide, by decide⟩ (by decide) rfl kf_X5_56 dX5_copyFrom_50),
  List.forall_mem_cons.mpr ⟨STP.r mo_pI (q_pI ⟨by decide, by decide⟩ (by decide) rfl rfl kf_X5_56 dX5_copyFrom_53),
  List.forall_mem_cons.mpr ⟨STP.r mo_al (q_aload_n dX5_copyFrom_56 rfl),
  List.forall_mem_cons.mpr ⟨STP.r mo_al (q_aload_n dX5_copyFrom_57 rfl),
  List.forall_mem_cons.mpr ⟨STP.r mo_gI (q_gI ⟨by decide, by decide⟩ (by decide) rfl kf_X5_59 dX5_copyFrom_58),
  List.forall_mem_cons.mpr ⟨STP.r mo_pI (q_pI ⟨by decide, by decide⟩ (by decide) rfl rfl kf_X5_59 dX5_copyFrom_61),
  List.forall_mem_cons.mpr ⟨STP.r mo_al (q_aload_n dX5_copyFrom_64 rfl),
  List.forall_mem_cons.mpr ⟨STP.r mo_al (q_aload_n dX5_copyFrom_65 rfl),
  List.forall_mem_cons.mpr ⟨STP.r mo_gI (q_gI ⟨by decide, by decide⟩ (by decide) rfl kf_X5_62 dX5_copyFrom_66),
  List.forall_mem_cons.mpr ⟨STP.r mo_pI (q_pI ⟨by decide, by decide⟩ (by decide) rfl rfl kf_X5_62 dX5_copyFrom_69),
  List.forall_mem_cons.mpr ⟨STP.r mo_al (q_aload_n dX5_copyFrom_72 rfl),
  List.forall_mem_cons.mpr ⟨STP.r mo_al (q_aload_n dX5_copyFrom_73 rfl),
  List.forall_mem_cons.mpr ⟨STP.r mo_gI (q_gI ⟨by decide, by decide⟩ (by decide) rfl kf_X5_65 dX5_copyFrom_74),
  List.forall_mem_cons.mpr ⟨STP.r mo_pI (q_pI ⟨by decide, by decide⟩ (by decide) rfl rfl kf_X5_65 dX5_copyFrom_77),
  List.forall_mem_cons.mpr ⟨STP.r mo_al (q_aload_n dX5_copyFrom_80 rfl),
  List.forall_mem_cons.mpr ⟨STP.r mo_al (q_aload_n dX5_copyFrom_81 rfl),
  List.forall_mem_cons.mpr ⟨STP.r mo_gI (q_gI ⟨by decide, by decide⟩ (by decide) rfl kf_X5_68 dX5_copyFrom_82),
  List.forall_mem_cons.mpr ⟨STP.r mo_pI (q_pI ⟨by decide, by decide⟩ (by decide) rfl rfl kf_X5_68 dX5_copyFrom_85),
  List.forall_mem_cons.mpr ⟨STP.r mo_ic (q_iconst dX5_copyFrom_88 (by decide)),
  List.forall_mem_cons.mpr ⟨STP.r mo_is (q_istore_n dX5_copyFrom_89 rfl),
  List.forall_mem_cons.mpr ⟨STP.r mo_il (q_iload_n dX5_copyFrom_90 rfl),
  List.forall_mem_cons.mpr ⟨STP.r mo_al (q_aload_n dX5_copyFrom_91 rfl),
  List.forall_mem_cons.mpr ⟨STP.r mo_gR (q_gR ⟨by decide, by decide⟩ (by decide) rfl (by decide) kf_X5_24 dX5_copyFrom_92),
  List.forall_mem_cons.mpr ⟨STP.r mo_alen (q_alen dX5_copyFrom_95),
  List.forall_mem_cons.mpr ⟨(q_ic_ge dX5_copyFrom_96 (by decide)).r,
  List.forall_mem_cons.mpr ⟨STP.r mo_il (q_iload_n dX5_copyFrom_99 rfl),
  List.forall_mem_cons.mpr ⟨STP.r mo_al (q_aload_n dX5_copyFrom_100 rfl),
  List.forall_mem_cons.mpr ⟨STP.r mo_gR (q_gR ⟨by decide, by decide⟩ (by decide) rfl (by decide) kf_X5_24 dX5_copyFrom_101),
  List.forall_mem_cons.mpr ⟨STP.r mo_alen (q_alen dX5_copyFrom_104),
  List.forall_mem_cons.mpr ⟨(q_ic_ge dX5_copyFrom_105 (by decide)).r,
  List.forall_mem_cons.mpr ⟨STP.r mo_al (q_aload_n dX5_copyFrom_108 rfl),
  List.forall_mem_cons.mpr ⟨STP.r mo_gR (q_gR ⟨by decide, by decide⟩ (by decide) rfl (by decide) kf_X5_24 dX5_copyFrom_109),
  List.forall_mem_cons.mpr ⟨STP.r mo_il (q_iload_n dX5_copyFrom_112 rfl),
  List.forall_mem_cons.mpr ⟨STP.r mo_al (q_aload_n dX5_copyFrom_113 rfl),
  List.forall_mem_cons.mpr ⟨STP.r mo_gR (q_gR ⟨by decide, by decide⟩ (by decide) rfl (by decide) kf_X5_24 dX5_copyFrom_114),
  List.forall_mem_cons.mpr ⟨STP.r mo_il (q_iload_n dX5_copyFrom_117 rfl),
  List.forall_mem_cons.mpr ⟨STP.r mo_iald (q_iald dX5_copyFrom_118),
  List.forall_mem_cons.mpr ⟨STP.r mo_iast (q_iast dX5_copyFrom_119),
  List.forall_mem_cons.mpr ⟨STP.r mo_inc (q_inc dX5_copyFrom_120 (by decide)),
  List.forall_mem_cons.mpr ⟨STP.r mo_goto (q_goto dX5_copyFrom_123 (by decide)),
  List.forall_mem_cons.mpr ⟨STP.r mo_ic (q_iconst dX5_copyFrom_126 (by decide)),
  List.forall_mem_cons.mpr ⟨STP.r mo_is (q_istore_n dX5_copyFrom_127 rfl),
  List.forall_mem_cons.mpr ⟨STP.r mo_il (q_iload_n dX5_copyFrom_128 rfl),
  List.forall_mem_cons.mpr ⟨STP.r mo_al (q_aload_n dX5_copyFrom_129 rfl),
  List.forall_mem_cons.mpr ⟨STP.r mo_gR (q_gR ⟨by decide, by decide⟩ (by decide) rfl (by decide) kf_X5_29 dX5_copyFrom_130),
  List.forall_mem_cons.mpr ⟨STP.r mo_alen (q_alen dX5_copyFrom_133),
  List.forall_mem_cons.mpr ⟨(q_ic_ge dX5_copyFrom_134 (by decide)).r,
  List.forall_mem_cons.mpr ⟨STP.r mo_il (q_iload_n dX5_copyFrom_137 rfl),
  List.forall_mem_cons.mpr ⟨STP.r mo_al (q_aload_n dX5_copyFrom_138 rfl),
  List.forall_mem_cons.mpr ⟨STP.r mo_gR (q_gR ⟨by decide, by decide⟩ (by decide) rfl (by decide) kf_X5_29 dX5_copyFrom_139),
  List.forall_mem_cons.mpr ⟨STP.r mo_alen (q_alen dX5_copyFrom_142),
  List.forall_mem_cons.mpr ⟨(q_ic_ge dX5_copyFrom_143 (by decide)).r,
  List.forall_mem_cons.mpr ⟨STP.r mo_al (q_aload_n dX5_copyFrom_146 rfl),
  List.forall_mem_cons.mpr ⟨STP.r mo_gR (q_gR ⟨by decide, by decide⟩ (by decide) rfl (by decide) kf_X5_29 dX5_copyFrom_147),
  List.forall_mem_cons.mpr ⟨STP.r mo_il (q_iload_n dX5_copyFrom_150 rfl),
  List.forall_mem_cons.mpr ⟨STP.r mo_aald (q_aald ⟨by decide, by decide⟩ dX5_copyFrom_151),
  List.forall_mem_cons.mpr ⟨STP.r mo_al (q_aload_n dX5_copyFrom_152 rfl),
  List.forall_mem_cons.mpr ⟨STP.r mo_gR (q_gR ⟨by decide, by decide⟩ (by decide) rfl (by decide) kf_X5_29 dX5_copyFrom_153),
  List.forall_mem_cons.mpr ⟨STP.r mo_il (q_iload_n dX5_copyFrom_156 rfl),
  List.forall_mem_cons.mpr ⟨STP.r mo_aald (q_aald ⟨by decide, by decide⟩ dX5_copyFrom_157),
  List.forall_mem_cons.mpr ⟨(snd_CV sm_X0_copyFrom ⟨by decide, by decide⟩ rfl km_X5_71 kt_X0_copyFrom kv_X0_copyFrom rfl ki_X0 kx_X0_copyFrom ⟨by decide, by decide, by decide +kernel⟩ (by decide) (by decide) dX5_copyFrom_158).r,
  List.forall_mem_cons.mpr ⟨STP.r mo_inc (q_inc dX5_copyFrom_161 (by decide)),
  List.forall_mem_cons.mpr ⟨STP.r mo_goto (q_goto dX5_copyFrom_164 (by decide)),
  List.forall_mem_cons.mpr ⟨STP.r mo_ic (q_iconst dX5_copyFrom_167 (by decide)),
  List.forall_mem_cons.mpr ⟨STP.r mo_is (q_istore_n dX5_copyFrom_168 rfl),
  List.forall_mem_cons.mpr ⟨STP.r mo_il (q_iload_n dX5_copyFrom_169 rfl),
  List.forall_mem_cons.mpr ⟨STP.r mo_al (q_aload_n dX5_copyFrom_170 rfl),
  List.forall_mem_cons.mpr ⟨STP.r mo_gR (q_gR ⟨by decide, by decide⟩ (by decide) rfl (by decide) kf_X5_35 dX5_copyFrom_171),
  List.forall_mem_cons.mpr ⟨STP.r mo_alen (q_alen dX5_copyFrom_174),
  List.forall_mem_cons.mpr ⟨(q_ic_ge dX5_copyFrom_175 (by decide)).r,
  List.forall_mem_cons.mpr ⟨STP.r mo_il (q_iload_n dX5_copyFrom_178 rfl),
  List.forall_mem_cons.mpr ⟨STP.r mo_al (q_aload_n dX5_copyFrom_179 rfl),
  List.forall_mem_cons.mpr ⟨STP.r mo_gR (q_gR ⟨by decide, by decide⟩ (by decide) rfl (by decide) kf_X5_35 dX5_copyFrom_180),
  List.forall_mem_cons.mpr ⟨STP.r mo_alen (q_alen dX5_copyFrom_183),
  List.forall_mem_cons.mpr ⟨(q_ic_ge dX5_copyFrom_184 (by decide)).r,
  List.forall_mem_cons.mpr ⟨STP.r mo_al (q_aload_n dX5_copyFrom_187 rfl),
  List.forall_mem_cons.mpr ⟨STP.r mo_gR (q_gR ⟨by decide, by decide⟩ (by decide) rfl (by decide) kf_X5_35 dX5_copyFrom_188),
  List.forall_mem_cons.mpr ⟨STP.r mo_il (q_iload_n dX5_copyFrom_191 rfl),
  List.forall_mem_cons.mpr ⟨STP.r mo_aald (q_aald ⟨by decide, by decide⟩ dX5_copyFrom_192),
  List.forall_mem_cons.mpr ⟨STP.r mo_al (q_aload_n dX5_copyFrom_193 rfl),
  List.forall_mem_cons.mpr ⟨STP.r mo_gR (q_gR ⟨by decide, by decide⟩ (by decide) rfl (by decide) kf_X5_35 dX5_copyFrom_194),
  List.forall_mem_cons.mpr ⟨STP.r mo_il (q_iload_n dX5_copyFrom_197 rfl),
  List.forall_mem_cons.mpr ⟨STP.r mo_aald (q_aald ⟨by decide, by decide⟩ dX5_copyFrom_198),
  List.forall_mem_cons.mpr ⟨(snd_CV sm_X2_copyFrom ⟨by decide, by decide⟩ rfl km_X5_75 kt_X2_copyFrom kv_X2_copyFrom rfl ki_X2 kx_X2_copyFrom ⟨by decide, by decide, by decide +kernel⟩ (by decide) (by decide) dX5_copyFrom_199).r,
  List.forall_mem_cons.mpr ⟨STP.r mo_inc (q_inc dX5_copyFrom_202 (by decide)),
  List.forall_mem_cons.mpr ⟨STP.r mo_goto (q_goto dX5_copyFrom_205 (by decide)),
  List.forall_mem_cons.mpr ⟨r_ret dX5_copyFrom_208,
  fun _ h => absurd h List.not_mem_nil⟩⟩⟩⟩⟩⟩⟩⟩⟩⟩⟩⟩⟩⟩⟩⟩⟩⟩⟩⟩⟩⟩⟩⟩⟩⟩⟩⟩⟩⟩⟩⟩⟩⟩⟩⟩⟩⟩⟩⟩⟩⟩⟩⟩⟩⟩⟩⟩⟩⟩⟩⟩⟩⟩⟩⟩⟩⟩⟩⟩⟩⟩⟩⟩⟩⟩⟩⟩⟩⟩⟩⟩⟩⟩⟩⟩⟩⟩⟩⟩⟩⟩⟩⟩⟩⟩⟩⟩⟩⟩⟩⟩⟩⟩⟩⟩⟩⟩⟩⟩⟩⟩⟩⟩⟩⟩⟩⟩⟩⟩⟩⟩⟩)
set_option maxRecDepth 100000 in
theorem e_X5_copyFrom_0 {Q : mQ} {l1 l2 : Value} {st : List Value} {g : mG} {x : Nat} : WP m_X5_copyFrom Q 0 [.ref x, l1, l2] st g = WP m_X5_copyFrom Q 1 [.ref x, l1, l2] (.ref x :: st) g := E_al (i := 0) (n := 1) lo_X5_copyFrom rfl rfl
set_option maxRecDepth 100000 in
theorem e_X5_copyFrom_1 {Q : mQ} {l0 l2 : Value} {st : List Value} {g : mG} {x : Nat} : WP m_X5_copyFrom Q 1 [l0, .ref x, l2] st g = WP m_X5_copyFrom Q 2 [l0, .ref x, l2] (.ref x :: st) g := E_al (i := 1) (n := 1) lo_X5_copyFrom rfl rfl
set_option maxRecDepth 100000 in
theorem e_X5_copyFrom_1n {Q : mQ} {l0 l2 : Value} {st : List Value} {g : mG} : WP m_X5_copyFrom Q 1 [l0, .null, l2] st g = WP m_X5_copyFrom Q 2 [l0, .null, l2] (.null :: st) g := E_aln (i := 1) (n := 1) lo_X5_copyFrom rfl rfl
set_option maxRecDepth 100000 in
theorem e_X5_copyFrom_2 {Q : mQ} {ls st : List Value} {g : mG} {a : Nat} : WP m_X5_copyFrom Q 2 ls (.ref a :: st) g = (gK g a = 6 ∧ WP m_X5_copyFrom Q 5 ls (.int (gI g a 0) :: st) g) := E_gI lo_X5_copyFrom rfl
set_option maxRecDepth 100000 in
theorem e_X5_copyFrom_5 {Q : mQ} {ls st : List Value} {g : mG} {a : Nat} {v : Int32} : WP m_X5_copyFrom Q 5 ls (.int v :: .ref a :: st) g = (gK g a = 6 ∧ WP m_X5_copyFrom Q 8 ls st (pI g a 0 v)) := E_pI lo_X5_copyFrom rfl
set_option maxRecDepth 100000 in
theorem e_X5_copyFrom_8 {Q : mQ} {l1 l2 : Value} {st : List Value} {g : mG} {x : Nat} : WP m_X5_copyFrom Q 8 [.ref x, l1, l2] st g = WP m_X5_copyFrom Q 9 [.ref x, l1, l2] (.ref x :: st) g := E_al (i := 0) (n := 1) lo_X5_copyFrom rfl rfl
set_option maxRecDepth 100000 in
theorem e_X5_copyFrom_9 {Q : mQ} {l0 l2 : Value} {st : List Value} {g : mG} {x : Nat} : WP m_X5_copyFrom Q 9 [l0, .ref x, l2] st g = WP m_X5_copyFrom Q 10 [l0, .ref x, l2] (.ref x :: st) g := E_al (i := 1) (n := 1) lo_X5_copyFrom rfl rfl
set_option maxRecDepth 100000 in
theorem e_X5_copyFrom_9n {Q : mQ} {l0 l2 : Value} {st : List Value} {g : mG} : WP m_X5_copyFrom Q 9 [l0, .null, l2] st g = WP m_X5_copyFrom Q 10 [l0, .null, l2] (.null :: st) g := E_aln (i := 1) (n := 1) lo_X5_copyFrom rfl rfl
set_option maxRecDepth 100000 in
theorem e_X5_copyFrom_10 {Q : mQ} {ls st : List Value} {g : mG} {a : Nat} : WP m_X5_copyFrom Q 10 ls (.ref a :: st) g = (gK g a = 6 ∧ WP m_X5_copyFrom Q 13 ls (.int (gI g a 1) :: st) g) := E_gI lo_X5_copyFrom rfl
set_option maxRecDepth 100000 in
theorem e_X5_copyFrom_13 {Q : mQ} {ls st : List Value} {g : mG} {a : Nat} {v : Int32} : WP m_X5_copyFrom Q 13 ls (.int v :: .ref a :: st) g = (gK g a = 6 ∧ WP m_X5_copyFrom Q 16 ls st (pI g a 1 v)) := E_pI lo_X5_copyFrom rfl
set_option maxRecDepth 100000 in
theorem e_X5_copyFrom_16 {Q : mQ} {l1 l2 : Value} {st : List Value} {g : mG} {x : Nat} : WP m_X5_copyFrom Q 16 [.ref x, l1, l2] st g = WP m_X5_copyFrom Q 17 [.ref x, l1, l2] (.ref x :: st) g := E_al (i := 0) (n := 1) lo_X5_copyFrom rfl rfl
set_option maxRecDepth 100000 in
theorem e_X5_copyFrom_17 {Q : mQ} {l0 l2 : Value} {st : List Value} {g : mG} {x : Nat} : WP m_X5_copyFrom Q 17 [l0, .ref x, l2] st g = WP m_X5_copyFrom Q 18 [l0, .ref x, l2] (.ref x :: st) g := E_al (i := 1) (n := 1) lo_X5_copyFrom rfl rfl
set_option maxRecDepth 100000 in
theorem e_X5_copyFrom_17n {Q : mQ} {l0 l2 : Value} {st : List Value} {g : mG} : WP m_X5_copyFrom Q 17 [l0, .null, l2] st g = WP m_X5_copyFrom Q 18 [l0, .null, l2] (.null :: st) g := E_aln (i := 1) (n := 1) lo_X5_copyFrom rfl rfl
set_option maxRecDepth 100000 in
theorem e_X5_copyFrom_18 {Q : mQ} {ls st : List Value} {g : mG} {a : Nat} : WP m_X5_copyFrom Q 18 ls (.ref a :: st) g = (gK g a = 6 ∧ WP m_X5_copyFrom Q 21 ls (.int (gI g a 2) :: st) g) := E_gI lo_X5_copyFrom rfl
set_option maxRecDepth 100000 in
theorem e_X5_copyFrom_21 {Q : mQ} {ls st : List Value} {g : mG} {a : Nat} {v : Int32} : WP m_X5_copyFrom Q 21 ls (.int v :: .ref a :: st) g = (gK g a = 6 ∧ WP m_X5_copyFrom Q 24 ls st (pI g a 2 v)) := E_pI lo_X5_copyFrom rfl
set_option maxRecDepth 100000 in
theorem e_X5_copyFrom_24 {Q : mQ} {l1 l2 : Value} {st : List Value} {g : mG} {x : Nat} : WP m_X5_copyFrom Q 24 [.ref x, l1, l2] st g = WP m_X5_copyFrom Q 25 [.ref x, l1, l2] (.ref x :: st) g := E_al (i := 0) (n := 1) lo_X5_copyFrom rfl rfl
set_option maxRecDepth 100000 in
theorem e_X5_copyFrom_25 {Q : mQ} {l0 l2 : Value} {st : List Value} {g : mG} {x : Nat} : WP m_X5_copyFrom Q 25 [l0, .ref x, l2] st g = WP m_X5_copyFrom Q 26 [l0, .ref x, l2] (.ref x :: st) g := E_al (i := 1) (n := 1) lo_X5_copyFrom rfl rfl
set_option maxRecDepth 100000 in
theorem e_X5_copyFrom_25n {Q : mQ} {l0 l2 : Value} {st : List Value} {g : mG} : WP m_X5_copyFrom Q 25 [l0, .null, l2] st g = WP m_X5_copyFrom Q 26 [l0, .null, l2] (.null :: st) g := E_aln (i := 1) (n := 1) lo_X5_copyFrom rfl rfl
set_option maxRecDepth 100000 in
theorem e_X5_copyFrom_26 {Q : mQ} {ls st : List Value} {g : mG} {a : Nat} : WP m_X5_copyFrom Q 26 ls (.ref a :: st) g = (gK g a = 6 ∧ WP m_X5_copyFrom Q 29 ls (.int (gI g a 3) :: st) g) := E_gI lo_X5_copyFrom rfl
set_option maxRecDepth 100000 in
theorem e_X5_copyFrom_29 {Q : mQ} {ls st : List Value} {g : mG} {a : Nat} {v : Int32} : WP m_X5_copyFrom Q 29 ls (.int v :: .ref a :: st) g = (gK g a = 6 ∧ WP m_X5_copyFrom Q 32 ls st (pI g a 3 v)) := E_pI lo_X5_copyFrom rfl
set_option maxRecDepth 100000 in
theorem e_X5_copyFrom_32 {Q : mQ} {l1 l2 : Value} {st : List Value} {g : mG} {x : Nat} : WP m_X5_copyFrom Q 32 [.ref x, l1, l2] st g = WP m_X5_copyFrom Q 33 [.ref x, l1, l2] (.ref x :: st) g := E_al (i := 0) (n := 1) lo_X5_copyFrom rfl rfl
set_option maxRecDepth 100000 in
theorem e_X5_copyFrom_33 {Q : mQ} {l0 l2 : Value} {st : List Value} {g : mG} {x : Nat} : WP m_X5_copyFrom Q 33 [l0, .ref x, l2] st g = WP m_X5_copyFrom Q 34 [l0, .ref x, l2] (.ref x :: st) g := E_al (i := 1) (n := 1) lo_X5_copyFrom rfl rfl
set_option maxRecDepth 100000 in
theorem e_X5_copyFrom_33n {Q : mQ} {l0 l2 : Value} {st : List Value} {g : mG} : WP m_X5_copyFrom Q 33 [l0, .null, l2] st g = WP m_X5_copyFrom Q 34 [l0, .null, l2] (.null :: st) g := E_aln (i := 1) (n := 1) lo_X5_copyFrom rfl rfl
set_option maxRecDepth 100000 in
theorem e_X5_copyFrom_34 {Q : mQ} {ls st : List Value} {g : mG} {a : Nat} : WP m_X5_copyFrom Q 34 ls (.ref a :: st) g = (gK g a = 6 ∧ WP m_X5_copyFrom Q 37 ls (.int (gI g a 4) :: st) g) := E_gI lo_X5_copyFrom rfl
set_option maxRecDepth 100000 in
theorem e_X5_copyFrom_37 {Q : mQ} {ls st : List Value} {g : mG} {a : Nat} {v : Int32} : WP m_X5_copyFrom Q 37 ls (.int v :: .ref a :: st) g = (gK g a = 6 ∧ WP m_X5_copyFrom Q 40 ls st (pI g a 4 v)) := E_pI lo_X5_copyFrom rfl
set_option maxRecDepth 100000 in
theorem e_X5_copyFrom_40 {Q : mQ} {l1 l2 : Value} {st : List Value} {g : mG} {x : Nat} : WP m_X5_copyFrom Q 40 [.ref x, l1, l2] st g = WP m_X5_copyFrom Q 41 [.ref x, l1, l2] (.ref x :: st) g := E_al (i := 0) (n := 1) lo_X5_copyFrom rfl rfl
set_option maxRecDepth 100000 in
theorem e_X5_copyFrom_41 {Q : mQ} {l0 l2 : Value} {st : List Value} {g : mG} {x : Nat} : WP m_X5_copyFrom Q 41 [l0, .ref x, l2] st g = WP m_X5_copyFrom Q 42 [l0, .ref x, l2] (.ref x :: st) g := E_al (i := 1) (n := 1) lo_X5_copyFrom rfl rfl
set_option maxRecDepth 100000 in
theorem e_X5_copyFrom_41n {Q : mQ} {l0 l2 : Value} {st : List Value} {g : mG} : WP m_X5_copyFrom Q 41 [l0, .null, l2] st g = WP m_X5_copyFrom Q 42 [l0, .null, l2] (.null :: st) g := E_aln (i := 1) (n := 1) lo_X5_copyFrom rfl rfl
set_option maxRecDepth 100000 in
theorem e_X5_copyFrom_42 {Q : mQ} {ls st : List Value} {g : mG} {a : Nat} : WP m_X5_copyFrom Q 42 ls (.ref a :: st) g = (gK g a = 6 ∧ WP m_X5_copyFrom Q 45 ls (.int (gI g a 5) :: st) g) := E_gI lo_X5_copyFrom rfl
set_option maxRecDepth 100000 in
theorem e_X5_copyFrom_45 {Q : mQ} {ls st : List Value} {g : mG} {a : Nat} {v : Int32} : WP m_X5_copyFrom Q 45 ls (.int v :: .ref a :: st) g = (gK g a = 6 ∧ WP m_X5_copyFrom Q 48 ls st (pI g a 5 v)) := E_pI lo_X5_copyFrom rfl
set_option maxRecDepth 100000 in
theorem e_X5_copyFrom_48 {Q : mQ} {l1 l2 : Value} {st : List Value} {g : mG} {x : Nat} : WP m_X5_copyFrom Q 48 [.ref x, l1, l2] st g = WP m_X5_copyFrom Q 49 [.ref x, l1, l2] (.ref x :: st) g := E_al (i := 0) (n := 1) lo_X5_copyFrom rfl rfl
set_option maxRecDepth 100000 in
theorem e_X5_copyFrom_49 {Q : mQ} {l0 l2 : Value} {st : List Value} {g : mG} {x : Nat} : WP m_X5_copyFrom Q 49 [l0, .ref x, l2] st g = WP m_X5_copyFrom Q 50 [l0, .ref x, l2] (.ref x :: st) g := E_al (i := 1) (n := 1) lo_X5_copyFrom rfl rfl
set_option maxRecDepth 100000 in
theorem e_X5_copyFrom_49n {Q : mQ} {l0 l2 : Value} {st : List Value} {g : mG} : WP m_X5_copyFrom Q 49 [l0, .null, l2] st g = WP m_X5_copyFrom Q 50 [l0, .null, l2] (.null :: st) g := E_aln (i := 1) (n := 1) lo_X5_copyFrom rfl rfl
set_option maxRecDepth 100000 in
theorem e_X5_copyFrom_50 {Q : mQ} {ls st : List Value} {g : mG} {a : Nat} : WP m_X5_copyFrom Q 50 ls (.ref a :: st) g = (gK g a = 6 ∧ WP m_X5_copyFrom Q 53 ls (.int (gI g a 6) :: st) g) := E_gI lo_X5_copyFrom rfl
set_option maxRecDepth 100000 in
theorem e_X5_copyFrom_53 {Q : mQ} {ls st : List Value} {g : mG} {a : Nat} {v : Int32} : WP m_X5_copyFrom Q 53 ls (.int v :: .ref a :: st) g = (gK g a = 6 ∧ WP m_X5_copyFrom Q 56 ls st (pI g a 6 v)) := E_pI lo_X5_copyFrom rfl
set_option maxRecDepth 100000 in
theorem e_X5_copyFrom_56 {Q : mQ} {l1 l2 : Value} {st : List Value} {g : mG} {x : Nat} : WP m_X5_copyFrom Q 56 [.ref x, l1, l2] st g = WP m_X5_copyFrom Q 57 [.ref x, l1, l2] (.ref x :: st) g := E_al (i := 0) (n := 1) lo_X5_copyFrom rfl rfl
set_option maxRecDepth 100000 in
theorem e_X5_copyFrom_57 {Q : mQ} {l0 l2 : Value} {st : List Value} {g : mG} {x : Nat} : WP m_X5_copyFrom Q 57 [l0, .ref x, l2] st g = WP m_X5_copyFrom Q 58 [l0, .ref x, l2] (.ref x :: st) g := E_al (i := 1) (n := 1) lo_X5_copyFrom rfl rfl
set_option maxRecDepth 100000 in
theorem e_X5_copyFrom_57n {Q : mQ} {l0 l2 : Value} {st : List Value} {g : mG} : WP m_X5_copyFrom Q 57 [l0, .null, l2] st g = WP m_X5_copyFrom Q 58 [l0, .null, l2] (.null :: st) g := E_aln (i := 1) (n := 1) lo_X5_copyFrom rfl rfl
set_option maxRecDepth 100000 in
theorem e_X5_copyFrom_58 {Q : mQ} {ls st : List Value} {g : mG} {a : Nat} : WP m_X5_copyFrom Q 58 ls (.ref a :: st) g = (gK g a = 6 ∧ WP m_X5_copyFrom Q 61 ls (.int (gI g a 7) :: st) g) := E_gI lo_X5_copyFrom rfl
set_option maxRecDepth 100000 in
theorem e_X5_copyFrom_61 {Q : mQ} {ls st : List Value} {g : mG} {a : Nat} {v : Int32} : WP m_X5_copyFrom Q 61 ls (.int v :: .ref a :: st) g = (gK g a = 6 ∧ WP m_X5_copyFrom Q 64 ls st (pI g a 7 v)) := E_pI lo_X5_copyFrom rfl
set_option maxRecDepth 100000 in
theorem e_X5_copyFrom_64 {Q : mQ} {l1 l2 : Value} {st : List Value} {g : mG} {x : Nat} : WP m_X5_copyFrom Q 64 [.ref x, l1, l2] st g = WP m_X5_copyFrom Q 65 [.ref x, l1, l2] (.ref x :: st) g := E_al (i := 0) (n := 1) lo_X5_copyFrom rfl rfl
set_option maxRecDepth 100000 in
theorem e_X5_copyFrom_65 {Q : mQ} {l0 l2 : Value} {st : List Value} {g : mG} {x : Nat} : WP m_X5_copyFrom Q 65 [l0, .ref x, l2] st g = WP m_X5_copyFrom Q 66 [l0, .ref x, l2] (.ref x :: st) g := E_al (i := 1) (n := 1) lo_X5_copyFrom rfl rfl
set_option maxRecDepth 100000 in
theorem e_X5_copyFrom_65n {Q : mQ} {l0 l2 : Value} {st : List Value} {g : mG} : WP m_X5_copyFrom Q 65 [l0, .null, l2] st g = WP m_X5_copyFrom Q 66 [l0, .null, l2] (.null :: st) g := E_aln (i := 1) (n := 1) lo_X5_copyFrom rfl rfl
set_option maxRecDepth 100000 in
theorem e_X5_copyFrom_66 {Q : mQ} {ls st : List Value} {g : mG} {a : Nat} : WP m_X5_copyFrom Q 66 ls (.ref a :: st) g = (gK g a = 6 ∧ WP m_X5_copyFrom Q 69 ls (.int (gI g a 8) :: st) g) := E_gI lo_X5_copyFrom rfl
set_option maxRecDepth 100000 in
theorem e_X5_copyFrom_69 {Q : mQ} {ls st : List Value} {g : mG} {a : Nat} {v : Int32} : WP m_X5_copyFrom Q 69 ls (.int v :: .ref a :: st) g = (gK g a = 6 ∧ WP m_X5_copyFrom Q 72 ls st (pI g a 8 v)) := E_pI lo_X5_copyFrom rfl
set_option maxRecDepth 100000 in
theorem e_X5_copyFrom_72 {Q : mQ} {l1 l2 : Value} {st : List Value} {g : mG} {x : Nat} : WP m_X5_copyFrom Q 72 [.ref x, l1, l2] st g = WP m_X5_copyFrom Q 73 [.ref x, l1, l2] (.ref x :: st) g := E_al (i := 0) (n := 1) lo_X5_copyFrom rfl rfl
set_option maxRecDepth 100000 in
theorem e_X5_copyFrom_73 {Q : mQ} {l0 l2 : Value} {st : List Value} {g : mG} {x : Nat} : WP m_X5_copyFrom Q 73 [l0, .ref x, l2] st g = WP m_X5_copyFrom Q 74 [l0, .ref x, l2] (.ref x :: st) g := E_al (i := 1) (n := 1) lo_X5_copyFrom rfl rfl
set_option maxRecDepth 100000 in
theorem e_X5_copyFrom_73n {Q : mQ} {l0 l2 : Value} {st : List Value} {g : mG} : WP m_X5_copyFrom Q 73 [l0, .null, l2] st g = WP m_X5_copyFrom Q 74 [l0, .null, l2] (.null :: st) g := E_aln (i := 1) (n := 1) lo_X5_copyFrom rfl rfl
set_option maxRecDepth 100000 in
theorem e_X5_copyFrom_74 {Q : mQ} {ls st : List Value} {g : mG} {a : Nat} : WP m_X5_copyFrom Q 74 ls (.ref a :: st) g = (gK g a = 6 ∧ WP m_X5_copyFrom Q 77 ls (.int (gI g a 9) :: st) g) := E_gI lo_X5_copyFrom rfl
set_option maxRecDepth 100000 in
theorem e_X5_copyFrom_77 {Q : mQ} {ls st : List Value} {g : mG} {a : Nat} {v : Int32} : WP m_X5_copyFrom Q 77 ls (.int v :: .ref a :: st) g = (gK g a = 6 ∧ WP m_X5_copyFrom Q 80 ls st (pI g a 9 v)) := E_pI lo_X5_copyFrom rfl
set_option maxRecDepth 100000 in
theorem e_X5_copyFrom_80 {Q : mQ} {l1 l2 : Value} {st : List Value} {g : mG} {x : Nat} : WP m_X5_copyFrom Q 80 [.ref x, l1, l2] st g = WP m_X5_copyFrom Q 81 [.ref x, l1, l2] (.ref x :: st) g := E_al (i := 0) (n := 1) lo_X5_copyFrom rfl rfl
set_option maxRecDepth 100000 in
theorem e_X5_copyFrom_81 {Q : mQ} {l0 l2 : Value} {st : List Value} {g : mG} {x : Nat} : WP m_X5_copyFrom Q 81 [l0, .ref x, l2] st g = WP m_X5_copyFrom Q 82 [l0, .ref x, l2] (.ref x :: st) g := E_al (i := 1) (n := 1) lo_X5_copyFrom rfl rfl
set_option maxRecDepth 100000 in
theorem e_X5_copyFrom_81n {Q : mQ} {l0 l2 : Value} {st : List Value} {g : mG} : WP m_X5_copyFrom Q 81 [l0, .null, l2] st g = WP m_X5_copyFrom Q 82 [l0, .null, l2] (.null :: st) g := E_aln (i := 1) (n := 1) lo_X5_copyFrom rfl rfl
set_option maxRecDepth 100000 in
theorem e_X5_copyFrom_82 {Q : mQ} {ls st : List Value} {g : mG} {a : Nat} : WP m_X5_copyFrom Q 82 ls (.ref a :: st) g = (gK g a = 6 ∧ WP m_X5_copyFrom Q 85 ls (.int (gI g a 10) :: st) g) := E_gI lo_X5_copyFrom rfl
set_option maxRecDepth 100000 in
theorem e_X5_copyFrom_85 {Q : mQ} {ls st : List Value} {g : mG} {a : Nat} {v : Int32} : WP m_X5_copyFrom Q 85 ls (.int v :: .ref a :: st) g = (gK g a = 6 ∧ WP m_X5_copyFrom Q 88 ls st (pI g a 10 v)) := E_pI lo_X5_copyFrom rfl
set_option maxRecDepth 100000 in
theorem e_X5_copyFrom_88 {Q : mQ} {ls st : List Value} {g : mG} : WP m_X5_copyFrom Q 88 ls st g = WP m_X5_copyFrom Q 89 ls (.int (nI 0) :: st) g := E_ic (v := nI 0) (n := 1) lo_X5_copyFrom rfl
set_option maxRecDepth 100000 in
theorem e_X5_copyFrom_89 {Q : mQ} {l0 l1 l2 : Value} {st : List Value} {g : mG} {x : Int32} : WP m_X5_copyFrom Q 89 [l0, l1, l2] (.int x :: st) g = (nl1 l1 ∧ WP m_X5_copyFrom Q 90 [l0, l1, .int x] st g) := E_is (i := 2) (n := 1) lo_X5_copyFrom rfl (Nat.le_of_ble_eq_true rfl)
set_option maxRecDepth 100000 in
theorem e_X5_copyFrom_90 {Q : mQ} {l0 l1 : Value} {st : List Value} {g : mG} {x : Int32} : WP m_X5_copyFrom Q 90 [l0, l1, .int x] st g = WP m_X5_copyFrom Q 91 [l0, l1, .int x] (.int x :: st) g := E_il (i := 2) (n := 1) lo_X5_copyFrom rfl rfl
set_option maxRecDepth 100000 in
theorem e_X5_copyFrom_91 {Q : mQ} {l1 l2 : Value} {st : List Value} {g : mG} {x : Nat} : WP m_X5_copyFrom Q 91 [.ref x, l1, l2] st g = WP m_X5_copyFrom Q 92 [.ref x, l1, l2] (.ref x :: st) g := E_al (i := 0) (n := 1) lo_X5_copyFrom rfl rfl
set_option maxRecDepth 100000 in
theorem e_X5_copyFrom_92 {Q : mQ} {ls st : List Value} {g : mG} {a : Nat} : WP m_X5_copyFrom Q 92 ls (.ref a :: st) g = ((gK g a = 6 ∧ gR g a 11 ≠ 0) ∧ WP m_X5_copyFrom Q 95 ls (.ref (gR g a 11) :: st) g) := E_gR lo_X5_copyFrom rfl
set_option maxRecDepth 100000 in
theorem e_X5_copyFrom_95 {Q : mQ} {ls st : List Value} {g : mG} {a : Nat} : WP m_X5_copyFrom Q 95 ls (.ref a :: st) g = ((10 ≤ gK g a ∧ gK g a ≤ 17) ∧ WP m_X5_copyFrom Q 96 ls (.int (nI (gN g a)) :: st) g) := E_alen lo_X5_copyFrom rfl
set_option maxRecDepth 100000 in
theorem e_X5_copyFrom_96 {Q : mQ} {ls st : List Value} {g : mG} {x y : Int32} : WP m_X5_copyFrom Q 96 ls (.int y :: .int x :: st) g = ((y ≤ x → WP m_X5_copyFrom Q 126 ls st g) ∧ (¬ (y ≤ x) → WP m_X5_copyFrom Q 99 ls st g)) := E_I2 (c := fun x y => y ≤ x) (t := 126) lo_X5_copyFrom rfl
set_option maxRecDepth 100000 in
theorem e_X5_copyFrom_99 {Q : mQ} {l0 l1 : Value} {st : List Value} {g : mG} {x : Int32} : WP m_X5_copyFrom Q 99 [l0, l1, .int x] st g = WP m_X5_copyFrom Q 100 [l0, l1, .int x] (.int x :: st) g := E_il (i := 2) (n := 1) lo_X5_copyFrom rfl rfl
set_option maxRecDepth 100000 in
theorem e_X5_copyFrom_100 {Q : mQ} {l0 l2 : Value} {st : List Value} {g : mG} {x : Nat} : WP m_X5_copyFrom Q 100 [l0, .ref x, l2] st g = WP m_X5_copyFrom Q 101 [l0, .ref x, l2] (.ref x :: st) g := E_al (i := 1) (n := 1) lo_X5_copyFrom rfl rfl
set_option maxRecDepth 100000 in
theorem e_X5_copyFrom_100n {Q : mQ} {l0 l2 : Value} {st : List Value} {g : mG} : WP m_X5_copyFrom Q 100 [l0, .null, l2] st g = WP m_X5_copyFrom Q 101 [l0, .null, l2] (.null :: st) g := E_aln (i := 1) (n := 1) lo_X5_copyFrom rfl rfl
set_option maxRecDepth 100000 in
theorem e_X5_copyFrom_101 {Q : mQ} {ls st : List Value} {g : mG} {a : Nat} : WP m_X5_copyFrom Q 101 ls (.ref a :: st) g = ((gK g a = 6 ∧ gR g a 11 ≠ 0) ∧ WP m_X5_copyFrom Q 104 ls (.ref (gR g a 11) :: st) g) := E_gR lo_X5_copyFrom rfl
set_option maxRecDepth 100000 in
theorem e_X5_copyFrom_104 {Q : mQ} {ls st : List Value} {g : mG} {a : Nat} : WP m_X5_copyFrom Q 104 ls (.ref a :: st) g = ((10 ≤ gK g a ∧ gK g a ≤ 17) ∧ WP m_X5_copyFrom Q 105 ls (.int (nI (gN g a)) :: st) g) := E_alen lo_X5_copyFrom rfl
set_option maxRecDepth 100000 in
theorem e_X5_copyFrom_105 {Q : mQ} {ls st : List Value} {g : mG} {x y : Int32} : WP m_X5_copyFrom Q 105 ls (.int y :: .int x :: st) g = ((y ≤ x → WP m_X5_copyFrom Q 126 ls st g) ∧ (¬ (y ≤ x) → WP m_X5_copyFrom Q 108 ls st g)) := E_I2 (c := fun x y => y ≤ x) (t := 126) lo_X5_copyFrom rfl
set_option maxRecDepth 100000 in
theorem e_X5_copyFrom_108 {Q : mQ} {l1 l2 : Value} {st : List Value} {g : mG} {x : Nat} : WP m_X5_copyFrom Q 108 [.ref x, l1, l2] st g = WP m_X5_copyFrom Q 109 [.ref x, l1, l2] (.ref x :: st) g := E_al (i := 0) (n := 1) lo_X5_copyFrom rfl rfl
set_option maxRecDepth 100000 in
theorem e_X5_copyFrom_109 {Q : mQ} {ls st : List Value} {g : mG} {a : Nat} : WP m_X5_copyFrom Q 109 ls (.ref a :: st) g = ((gK g a = 6 ∧ gR g a 11 ≠ 0) ∧ WP m_X5_copyFrom Q 112 ls (.ref (gR g a 11) :: st) g) := E_gR lo_X5_copyFrom rfl
set_option maxRecDepth 100000 in
theorem e_X5_copyFrom_112 {Q : mQ} {l0 l1 : Value} {st : List Value} {g : mG} {x : Int32} : WP m_X5_copyFrom Q 112 [l0, l1, .int x] st g = WP m_X5_copyFrom Q 113 [l0, l1, .int x] (.int x :: st) g := E_il (i := 2) (n := 1) lo_X5_copyFrom rfl rfl
set_option maxRecDepth 100000 in
theorem e_X5_copyFrom_113 {Q : mQ} {l0 l2 : Value} {st : List Value} {g : mG} {x : Nat} : WP m_X5_copyFrom Q 113 [l0, .ref x, l2] st g = WP m_X5_copyFrom Q 114 [l0, .ref x, l2] (.ref x :: st) g := E_al (i := 1) (n := 1) lo_X5_copyFrom rfl rfl
set_option maxRecDepth 100000 in
theorem e_X5_copyFrom_113n {Q : mQ} {l0 l2 : Value} {st : List Value} {g : mG} : WP m_X5_copyFrom Q 113 [l0, .null, l2] st g = WP m_X5_copyFrom Q 114 [l0, .null, l2] (.null :: st) g := E_aln (i := 1) (n := 1) lo_X5_copyFrom rfl rfl
set_option maxRecDepth 100000 in
theorem e_X5_copyFrom_114 {Q : mQ} {ls st : List Value} {g : mG} {a : Nat} : WP m_X5_copyFrom Q 114 ls (.ref a :: st) g = ((gK g a = 6 ∧ gR g a 11 ≠ 0) ∧ WP m_X5_copyFrom Q 117 ls (.ref (gR g a 11) :: st) g) := E_gR lo_X5_copyFrom rfl
set_option maxRecDepth 100000 in
theorem e_X5_copyFrom_117 {Q : mQ} {l0 l1 : Value} {st : List Value} {g : mG} {x : Int32} : WP m_X5_copyFrom Q 117 [l0, l1, .int x] st g = WP m_X5_copyFrom Q 118 [l0, l1, .int x] (.int x :: st) g := E_il (i := 2) (n := 1) lo_X5_copyFrom rfl rfl
set_option maxRecDepth 100000 in
theorem e_X5_copyFrom_118 {Q : mQ} {ls st : List Value} {g : mG} {a : Nat} {i : Int32} : WP m_X5_copyFrom Q 118 ls (.int i :: .ref a :: st) g = ((isIA g a ∧ vp_in i (gN g a)) ∧ WP m_X5_copyFrom Q 119 ls (.int (gI g a i.toNatClampNeg) :: st) g) := E_iald lo_X5_copyFrom rfl
set_option maxRecDepth 100000 in
theorem e_X5_copyFrom_119 {Q : mQ} {ls st : List Value} {g : mG} {a : Nat} {i v : Int32} : WP m_X5_copyFrom Q 119 ls (.int v :: .int i :: .ref a :: st) g = (((gK g a = 11 ∨ gK g a = 12) ∧ vp_in i (gN g a)) ∧ WP m_X5_copyFrom Q 120 ls st (pI g a i.toNatClampNeg v)) := E_iast lo_X5_copyFrom rfl
set_option maxRecDepth 100000 in
theorem e_X5_copyFrom_120 {Q : mQ} {l0 l1 : Value} {st : List Value} {g : mG} {x : Int32} : WP m_X5_copyFrom Q 120 [l0, l1, .int x] st g = (nl1 l1 ∧ WP m_X5_copyFrom Q 123 [l0, l1, .int (x + nI 1)] st g) := E_inc (i := 2) (d := nI 1) lo_X5_copyFrom rfl rfl
set_option maxRecDepth 100000 in
theorem e_X5_copyFrom_123 {Q : mQ} {ls st : List Value} {g : mG} : WP m_X5_copyFrom Q 123 ls st g = WP m_X5_copyFrom Q 90 ls st g := E_goto lo_X5_copyFrom rfl
set_option maxRecDepth 100000 in
theorem e_X5_copyFrom_126 {Q : mQ} {ls st : List Value} {g : mG} : WP m_X5_copyFrom Q 126 ls st g = WP m_X5_copyFrom Q 127 ls (.int (nI 0) :: st) g := E_ic (v := nI 0) (n := 1) lo_X5_copyFrom rfl
set_option maxRecDepth 100000 in
theorem e_X5_copyFrom_127 {Q : mQ} {l0 l1 l2 : Value} {st : List Value} {g : mG} {x : Int32} : WP m_X5_copyFrom Q 127 [l0, l1, l2] (.int x :: st) g = (nl1 l1 ∧ WP m_X5_copyFrom Q 128 [l0, l1, .int x] st g) := E_is (i := 2) (n := 1) lo_X5_copyFrom rfl (Nat.le_of_ble_eq_true rfl)
set_option maxRecDepth 100000 in
theorem e_X5_copyFrom_128 {Q : mQ} {l0 l1 : Value} {st : List Value} {g : mG} {x : Int32} : WP m_X5_copyFrom Q 128 [l0, l1, .int x] st g = WP m_X5_copyFrom Q 129 [l0, l1, .int x] (.int x :: st) g := E_il (i := 2) (n := 1) lo_X5_copyFrom rfl rfl
set_option maxRecDepth 100000 in
theorem e_X5_copyFrom_129 {Q : mQ} {l1 l2 : Value} {st : List Value} {g : mG} {x : Nat} : WP m_X5_copyFrom Q 129 [.ref x, l1, l2] st g = WP m_X5_copyFrom Q 130 [.ref x, l1, l2] (.ref x :: st) g := E_al (i := 0) (n := 1) lo_X5_copyFrom rfl rfl
set_option maxRecDepth 100000 in
theorem e_X5_copyFrom_130 {Q : mQ} {ls st : List Value} {g : mG} {a : Nat} : WP m_X5_copyFrom Q 130 ls (.ref a :: st) g = ((gK g a = 6 ∧ gR g a 12 ≠ 0) ∧ WP m_X5_copyFrom Q 133 ls (.ref (gR g a 12) :: st) g) := E_gR lo_X5_copyFrom rfl
set_option maxRecDepth 100000 in
theorem e_X5_copyFrom_133 {Q : mQ} {ls st : List Value} {g : mG} {a : Nat} : WP m_X5_copyFrom Q 133 ls (.ref a :: st) g = ((10 ≤ gK g a ∧ gK g a ≤ 17) ∧ WP m_X5_copyFrom Q 134 ls (.int (nI (gN g a)) :: st) g) := E_alen lo_X5_copyFrom rfl
set_option maxRecDepth 100000 in
theorem e_X5_copyFrom_134 {Q : mQ} {ls st : List Value} {g : mG} {x y : Int32} : WP m_X5_copyFrom Q 134 ls (.int y :: .int x :: st) g = ((y ≤ x → WP m_X5_copyFrom Q 167 ls st g) ∧ (¬ (y ≤ x) → WP m_X5_copyFrom Q 137 ls st g)) := E_I2 (c := fun x y => y ≤ x) (t := 167) lo_X5_copyFrom rfl
set_option maxRecDepth 100000 in
theorem e_X5_copyFrom_137 {Q : mQ} {l0 l1 : Value} {st : List Value} {g : mG} {x : Int32} : WP m_X5_copyFrom Q 137 [l0, l1, .int x] st g = WP m_X5_copyFrom Q 138 [l0, l1, .int x] (.int x :: st) g := E_il (i := 2) (n := 1) lo_X5_copyFrom rfl rfl
set_option maxRecDepth 100000 in
theorem e_X5_copyFrom_138 {Q : mQ} {l0 l2 : Value} {st : List Value} {g : mG} {x : Nat} : WP m_X5_copyFrom Q 138 [l0, .ref x, l2] st g = WP m_X5_copyFrom Q 139 [l0, .ref x, l2] (.ref x :: st) g := E_al (i := 1) (n := 1) lo_X5_copyFrom rfl rfl
set_option maxRecDepth 100000 in
theorem e_X5_copyFrom_138n {Q : mQ} {l0 l2 : Value} {st : List Value} {g : mG} : WP m_X5_copyFrom Q 138 [l0, .null, l2] st g = WP m_X5_copyFrom Q 139 [l0, .null, l2] (.null :: st) g := E_aln (i := 1) (n := 1) lo_X5_copyFrom rfl rfl
set_option maxRecDepth 100000 in
theorem e_X5_copyFrom_139 {Q : mQ} {ls st : List Value} {g : mG} {a : Nat} : WP m_X5_copyFrom Q 139 ls (.ref a :: st) g = ((gK g a = 6 ∧ gR g a 12 ≠ 0) ∧ WP m_X5_copyFrom Q 142 ls (.ref (gR g a 12) :: st) g) := E_gR lo_X5_copyFrom rfl
set_option maxRecDepth 100000 in
theorem e_X5_copyFrom_142 {Q : mQ} {ls st : List Value} {g : mG} {a : Nat} : WP m_X5_copyFrom Q 142 ls (.ref a :: st) g = ((10 ≤ gK g a ∧ gK g a ≤ 17) ∧ WP m_X5_copyFrom Q 143 ls (.int (nI (gN g a)) :: st) g) := E_alen lo_X5_copyFrom rfl
set_option maxRecDepth 100000 in
theorem e_X5_copyFrom_143 {Q : mQ} {ls st : List Value} {g : mG} {x y : Int32} : WP m_X5_copyFrom Q 143 ls (.int y :: .int x :: st) g = ((y ≤ x → WP m_X5_copyFrom Q 167 ls st g) ∧ (¬ (y ≤ x) → WP m_X5_copyFrom Q 146 ls st g)) := E_I2 (c := fun x y => y ≤ x) (t := 167) lo_X5_copyFrom rfl
set_option maxRecDepth 100000 in
theorem e_X5_copyFrom_146 {Q : mQ} {l1 l2 : Value} {st : List Value} {g : mG} {x : Nat} : WP m_X5_copyFrom Q 146 [.ref x, l1, l2] st g = WP m_X5_copyFrom Q 147 [.ref x, l1, l2] (.ref x :: st) g := E_al (i := 0) (n := 1) lo_X5_copyFrom rfl rfl
set_option maxRecDepth 100000 in
theorem e_X5_copyFrom_147 {Q : mQ} {ls st : List Value} {g : mG} {a : Nat} : WP m_X5_copyFrom Q 147 ls (.ref a :: st) g = ((gK g a = 6 ∧ gR g a 12 ≠ 0) ∧ WP m_X5_copyFrom Q 150 ls (.ref (gR g a 12) :: st) g) := E_gR lo_X5_copyFrom rfl
set_option maxRecDepth 100000 in
theorem e_X5_copyFrom_150 {Q : mQ} {l0 l1 : Value} {st : List Value} {g : mG} {x : Int32} : WP m_X5_copyFrom Q 150 [l0, l1, .int x] st g = WP m_X5_copyFrom Q 151 [l0, l1, .int x] (.int x :: st) g := E_il (i := 2) (n := 1) lo_X5_copyFrom rfl rfl
set_option maxRecDepth 100000 in
theorem e_X5_copyFrom_151 {Q : mQ} {ls st : List Value} {g : mG} {a : Nat} {i : Int32} : WP m_X5_copyFrom Q 151 ls (.int i :: .ref a :: st) g = ((gK g a = 14 ∧ vp_in i (gN g a) ∧ gR g a i.toNatClampNeg ≠ 0) ∧ WP m_X5_copyFrom Q 152 ls (.ref (gR g a i.toNatClampNeg) :: st) g) := E_aald lo_X5_copyFrom rfl
set_option maxRecDepth 100000 in
theorem e_X5_copyFrom_152 {Q : mQ} {l0 l2 : Value} {st : List Value} {g : mG} {x : Nat} : WP m_X5_copyFrom Q 152 [l0, .ref x, l2] st g = WP m_X5_copyFrom Q 153 [l0, .ref x, l2] (.ref x :: st) g := E_al (i := 1) (n := 1) lo_X5_copyFrom rfl rfl
set_option maxRecDepth 100000 in
theorem e_X5_copyFrom_152n {Q : mQ} {l0 l2 : Value} {st : List Value} {g : mG} : WP m_X5_copyFrom Q 152 [l0, .null, l2] st g = WP m_X5_copyFrom Q 153 [l0, .null, l2] (.null :: st) g := E_aln (i := 1) (n := 1) lo_X5_copyFrom rfl rfl
set_option maxRecDepth 100000 in
theorem e_X5_copyFrom_153 {Q : mQ} {ls st : List Value} {g : mG} {a : Nat} : WP m_X5_copyFrom Q 153 ls (.ref a :: st) g = ((gK g a = 6 ∧ gR g a 12 ≠ 0) ∧ WP m_X5_copyFrom Q 156 ls (.ref (gR g a 12) :: st) g) := E_gR lo_X5_copyFrom rfl
set_option maxRecDepth 100000 in
theorem e_X5_copyFrom_156 {Q : mQ} {l0 l1 : Value} {st : List Value} {g : mG} {x : Int32} : WP m_X5_copyFrom Q 156 [l0, l1, .int x] st g = WP m_X5_copyFrom Q 157 [l0, l1, .int x] (.int x :: st) g := E_il (i := 2) (n := 1) lo_X5_copyFrom rfl rfl
set_option maxRecDepth 100000 in
theorem e_X5_copyFrom_157 {Q : mQ} {ls st : List Value} {g : mG} {a : Nat} {i : Int32} : WP m_X5_copyFrom Q 157 ls (.int i :: .ref a :: st) g = ((gK g a = 14 ∧ vp_in i (gN g a) ∧ gR g a i.toNatClampNeg ≠ 0) ∧ WP m_X5_copyFrom Q 158 ls (.ref (gR g a i.toNatClampNeg) :: st) g) := E_aald lo_X5_copyFrom rfl
set_option maxRecDepth 100000 in
theorem e_X5_copyFrom_158 {Q : mQ} {ls st : List Value} {g : mG} {b : Nat} {a0 : Value} : WP m_X5_copyFrom Q 158 ls (a0 :: .ref b :: st) g = (st.length ≤ 4 ∧ gK g b = 1 ∧ stbs g ls ∧ stbs g st ∧ w_X0_copyFrom [.ref b, a0] g (fun v g' => WP m_X5_copyFrom Q 161 ls (v.toList ++ st) g')) := E_CV (ar := [a0, .ref b]) lo_X5_copyFrom rfl rfl rfl (by decide)
set_option maxRecDepth 100000 in
theorem e_X5_copyFrom_161 {Q : mQ} {l0 l1 : Value} {st : List Value} {g : mG} {x : Int32} : WP m_X5_copyFrom Q 161 [l0, l1, .int x] st g = (nl1 l1 ∧ WP m_X5_copyFrom Q 164 [l0, l1, .int (x + nI 1)] st g) := E_inc (i := 2) (d := nI 1) lo_X5_copyFrom rfl rfl
set_option maxRecDepth 100000 in
theorem e_X5_copyFrom_164 {Q : mQ} {ls st : List Value} {g : mG} : WP m_X5_copyFrom Q 164 ls st g = WP m_X5_copyFrom Q 128 ls st g := E_goto lo_X5_copyFrom rfl
set_option maxRecDepth 100000 in
theorem e_X5_copyFrom_167 {Q : mQ} {ls st : List Value} {g : mG} : WP m_X5_copyFrom Q 167 ls st g = WP m_X5_copyFrom Q 168 ls (.int (nI 0) :: st) g := E_ic (v := nI 0) (n := 1) lo_X5_copyFrom rfl
set_option maxRecDepth 100000 in
theorem e_X5_copyFrom_168 {Q : mQ} {l0 l1 l2 : Value} {st : List Value} {g : mG} {x : Int32} : WP m_X5_copyFrom Q 168 [l0, l1, l2] (.int x :: st) g = (nl1 l1 ∧ WP m_X5_copyFrom Q 169 [l0, l1, .int x] st g) := E_is (i := 2) (n := 1) lo_X5_copyFrom rfl (Nat.le_of_ble_eq_true rfl)
set_option maxRecDepth 100000 in
theorem e_X5_copyFrom_169 {Q : mQ} {l0 l1 : Value} {st : List Value} {g : mG} {x : Int32} : WP m_X5_copyFrom Q 169 [l0, l1, .int x] st g = WP m_X5_copyFrom Q 170 [l0, l1, .int x] (.int x :: st) g := E_il (i := 2) (n := 1) lo_X5_copyFrom rfl rfl
set_option maxRecDepth 100000 in
theorem e_X5_copyFrom_170 {Q : mQ} {l1 l2 : Value} {st : List Value} {g : mG} {x : Nat} : WP m_X5_copyFrom Q 170 [.ref x, l1, l2] st g = WP m_X5_copyFrom Q 171 [.ref x, l1, l2] (.ref x :: st) g := E_al (i := 0) (n := 1) lo_X5_copyFrom rfl rfl
set_option maxRecDepth 100000 in
theorem e_X5_copyFrom_171 {Q : mQ} {ls st : List Value} {g : mG} {a : Nat} : WP m_X5_copyFrom Q 171 ls (.ref a :: st) g = ((gK g a = 6 ∧ gR g a 13 ≠ 0) ∧ WP m_X5_copyFrom Q 174 ls (.ref (gR g a 13) :: st) g) := E_gR lo_X5_copyFrom rfl
set_option maxRecDepth 100000 in
theorem e_X5_copyFrom_174 {Q : mQ} {ls st : List Value} {g : mG} {a : Nat} : WP m_X5_copyFrom Q 174 ls (.ref a :: st) g = ((10 ≤ gK g a ∧ gK g a ≤ 17) ∧ WP m_X5_copyFrom Q 175 ls (.int (nI (gN g a)) :: st) g) := E_alen lo_X5_copyFrom rfl
set_option maxRecDepth 100000 in
theorem e_X5_copyFrom_175 {Q : mQ} {ls st : List Value} {g : mG} {x y : Int32} : WP m_X5_copyFrom Q 175 ls (.int y :: .int x :: st) g = ((y ≤ x → WP m_X5_copyFrom Q 208 ls st g) ∧ (¬ (y ≤ x) → WP m_X5_copyFrom Q 178 ls st g)) := E_I2 (c := fun x y => y ≤ x) (t := 208) lo_X5_copyFrom rfl
set_option maxRecDepth 100000 in
theorem e_X5_copyFrom_178 {Q : mQ} {l0 l1 : Value} {st : List Value} {g : mG} {x : Int32} : WP m_X5_copyFrom Q 178 [l0, l1, .int x] st g = WP m_X5_copyFrom Q 179 [l0, l1, .int x] (.int x :: st) g := E_il (i := 2) (n := 1) lo_X5_copyFrom rfl rfl
set_option maxRecDepth 100000 in
theorem e_X5_copyFrom_179 {Q : mQ} {l0 l2 : Value} {st : List Value} {g : mG} {x : Nat} : WP m_X5_copyFrom Q 179 [l0, .ref x, l2] st g = WP m_X5_copyFrom Q 180 [l0, .ref x, l2] (.ref x :: st) g := E_al (i := 1) (n := 1) lo_X5_copyFrom rfl rfl
set_option maxRecDepth 100000 in
theorem e_X5_copyFrom_179n {Q : mQ} {l0 l2 : Value} {st : List Value} {g : mG} : WP m_X5_copyFrom Q 179 [l0, .null, l2] st g = WP m_X5_copyFrom Q 180 [l0, .null, l2] (.null :: st) g := E_aln (i := 1) (n := 1) lo_X5_copyFrom rfl rfl
set_option maxRecDepth 100000 in
theorem e_X5_copyFrom_180 {Q : mQ} {ls st : List Value} {g : mG} {a : Nat} : WP m_X5_copyFrom Q 180 ls (.ref a :: st) g = ((gK g a = 6 ∧ gR g a 13 ≠ 0) ∧ WP m_X5_copyFrom Q 183 ls (.ref (gR g a 13) :: st) g) := E_gR lo_X5_copyFrom rfl
set_option maxRecDepth 100000 in
theorem e_X5_copyFrom_183 {Q : mQ} {ls st : List Value} {g : mG} {a : Nat} : WP m_X5_copyFrom Q 183 ls (.ref a :: st) g = ((10 ≤ gK g a ∧ gK g a ≤ 17) ∧ WP m_X5_copyFrom Q 184 ls (.int (nI (gN g a)) :: st) g) := E_alen lo_X5_copyFrom rfl
set_option maxRecDepth 100000 in
theorem e_X5_copyFrom_184 {Q : mQ} {ls st : List Value} {g : mG} {x y : Int32} : WP m_X5_copyFrom Q 184 ls (.int y :: .int x :: st) g = ((y ≤ x → WP m_X5_copyFrom Q 208 ls st g) ∧ (¬ (y ≤ x) → WP m_X5_copyFrom Q 187 ls st g)) := E_I2 (c := fun x y => y ≤ x) (t := 208) lo_X5_copyFrom rfl
set_option maxRecDepth 100000 in
theorem e_X5_copyFrom_187 {Q : mQ} {l1 l2 : Value} {st : List Value} {g : mG} {x : Nat} : WP m_X5_copyFrom Q 187 [.ref x, l1, l2] st g = WP m_X5_copyFrom Q 188 [.ref x, l1, l2] (.ref x :: st) g := E_al (i := 0) (n := 1) lo_X5_copyFrom rfl rfl
set_option maxRecDepth 100000 in
theorem e_X5_copyFrom_188 {Q : mQ} {ls st : List Value} {g : mG} {a : Nat} : WP m_X5_copyFrom Q 188 ls (.ref a :: st) g = ((gK g a = 6 ∧ gR g a 13 ≠ 0) ∧ WP m_X5_copyFrom Q 191 ls (.ref (gR g a 13) :: st) g) := E_gR lo_X5_copyFrom rfl
set_option maxRecDepth 100000 in
theorem e_X5_copyFrom_191 {Q : mQ} {l0 l1 : Value} {st : List Value} {g : mG} {x : Int32} : WP m_X5_copyFrom Q 191 [l0, l1, .int x] st g = WP m_X5_copyFrom Q 192 [l0, l1, .int x] (.int x :: st) g := E_il (i := 2) (n := 1) lo_X5_copyFrom rfl rfl
set_option maxRecDepth 100000 in
theorem e_X5_copyFrom_192 {Q : mQ} {ls st : List Value} {g : mG} {a : Nat} {i : Int32} : WP m_X5_copyFrom Q 192 ls (.int i :: .ref a :: st) g = ((gK g a = 15 ∧ vp_in i (gN g a) ∧ gR g a i.toNatClampNeg ≠ 0) ∧ WP m_X5_copyFrom Q 193 ls (.ref (gR g a i.toNatClampNeg) :: st) g) := E_aald lo_X5_copyFrom rfl
set_option maxRecDepth 100000 in
theorem e_X5_copyFrom_193 {Q : mQ} {l0 l2 : Value} {st : List Value} {g : mG} {x : Nat} : WP m_X5_copyFrom Q 193 [l0, .ref x, l2] st g = WP m_X5_copyFrom Q 194 [l0, .ref x, l2] (.ref x :: st) g := E_al (i := 1) (n := 1) lo_X5_copyFrom rfl rfl
set_option maxRecDepth 100000 in
theorem e_X5_copyFrom_193n {Q : mQ} {l0 l2 : Value} {st : List Value} {g : mG} : WP m_X5_copyFrom Q 193 [l0, .null, l2] st g = WP m_X5_copyFrom Q 194 [l0, .null, l2] (.null :: st) g := E_aln (i := 1) (n := 1) lo_X5_copyFrom rfl rfl
set_option maxRecDepth 100000 in
theorem e_X5_copyFrom_194 {Q : mQ} {ls st : List Value} {g : mG} {a : Nat} : WP m_X5_copyFrom Q 194 ls (.ref a :: st) g = ((gK g a = 6 ∧ gR g a 13 ≠ 0) ∧ WP m_X5_copyFrom Q 197 ls (.ref (gR g a 13) :: st) g) := E_gR lo_X5_copyFrom rfl
set_option maxRecDepth 100000 in
theorem e_X5_copyFrom_197 {Q : mQ} {l0 l1 : Value} {st : List Value} {g : mG} {x : Int32} : WP m_X5_copyFrom Q 197 [l0, l1, .int x] st g = WP m_X5_copyFrom Q 198 [l0, l1, .int x] (.int x :: st) g := E_il (i := 2) (n := 1) lo_X5_copyFrom rfl rfl
set_option maxRecDepth 100000 in
theorem e_X5_copyFrom_198 {Q : mQ} {ls st : List Value} {g : mG} {a : Nat} {i : Int32} : WP m_X5_copyFrom Q 198 ls (.int i :: .ref a :: st) g = ((gK g a = 15 ∧ vp_in i (gN g a) ∧ gR g a i.toNatClampNeg ≠ 0) ∧ WP m_X5_copyFrom Q 199 ls (.ref (gR g a i.toNatClampNeg) :: st) g) := E_aald lo_X5_copyFrom rfl
set_option maxRecDepth 100000 in
theorem e_X5_copyFrom_199 {Q : mQ} {ls st : List Value} {g : mG} {b : Nat} {a0 : Value} : WP m_X5_copyFrom Q 199 ls (a0 :: .ref b :: st) g = (st.length ≤ 4 ∧ gK g b = 3 ∧ stbs g ls ∧ stbs g st ∧ w_X2_copyFrom [.ref b, a0] g (fun v g' => WP m_X5_copyFrom Q 202 ls (v.toList ++ st) g')) := E_CV (ar := [a0, .ref b]) lo_X5_copyFrom rfl rfl rfl (by decide)
set_option maxRecDepth 100000 in
theorem e_X5_copyFrom_202 {Q : mQ} {l0 l1 : Value} {st : List Value} {g : mG} {x : Int32} : WP m_X5_copyFrom Q 202 [l0, l1, .int x] st g = (nl1 l1 ∧ WP m_X5_copyFrom Q 205 [l0, l1, .int (x + nI 1)] st g) := E_inc (i := 2) (d := nI 1) lo_X5_copyFrom rfl rfl
set_option maxRecDepth 100000 in
theorem e_X5_copyFrom_205 {Q : mQ} {ls st : List Value} {g : mG} : WP m_X5_copyFrom Q 205 ls st g = WP m_X5_copyFrom Q 169 ls st g := E_goto lo_X5_copyFrom rfl
set_option maxRecDepth 100000 in
theorem e_X5_copyFrom_208 {Q : mQ} {ls : List Value} {g : mG} : WP m_X5_copyFrom Q 208 ls [] g = Q none g := E_ret lo_X5_copyFrom rfl
/-! KilnPermits$Town.withInterest(I)I -/
def m_X5_withInterest : List (Nat × mT) := [(0, tD (f_il 1 1)),
  (1, tD (f_ic (nI 100) 2)),
  (3, tD (f_al 0 1)),
  (4, tD (f_gR 6 11)),
  (7, tD (f_ic (nI 3) 1)),
  (8, tD (f_iald)),
  (9, tD (f_b2 fun x y => x + y)),
  (10, tD (f_b2 fun x y => x * y)),
  (11, tD (f_ic (nI 99) 2)),
  (13, tD (f_b2 fun x y => x + y)),
  (14, tD (f_ic (nI 100) 2)),
  (16, tD (f_div)),
  (17, tR f_iret)]
abbrev w_X5_withInterest : mS := wm m_X5_withInterest 2 0
set_option maxRecDepth 100000 in
theorem lo_X5_withInterest : locs_ok m_X5_withInterest := List.forall_mem_cons.mpr ⟨loc_D mo_il,
  List.forall_mem_cons.mpr ⟨loc_D mo_ic,
  List.forall_mem_cons.mpr ⟨loc_D mo_al,
  List.forall_mem_cons.mpr ⟨loc_D mo_gR,
  List.forall_mem_cons.mpr ⟨loc_D mo_ic,
  List.forall_mem_cons.mpr ⟨loc_D mo_iald,
  List.forall_mem_cons.mpr ⟨loc_D mo_b2,
  List.forall_mem_cons.mpr ⟨loc_D mo_b2,
  List.forall_mem_cons.mpr ⟨loc_D mo_ic,
  List.forall_mem_cons.mpr ⟨loc_D mo_b2,
  List.forall_mem_cons.mpr ⟨loc_D mo_ic,
  List.forall_mem_cons.mpr ⟨loc_D mo_div,
  List.forall_mem_cons.mpr ⟨loc_R,
  fun _ h => absurd h List.not_mem_nil⟩⟩⟩⟩⟩⟩⟩⟩⟩⟩⟩⟩⟩
set_option maxRecDepth 100000 in
theorem sm_X5_withInterest : SM yX5_withInterest cX5_withInterest 2 (some .int) 1 w_X5_withInterest := SM_of' RX5 "withInterest" rfl rfl (by decide) (by decide) (by decide) lo_X5_withInterest (List.forall_mem_cons.mpr ⟨STP.r mo_il (q_iload_n dX5_withInterest_0 rfl),
  List.forall_mem_cons.mpr ⟨STP.r mo_ic (q_bipush dX5_withInterest_1 (by decide)),
  List.forall_mem_cons.mpr ⟨STP.r mo_al (q_aload_n dX5_withInterest_3 rfl),
  List.forall_mem_cons.mpr ⟨STP.r mo_gR (q_gR ⟨by decide, by decide⟩ (by decide) rfl (by decide) kf_X5_24 dX5_withInterest_4),
  List.forall_mem_cons.mpr ⟨STP.r mo_ic (q_iconst dX5_withInterest_7 (by decide)),
  List.forall_mem_cons.mpr ⟨STP.r mo_iald (q_iald dX5_withInterest_8),
  List.forall_mem_cons.mpr ⟨STP.r mo_b2 (q_iadd dX5_withInterest_9),
  List.forall_mem_cons.mpr ⟨STP.r mo_b2 (q_imul dX5_withInterest_10),
  List.forall_mem_cons.mpr ⟨STP.r mo_ic (q_bipush dX5_withInterest_11 (by decide)),
  List.forall_mem_cons.mpr ⟨STP.r mo_b2 (q_iadd dX5_withInterest_13),
  List.forall_mem_cons.mpr ⟨STP.r mo_ic (q_bipush dX5_withInterest_14 (by decide)),
  List.forall_mem_cons.mpr ⟨STP.r mo_div (q_idiv dX5_withInterest_16),
  List.forall_mem_cons.mpr ⟨r_iret dX5_withInterest_17,
  fun _ h => absurd h List.not_mem_nil⟩⟩⟩⟩⟩⟩⟩⟩⟩⟩⟩⟩⟩)
theorem e_X5_withInterest_0 {Q : mQ} {l0 : Value} {st : List Value} {g : mG} {x : Int32} : WP m_X5_withInterest Q 0 [l0, .int x] st g = WP m_X5_withInterest Q 1 [l0, .int x] (.int x :: st) g := E_il (i := 1) (n := 1) lo_X5_withInterest rfl rfl
theorem e_X5_withInterest_1 {Q : mQ} {ls st : List Value} {g : mG} : WP m_X5_withInterest Q 1 ls st g = WP m_X5_withInterest Q 3 ls (.int (nI 100) :: st) g := E_ic (v := nI 100) (n := 2) lo_X5_withInterest rfl
theorem e_X5_withInterest_3 {Q : mQ} {l1 : Value} {st : List Value} {g : mG} {x : Nat} : WP m_X5_withInterest Q 3 [.ref x, l1] st g = WP m_X5_withInterest Q 4 [.ref x, l1] (.ref x :: st) g := E_al (i := 0) (n := 1) lo_X5_withInterest rfl rfl
theorem e_X5_withInterest_4 {Q : mQ} {ls st : List Value} {g : mG} {a : Nat} : WP m_X5_withInterest Q 4 ls (.ref a :: st) g = ((gK g a = 6 ∧ gR g a 11 ≠ 0) ∧ WP m_X5_withInterest Q 7 ls (.ref (gR g a 11) :: st) g) := E_gR lo_X5_withInterest rfl
theorem e_X5_withInterest_7 {Q : mQ} {ls st : List Value} {g : mG} : WP m_X5_withInterest Q 7 ls st g = WP m_X5_withInterest Q 8 ls (.int (nI 3) :: st) g := E_ic (v := nI 3) (n := 1) lo_X5_withInterest rfl
theorem e_X5_withInterest_8 {Q : mQ} {ls st : List Value} {g : mG} {a : Nat} {i : Int32} : WP m_X5_withInterest Q 8 ls (.int i :: .ref a :: st) g = ((isIA g a ∧ vp_in i (gN g a)) ∧ WP m_X5_withInterest Q 9 ls (.int (gI g a i.toNatClampNeg) :: st) g) := E_iald lo_X5_withInterest rfl
theorem e_X5_withInterest_9 {Q : mQ} {ls st : List Value} {g : mG} {x y : Int32} : WP m_X5_withInterest Q 9 ls (.int y :: .int x :: st) g = WP m_X5_withInterest Q 10 ls (.int (x + y) :: st) g := E_b2 (f := fun x y => x + y) lo_X5_withInterest rfl
theorem e_X5_withInterest_10 {Q : mQ} {ls st : List Value} {g : mG} {x y : Int32} : WP m_X5_withInterest Q 10 ls (.int y :: .int x :: st) g = WP m_X5_withInterest Q 11 ls (.int (x * y) :: st) g := E_b2 (f := fun x y => x * y) lo_X5_withInterest rfl
theorem e_X5_withInterest_11 {Q : mQ} {ls st : List Value} {g : mG} : WP m_X5_withInterest Q 11 ls st g = WP m_X5_withInterest Q 13 ls (.int (nI 99) :: st) g := E_ic (v := nI 99) (n := 2) lo_X5_withInterest rfl
theorem e_X5_withInterest_13 {Q : mQ} {ls st : List Value} {g : mG} {x y : Int32} : WP m_X5_withInterest Q 13 ls (.int y :: .int x :: st) g = WP m_X5_withInterest Q 14 ls (.int (x + y) :: st) g := E_b2 (f := fun x y => x + y) lo_X5_withInterest rfl
theorem e_X5_withInterest_14 {Q : mQ} {ls st : List Value} {g : mG} : WP m_X5_withInterest Q 14 ls st g = WP m_X5_withInterest Q 16 ls (.int (nI 100) :: st) g := E_ic (v := nI 100) (n := 2) lo_X5_withInterest rfl
theorem e_X5_withInterest_16 {Q : mQ} {ls st : List Value} {g : mG} {x y : Int32} : WP m_X5_withInterest Q 16 ls (.int y :: .int x :: st) g = (¬ y = 0 ∧ WP m_X5_withInterest Q 17 ls (.int (x / y) :: st) g) := E_div lo_X5_withInterest rfl
theorem e_X5_withInterest_17 {Q : mQ} {ls : List Value} {g : mG} {v : Int32} : WP m_X5_withInterest Q 17 ls [.int v] g = Q (some (.int v)) g := E_iret lo_X5_withInterest rfl
/-! KilnPermits$Town.settle(LKilnPermits$Kiln;)I -/
def m_X5_settle : List (Nat × mT) := [(0, tD (f_al 1 1)),
  (1, tC w_X0_due 1 1),
  (4, tD (f_is 2 1)),
  (5, tD (f_al 1 1)),
  (6, tD (f_gI 1 3)),
  (9, tD (f_il 2 1)),
  (10, tD (f_min)),
  (13, tD (f_is 3 1)),
  (14, tD (f_al 1 1)),
  (15, tD (f_gR 1 7)),
  (18, tD (f_gI 5 2)),
  (21, tD (f_il 2 1)),
  (22, tD (f_il 3 1)),
  (23, tD (f_b2 fun x y => x - y)),
  (24, tD (f_min)),
  (27, tD (f_is 4 2)),
  (29, tD (f_il 2 1)),
  (30, tD (f_il 3 1)),
  (31, tD (f_b2 fun x y => x - y)),
  (32, tD (f_il 4 2)),
  (34, tD (f_b2 fun x y => x - y)),
  (35, tD (f_is 5 2)),
  (37, tD (f_al 1 1)),
  (38, tD (f_gI 1 0)),
  (41, tD (f_i2l)),
  (42, tD (f_il 5 2)),
  (44, tD (f_i2l)),
  (45, tD (f_al 0 1)),
  (46, tD (f_gR 6 11)),
  (49, tD (f_ic (nI 1) 1)),
  (50, tD (f_iald)),
  (51, tD (f_i2l)),
  (52, tD (f_lmul)),
  (53, tD (f_minL)),
  (56, tD (f_l2i)),
  (57, tD (f_is 6 2)),
  (59, tD (f_al 1 1)),
  (60, tD (f_gR 1 7)),
  (63, tD (f_il 4 2)),
  (65, tC w_X4_dropOldest 5 2),
  (68, tD (f_al 1 1)),
  (69, tD (f_dup)),
  (70, tD (f_gI 1 0)),
  (73, tD (f_il 6 2)),
  (75, tD (f_b2 fun x y => x - y)),
  (76, tD (f_pI 1 0)),
  (79, tD (f_al 1 1)),
  (80, tD (f_dup)),
  (81, tD (f_gI 1 6)),
  (84, tD (f_al 0 1)),
  (85, tD (f_al 1 1)),
  (86, tD (f_gI 1 3)),
  (89, tC w_X5_withInterest 6 2),
  (92, tD (f_b2 fun x y => x + y)),
  (93, tD (f_pI 1 6)),
  (96, tD (f_al 1 1)),
  (97, tD (f_il 5 2)),
  (99, tC w_X0_startYear 1 2),
  (102, tD (f_al 0 1)),
  (103, tD (f_dup)),
  (104, tD (f_gI 6 3)),
  (107, tD (f_il 3 1)),
  (108, tD (f_b2 fun x y => x + y)),
  (109, tD (f_pI 6 3)),
  (112, tD (f_al 0 1)),
  (113, tD (f_dup)),
  (114, tD (f_gI 6 2)),
  (117, tD (f_il 4 2)),
  (119, tD (f_b2 fun x y => x + y)),
  (120, tD (f_pI 6 2)),
  (123, tD (f_al 0 1)),
  (124, tD (f_dup)),
  (125, tD (f_gI 6 9)),
  (128, tD (f_il 6 2)),
  (130, tD (f_b2 fun x y => x + y)),
  (131, tD (f_pI 6 9)),
  (134, tD (f_il 5 2)),
  (136, tR f_iret)]
abbrev w_X5_settle : mS := wm m_X5_settle 2 5
set_option maxRecDepth 100000 in
theorem lo_X5_settle : locs_ok m_X5_settle := List.forall_mem_cons.mpr ⟨loc_D mo_al,
  List.forall_mem_cons.mpr ⟨loc_C sm_X0_due.1,
  List.forall_mem_cons.mpr ⟨loc_D mo_is,
  List.forall_mem_cons.mpr ⟨loc_D mo_al,
  List.forall_mem_cons.mpr ⟨loc_D mo_gI,
  List.forall_mem_cons.mpr ⟨loc_D mo_il,
  List.forall_mem_cons.mpr ⟨loc_D mo_min,
  List.forall_mem_cons.mpr ⟨loc_D mo_is,
  List.forall_mem_cons.mpr ⟨loc_D mo_al,
  List.forall_mem_cons.mpr ⟨loc_D mo_gR,
  List.forall_mem_cons.mpr ⟨loc_D mo_gI,
  List.forall_mem_cons.mpr ⟨loc_D mo_il,
  List.forall_mem_cons.mpr ⟨loc_D mo_il,
  List.forall_mem_cons.mpr ⟨loc_D mo_b2,
  List.forall_mem_cons.mpr ⟨loc_D mo_min,
  List.forall_mem_cons.mpr ⟨loc_D mo_is,
  List.forall_mem_cons.mpr ⟨loc_D mo_il,
  List.forall_mem_cons.mpr ⟨loc_D mo_il,
  List.forall_mem_cons.mpr ⟨loc_D mo_b2,
  List.forall_mem_cons.mpr ⟨loc_D mo_il,
  List.forall_mem_cons.mpr ⟨loc_D mo_b2,
  List.forall_mem_cons.mpr ⟨loc_D mo_is,
  List.forall_mem_cons.mpr ⟨loc_D mo_al,
  List.forall_mem_cons.mpr ⟨loc_D mo_gI,
  List.forall_mem_cons.mpr ⟨loc_D mo_i2l,
  List.forall_mem_cons.mpr ⟨loc_D mo_il,
  List.forall_mem_cons.mpr ⟨loc_D mo_i2l,
  List.forall_mem_cons.mpr ⟨loc_D mo_al,
  List.forall_mem_cons.mpr ⟨loc_D mo_gR,
  List.forall_mem_cons.mpr ⟨loc_D mo_ic,
  List.forall_mem_cons.mpr ⟨loc_D mo_iald,
  List.forall_mem_cons.mpr ⟨loc_D mo_i2l,
  List.forall_mem_cons.mpr ⟨loc_D mo_lmul,
  List.forall_mem_cons.mpr ⟨loc_D mo_minL,
  List.forall_mem_cons.mpr ⟨loc_D mo_l2i,
  List.forall_mem_cons.mpr ⟨loc_D mo_is,
  List.forall_mem_cons.mpr ⟨loc_D mo_al,
  List.forall_mem_cons.mpr ⟨loc_D mo_gR,
  List.forall_mem_cons.mpr ⟨loc_D mo_il,
  List.forall_mem_cons.mpr ⟨loc_C sm_X4_dropOldest.1,
  List.forall_mem_cons.mpr ⟨loc_D mo_al,
  List.forall_mem_cons.mpr ⟨loc_D mo_dup,
  List.forall_mem_cons.mpr ⟨loc_D mo_gI,
  List.forall_mem_cons.mpr ⟨loc_D mo_il,
  List.forall_mem_cons.mpr ⟨loc_D mo_b2,
  List.forall_mem_cons.mpr ⟨loc_D mo_pI,
  List.forall_mem_cons.mpr ⟨loc_D mo_al,
  List.forall_mem_cons.mpr ⟨loc_D mo_dup,
  List.forall_mem_cons.mpr ⟨loc_D mo_gI,
  List.forall_mem_cons.mpr ⟨loc_D mo_al,
  List.forall_mem_cons.mpr ⟨loc_D mo_al,
  List.forall_mem_cons.mpr ⟨loc_D mo_gI,
  List.forall_mem_cons.mpr ⟨loc_C sm_X5_withInterest.1,
  List.forall_mem_cons.mpr ⟨loc_D mo_b2,
  List.forall_mem_cons.mpr ⟨loc_D mo_pI,
  List.forall_mem_cons.mpr ⟨loc_D mo_al,
  List.forall_mem_cons.mpr ⟨loc_D mo_il,
  List.forall_mem_cons.mpr ⟨loc_C sm_X0_startYear.1,
  List.forall_mem_cons.mpr ⟨loc_D mo_al,
  List.forall_mem_cons.mpr ⟨loc_D mo_dup,
  List.forall_mem_cons.mpr ⟨loc_D mo_gI,
  List.forall_mem_cons.mpr ⟨loc_D mo_il,
  List.forall_mem_cons.mpr ⟨loc_D mo_b2,
  List.forall_mem_cons.mpr ⟨loc_D mo_pI,
  List.forall_mem_cons.mpr ⟨loc_D mo_al,
  List.forall_mem_cons.mpr ⟨loc_D mo_dup,
  List.forall_mem_cons.mpr ⟨loc_D mo_gI,
  List.forall_mem_cons.mpr ⟨loc_D mo_il,
  List.forall_mem_cons.mpr ⟨loc_D mo_b2,
  List.forall_mem_cons.mpr ⟨loc_D mo_pI,
  List.forall_mem_cons.mpr ⟨loc_D mo_al,
  List.forall_mem_cons.mpr ⟨loc_D mo_dup,
  List.forall_mem_cons.mpr ⟨loc_D mo_gI,
  List.forall_mem_cons.mpr ⟨loc_D mo_il,
  List.forall_mem_cons.mpr ⟨loc_D mo_b2,
  List.forall_mem_cons.mpr ⟨loc_D mo_pI,
  List.forall_mem_cons.mpr ⟨loc_D mo_il,
  List.forall_mem_cons.mpr ⟨loc_R,
  fun _ h => absurd h List.not_mem_nil⟩⟩⟩⟩⟩⟩⟩⟩⟩⟩⟩⟩⟩⟩⟩⟩⟩⟩⟩⟩⟩⟩⟩⟩⟩⟩⟩⟩⟩⟩⟩⟩⟩⟩⟩⟩⟩⟩⟩⟩⟩⟩⟩⟩⟩⟩⟩⟩⟩⟩⟩⟩⟩⟩⟩⟩⟩⟩⟩⟩⟩⟩⟩⟩⟩⟩⟩⟩⟩⟩⟩⟩⟩⟩⟩⟩⟩⟩
set_option maxRecDepth 100000 in
theorem sm_X5_settle : SM yX5_settle cX5_settle 7 (some .int) 3 w_X5_settle := SM_of' RX5 "settle" rfl rfl (by decide) (by decide) (by decide) lo_X5_settle (List.forall_mem_cons.mpr ⟨STP.r mo_al (q_aload_n dX5_settle_0 rfl),
  List.forall_mem_cons.mpr ⟨(snd_CV sm_X0_due ⟨by decide, by decide⟩ rfl km_X5_104 kt_X0_due kv_X0_due rfl ki_X0 kx_X0_due ⟨by decide, by decide, by decide +kernel⟩ (by decide) (by decide) dX5_settle_1).r,
  List.forall_mem_cons.mpr ⟨STP.r mo_is (q_istore_n dX5_settle_4 rfl),
  List.forall_mem_cons.mpr ⟨STP.r mo_al (q_aload_n dX5_settle_5 rfl),
  List.forall_mem_cons.mpr ⟨STP.r mo_gI (q_gI ⟨by decide, by decide⟩ (by decide) rfl kf_X5_108 dX5_settle_6),
  List.forall_mem_cons.mpr ⟨STP.r mo_il (q_iload_n dX5_settle_9 rfl),
  List.forall_mem_cons.mpr ⟨STP.r mo_min (q_min km_X5_81 kz_mins kz_mi kz_minc dX5_settle_10),
  List.forall_mem_cons.mpr ⟨STP.r mo_is (q_istore_n dX5_settle_13 rfl),
  List.forall_mem_cons.mpr ⟨STP.r mo_al (q_aload_n dX5_settle_14 rfl),
  List.forall_mem_cons.mpr ⟨STP.r mo_gR (q_gR ⟨by decide, by decide⟩ (by decide) rfl (by decide) kf_X5_87 dX5_settle_15),
  List.forall_mem_cons.mpr ⟨STP.r mo_gI (q_gI ⟨by decide, by decide⟩ (by decide) rfl kf_X5_111 dX5_settle_18),
  List.forall_mem_cons.mpr ⟨STP.r mo_il (q_iload_n dX5_settle_21 rfl),
  List.forall_mem_cons.mpr ⟨STP.r mo_il (q_iload_n dX5_settle_22 rfl),
  List.forall_mem_cons.mpr ⟨STP.r mo_b2 (q_isub dX5_settle_23),
  List.forall_mem_cons.mpr ⟨STP.r mo_min (q_min km_X5_81 kz_mins kz_mi kz_minc dX5_settle_24),
  List.forall_mem_cons.mpr ⟨STP.r mo_is (q_istore dX5_settle_27),
  List.forall_mem_cons.mpr ⟨STP.r mo_il (q_iload_n dX5_settle_29 rfl),
  List.forall_mem_cons.mpr ⟨STP.r mo_il (q_iload_n dX5_settle_30 rfl),
  List.forall_mem_cons.mpr ⟨STP.r mo_b2 (q_isub dX5_settle_31),
  List.forall_mem_cons.mpr ⟨STP.r mo_il (q_iload dX5_settle_32),
  List.forall_mem_cons.mpr ⟨STP.r mo_b2 (q_isub dX5_settle_34),
  List.forall_mem_cons.mpr ⟨STP.r mo_is (q_istore dX5_settle_35),
  List.forall_mem_cons.mpr ⟨STP.r mo_al (q_aload_n dX5_settle_37 rfl),
  List.forall_mem_cons.mpr ⟨STP.r mo_gI (q_gI ⟨by decide, by decide⟩ (by decide) rfl kf_X5_97 dX5_settle_38),
  List.forall_mem_cons.mpr ⟨STP.r mo_i2l (q_i2l dX5_settle_41),
  List.forall_mem_cons.mpr ⟨STP.r mo_il (q_iload dX5_settle_42),
  List.forall_mem_cons.mpr ⟨STP.r mo_i2l (q_i2l dX5_settle_44),
  List.forall_mem_cons.mpr ⟨STP.r mo_al (q_aload_n dX5_settle_45 rfl),
  List.forall_mem_cons.mpr ⟨STP.r mo_gR (q_gR ⟨by decide, by decide⟩ (by decide) rfl (by decide) kf_X5_24 dX5_settle_46),
  List.forall_mem_cons.mpr ⟨STP.r mo_ic (q_iconst dX5_settle_49 (by decide)),
  List.forall_mem_cons.mpr ⟨STP.r mo_iald (q_iald dX5_settle_50),
  List.forall_mem_cons.mpr ⟨STP.r mo_i2l (q_i2l dX5_settle_51),
  List.forall_mem_cons.mpr ⟨STP.r mo_lmul (q_lmul dX5_settle_52),
  List.forall_mem_cons.mpr ⟨STP.r mo_minL (q_minL km_X5_114 kz_minLs kz_mi kz_minLc dX5_settle_53),
  List.forall_mem_cons.mpr ⟨STP.r mo_l2i (q_l2i dX5_settle_56),
  List.forall_mem_cons.mpr ⟨STP.r mo_is (q_istore dX5_settle_57),
  List.forall_mem_cons.mpr ⟨STP.r mo_al (q_aload_n dX5_settle_59 rfl),
  List.forall_mem_cons.mpr ⟨STP.r mo_gR (q_gR ⟨by decide, by decide⟩ (by decide) rfl (by decide) kf_X5_87 dX5_settle_60),
  List.forall_mem_cons.mpr ⟨STP.r mo_il (q_iload dX5_settle_63),
  List.forall_mem_cons.mpr ⟨(snd_CV sm_X4_dropOldest ⟨by decide, by decide⟩ rfl km_X5_117 kt_X4_dropOldest kv_X4_dropOldest rfl ki_X4 kx_X4_dropOldest ⟨by decide, by decide, by decide +kernel⟩ (by decide) (by decide) dX5_settle_65).r,
  List.forall_mem_cons.mpr ⟨STP.r mo_al (q_aload_n dX5_settle_68 rfl),
  List.forall_mem_cons.mpr ⟨STP.r mo_dup (q_dup dX5_settle_69),
  List.forall_mem_cons.mpr ⟨STP.r mo_gI (q_gI ⟨by decide, by decide⟩ (by decide) rfl kf_X5_97 dX5_settle_70),
  List.forall_mem_cons.mpr ⟨STP.r mo_il (q_iload dX5_settle_73),
  List.forall_mem_cons.mpr ⟨STP.r mo_b2 (q_isub dX5_settle_75),
  List.forall_mem_cons.mpr ⟨STP.r mo_pI (q_pI ⟨by decide, by decide⟩ (by decide) rfl rfl kf_X5_97 dX5_settle_76),
  List.forall_mem_cons.mpr ⟨STP.r mo_al (q_aload_n dX5_settle_79 rfl),
  List.forall_mem_cons.mpr ⟨STP.r mo_dup (q_dup dX5_settle_80),
  List.forall_mem_cons.mpr ⟨STP.r mo_gI (q_gI ⟨by decide, by decide⟩ (by decide) rfl kf_X5_78 dX5_settle_81),
  List.forall_mem_cons.mpr ⟨STP.r mo_al (q_aload_n dX5_settle_84 rfl),
  List.forall_mem_cons.mpr ⟨STP.r mo_al (q_aload_n dX5_settle_85 rfl),
  List.forall_mem_cons.mpr ⟨STP.r mo_gI (q_gI ⟨by decide, by decide⟩ (by decide) rfl kf_X5_108 dX5_settle_86),
  List.forall_mem_cons.mpr ⟨(snd_CV sm_X5_withInterest ⟨by decide, by decide⟩ rfl km_X5_121 kt_X5_withInterest kv_X5_withInterest rfl ki_X5 kx_X5_withInterest ⟨by decide, by decide, by decide +kernel⟩ (by decide) (by decide) dX5_settle_89).r,
  List.forall_mem_cons.mpr ⟨STP.r mo_b2 (q_iadd dX5_settle_92),
  List.forall_mem_cons.mpr ⟨STP.r mo_pI (q_pI ⟨by decide, by decide⟩ (by decide) rfl rfl kf_X5_78 dX5_settle_93),
  List.forall_mem_cons.mpr ⟨STP.r mo_al (q_aload_n dX5_settle_96 rfl),
  List.forall_mem_cons.mpr ⟨STP.r mo_il (q_iload dX5_settle_97),
  List.forall_mem_cons.mpr ⟨(snd_CV sm_X0_startYear ⟨by decide, by decide⟩ rfl km_X5_125 kt_X0_startYear kv_X0_startYear rfl ki_X0 kx_X0_startYear ⟨by decide, by decide, by decide +kernel⟩ (by decide) (by decide) dX5_settle_99).r,
  List.forall_mem_cons.mpr ⟨STP.r mo_al (q_aload_n dX5_settle_102 rfl),
  List.forall_mem_cons.mpr ⟨STP.r mo_dup (q_dup dX5_settle_103),
  List.forall_mem_cons.mpr ⟨STP.r mo_gI (q_gI ⟨by decide, by decide⟩ (by decide) rfl kf_X5_50 dX5_settle_104),
  List.forall_mem_cons.mpr ⟨STP.r mo_il (q_iload_n dX5_settle_107 rfl),
  List.forall_mem_cons.mpr ⟨STP.r mo_b2 (q_iadd dX5_settle_108),
  List.forall_mem_cons.mpr ⟨STP.r mo_pI (q_pI ⟨by decide, by decide⟩ (by decide) rfl rfl kf_X5_50 dX5_settle_109),
  List.forall_mem_cons.mpr ⟨STP.r mo_al (q_aload_n dX5_settle_112 rfl),
  List.forall_mem_cons.mpr ⟨STP.r mo_dup (q_dup dX5_settle_113),
  List.forall_mem_cons.mpr ⟨STP.r mo_gI (q_gI ⟨by decide, by decide⟩ (by decide) rfl kf_X5_47 dX5_settle_114),
  List.forall_mem_cons.mpr ⟨STP.r mo_il (q_iload dX5_settle_117),
  List.forall_mem_cons.mpr ⟨STP.r mo_b2 (q_iadd dX5_settle_119),
  List.forall_mem_cons.mpr ⟨STP.r mo_pI (q_pI ⟨by decide, by decide⟩ (by decide) rfl rfl kf_X5_47 dX5_settle_120),
  List.forall_mem_cons.mpr ⟨STP.r mo_al (q_aload_n dX5_settle_123 rfl),
  List.forall_mem_cons.mpr ⟨STP.r mo_dup (q_dup dX5_settle_124),
  List.forall_mem_cons.mpr ⟨STP.r mo_gI (q_gI ⟨by decide, by decide⟩ (by decide) rfl kf_X5_65 dX5_settle_125),
  List.forall_mem_cons.mpr ⟨STP.r mo_il (q_iload dX5_settle_128),
  List.forall_mem_cons.mpr ⟨STP.r mo_b2 (q_iadd dX5_settle_130),
  List.forall_mem_cons.mpr ⟨STP.r mo_pI (q_pI ⟨by decide, by decide⟩ (by decide) rfl rfl kf_X5_65 dX5_settle_131),
  List.forall_mem_cons.mpr ⟨STP.r mo_il (q_iload dX5_settle_134),
  List.forall_mem_cons.mpr ⟨r_iret dX5_settle_136,
  fun _ h => absurd h List.not_mem_nil⟩⟩⟩⟩⟩⟩⟩⟩⟩⟩⟩⟩⟩⟩⟩⟩⟩⟩⟩⟩⟩⟩⟩⟩⟩⟩⟩⟩⟩⟩⟩⟩⟩⟩⟩⟩⟩⟩⟩⟩⟩⟩⟩⟩⟩⟩⟩⟩⟩⟩⟩⟩⟩⟩⟩⟩⟩⟩⟩⟩⟩⟩⟩⟩⟩⟩⟩⟩⟩⟩⟩⟩⟩⟩⟩⟩⟩⟩)
theorem e_X5_settle_0 {Q : mQ} {l0 l2 l3 l4 l5 l6 : Value} {st : List Value} {g : mG} {x : Nat} : WP m_X5_settle Q 0 [l0, .ref x, l2, l3, l4, l5, l6] st g = WP m_X5_settle Q 1 [l0, .ref x, l2, l3, l4, l5, l6] (.ref x :: st) g := E_al (i := 1) (n := 1) lo_X5_settle rfl rfl
theorem e_X5_settle_0n {Q : mQ} {l0 l2 l3 l4 l5 l6 : Value} {st : List Value} {g : mG} : WP m_X5_settle Q 0 [l0, .null, l2, l3, l4, l5, l6] st g = WP m_X5_settle Q 1 [l0, .null, l2, l3, l4, l5, l6] (.null :: st) g := E_aln (i := 1) (n := 1) lo_X5_settle rfl rfl
theorem e_X5_settle_1 {Q : mQ} {ls st : List Value} {g : mG} {b : Nat} : WP m_X5_settle Q 1 ls (.ref b :: st) g = (st.length ≤ 4 ∧ gK g b = 1 ∧ stbs g ls ∧ stbs g st ∧ w_X0_due [.ref b] g (fun v g' => WP m_X5_settle Q 4 ls (v.toList ++ st) g')) := E_CV (ar := [.ref b]) lo_X5_settle rfl rfl rfl (by decide)
theorem e_X5_settle_4 {Q : mQ} {l0 l1 l2 l3 l4 l5 l6 : Value} {st : List Value} {g : mG} {x : Int32} : WP m_X5_settle Q 4 [l0, l1, l2, l3, l4, l5, l6] (.int x :: st) g = (nl1 l1 ∧ WP m_X5_settle Q 5 [l0, l1, .int x, l3, l4, l5, l6] st g) := E_is (i := 2) (n := 1) lo_X5_settle rfl (Nat.le_of_ble_eq_true rfl)
theorem e_X5_settle_5 {Q : mQ} {l0 l2 l3 l4 l5 l6 : Value} {st : List Value} {g : mG} {x : Nat} : WP m_X5_settle Q 5 [l0, .ref x, l2, l3, l4, l5, l6] st g = WP m_X5_settle Q 6 [l0, .ref x, l2, l3, l4, l5, l6] (.ref x :: st) g := E_al (i := 1) (n := 1) lo_X5_settle rfl rfl
theorem e_X5_settle_5n {Q : mQ} {l0 l2 l3 l4 l5 l6 : Value} {st : List Value} {g : mG} : WP m_X5_settle Q 5 [l0, .null, l2, l3, l4, l5, l6] st g = WP m_X5_settle Q 6 [l0, .null, l2, l3, l4, l5, l6] (.null :: st) g := E_aln (i := 1) (n := 1) lo_X5_settle rfl rfl
theorem e_X5_settle_6 {Q : mQ} {ls st : List Value} {g : mG} {a : Nat} : WP m_X5_settle Q 6 ls (.ref a :: st) g = (gK g a = 1 ∧ WP m_X5_settle Q 9 ls (.int (gI g a 3) :: st) g) := E_gI lo_X5_settle rfl
theorem e_X5_settle_9 {Q : mQ} {l0 l1 l3 l4 l5 l6 : Value} {st : List Value} {g : mG} {x : Int32} : WP m_X5_settle Q 9 [l0, l1, .int x, l3, l4, l5, l6] st g = WP m_X5_settle Q 10 [l0, l1, .int x, l3, l4, l5, l6] (.int x :: st) g := E_il (i := 2) (n := 1) lo_X5_settle rfl rfl
theorem e_X5_settle_10 {Q : mQ} {ls st : List Value} {g : mG} {x y : Int32} : WP m_X5_settle Q 10 ls (.int y :: .int x :: st) g = (st.length ≤ 4 ∧ WP m_X5_settle Q 13 ls (.int (if y < x then y else x) :: st) g) := E_min lo_X5_settle rfl
theorem e_X5_settle_13 {Q : mQ} {l0 l1 l2 l3 l4 l5 l6 : Value} {st : List Value} {g : mG} {x : Int32} : WP m_X5_settle Q 13 [l0, l1, l2, l3, l4, l5, l6] (.int x :: st) g = (nl1 l2 ∧ WP m_X5_settle Q 14 [l0, l1, l2, .int x, l4, l5, l6] st g) := E_is (i := 3) (n := 1) lo_X5_settle rfl (Nat.le_of_ble_eq_true rfl)
theorem e_X5_settle_14 {Q : mQ} {l0 l2 l3 l4 l5 l6 : Value} {st : List Value} {g : mG} {x : Nat} : WP m_X5_settle Q 14 [l0, .ref x, l2, l3, l4, l5, l6] st g = WP m_X5_settle Q 15 [l0, .ref x, l2, l3, l4, l5, l6] (.ref x :: st) g := E_al (i := 1) (n := 1) lo_X5_settle rfl rfl
theorem e_X5_settle_14n {Q : mQ} {l0 l2 l3 l4 l5 l6 : Value} {st : List Value} {g : mG} : WP m_X5_settle Q 14 [l0, .null, l2, l3, l4, l5, l6] st g = WP m_X5_settle Q 15 [l0, .null, l2, l3, l4, l5, l6] (.null :: st) g := E_aln (i := 1) (n := 1) lo_X5_settle rfl rfl
theorem e_X5_settle_15 {Q : mQ} {ls st : List Value} {g : mG} {a : Nat} : WP m_X5_settle Q 15 ls (.ref a :: st) g = ((gK g a = 1 ∧ gR g a 7 ≠ 0) ∧ WP m_X5_settle Q 18 ls (.ref (gR g a 7) :: st) g) := E_gR lo_X5_settle rfl
theorem e_X5_settle_18 {Q : mQ} {ls st : List Value} {g : mG} {a : Nat} : WP m_X5_settle Q 18 ls (.ref a :: st) g = (gK g a = 5 ∧ WP m_X5_settle Q 21 ls (.int (gI g a 2) :: st) g) := E_gI lo_X5_settle rfl
theorem e_X5_settle_21 {Q : mQ} {l0 l1 l3 l4 l5 l6 : Value} {st : List Value} {g : mG} {x : Int32} : WP m_X5_settle Q 21 [l0, l1, .int x, l3, l4, l5, l6] st g = WP m_X5_settle Q 22 [l0, l1, .int x, l3, l4, l5, l6] (.int x :: st) g := E_il (i := 2) (n := 1) lo_X5_settle rfl rfl
theorem e_X5_settle_22 {Q : mQ} {l0 l1 l2 l4 l5 l6 : Value} {st : List Value} {g : mG} {x : Int32} : WP m_X5_settle Q 22 [l0, l1, l2, .int x, l4, l5, l6] st g = WP m_X5_settle Q 23 [l0, l1, l2, .int x, l4, l5, l6] (.int x :: st) g := E_il (i := 3) (n := 1) lo_X5_settle rfl rfl
theorem e_X5_settle_23 {Q : mQ} {ls st : List Value} {g : mG} {x y : Int32} : WP m_X5_settle Q 23 ls (.int y :: .int x :: st) g = WP m_X5_settle Q 24 ls (.int (x - y) :: st) g := E_b2 (f := fun x y => x - y) lo_X5_settle rfl
theorem e_X5_settle_24 {Q : mQ} {ls st : List Value} {g : mG} {x y : Int32} : WP m_X5_settle Q 24 ls (.int y :: .int x :: st) g = (st.length ≤ 4 ∧ WP m_X5_settle Q 27 ls (.int (if y < x then y else x) :: st) g) := E_min lo_X5_settle rfl
theorem e_X5_settle_27 {Q : mQ} {l0 l1 l2 l3 l4 l5 l6 : Value} {st : List Value} {g : mG} {x : Int32} : WP m_X5_settle Q 27 [l0, l1, l2, l3, l4, l5, l6] (.int x :: st) g = (nl1 l3 ∧ WP m_X5_settle Q 29 [l0, l1, l2, l3, .int x, l5, l6] st g) := E_is (i := 4) (n := 2) lo_X5_settle rfl (Nat.le_of_ble_eq_true rfl)
theorem e_X5_settle_29 {Q : mQ} {l0 l1 l3 l4 l5 l6 : Value} {st : List Value} {g : mG} {x : Int32} : WP m_X5_settle Q 29 [l0, l1, .int x, l3, l4, l5, l6] st g = WP m_X5_settle Q 30 [l0, l1, .int x, l3, l4, l5, l6] (.int x :: st) g := E_il (i := 2) (n := 1) lo_X5_settle rfl rfl
theorem e_X5_settle_30 {Q : mQ} {l0 l1 l2 l4 l5 l6 : Value} {st : List Value} {g : mG} {x : Int32} : WP m_X5_settle Q 30 [l0, l1, l2, .int x, l4, l5, l6] st g = WP m_X5_settle Q 31 [l0, l1, l2, .int x, l4, l5, l6] (.int x :: st) g := E_il (i := 3) (n := 1) lo_X5_settle rfl rfl
theorem e_X5_settle_31 {Q : mQ} {ls st : List Value} {g : mG} {x y : Int32} : WP m_X5_settle Q 31 ls (.int y :: .int x :: st) g = WP m_X5_settle Q 32 ls (.int (x - y) :: st) g := E_b2 (f := fun x y => x - y) lo_X5_settle rfl
theorem e_X5_settle_32 {Q : mQ} {l0 l1 l2 l3 l5 l6 : Value} {st : List Value} {g : mG} {x : Int32} : WP m_X5_settle Q 32 [l0, l1, l2, l3, .int x, l5, l6] st g = WP m_X5_settle Q 34 [l0, l1, l2, l3, .int x, l5, l6] (.int x :: st) g := E_il (i := 4) (n := 2) lo_X5_settle rfl rfl
theorem e_X5_settle_34 {Q : mQ} {ls st : List Value} {g : mG} {x y : Int32} : WP m_X5_settle Q 34 ls (.int y :: .int x :: st) g = WP m_X5_settle Q 35 ls (.int (x - y) :: st) g := E_b2 (f := fun x y => x - y) lo_X5_settle rfl
theorem e_X5_settle_35 {Q : mQ} {l0 l1 l2 l3 l4 l5 l6 : Value} {st : List Value} {g : mG} {x : Int32} : WP m_X5_settle Q 35 [l0, l1, l2, l3, l4, l5, l6] (.int x :: st) g = (nl1 l4 ∧ WP m_X5_settle Q 37 [l0, l1, l2, l3, l4, .int x, l6] st g) := E_is (i := 5) (n := 2) lo_X5_settle rfl (Nat.le_of_ble_eq_true rfl)
theorem e_X5_settle_37 {Q : mQ} {l0 l2 l3 l4 l5 l6 : Value} {st : List Value} {g : mG} {x : Nat} : WP m_X5_settle Q 37 [l0, .ref x, l2, l3, l4, l5, l6] st g = WP m_X5_settle Q 38 [l0, .ref x, l2, l3, l4, l5, l6] (.ref x :: st) g := E_al (i := 1) (n := 1) lo_X5_settle rfl rfl
theorem e_X5_settle_37n {Q : mQ} {l0 l2 l3 l4 l5 l6 : Value} {st : List Value} {g : mG} : WP m_X5_settle Q 37 [l0, .null, l2, l3, l4, l5, l6] st g = WP m_X5_settle Q 38 [l0, .null, l2, l3, l4, l5, l6] (.null :: st) g := E_aln (i := 1) (n := 1) lo_X5_settle rfl rfl
theorem e_X5_settle_38 {Q : mQ} {ls st : List Value} {g : mG} {a : Nat} : WP m_X5_settle Q 38 ls (.ref a :: st) g = (gK g a = 1 ∧ WP m_X5_settle Q 41 ls (.int (gI g a 0) :: st) g) := E_gI lo_X5_settle rfl
theorem e_X5_settle_41 {Q : mQ} {ls st : List Value} {g : mG} {x : Int32} : WP m_X5_settle Q 41 ls (.int x :: st) g = WP m_X5_settle Q 42 ls (.long x.toInt64 :: st) g := E_i2l lo_X5_settle rfl
theorem e_X5_settle_42 {Q : mQ} {l0 l1 l2 l3 l4 l6 : Value} {st : List Value} {g : mG} {x : Int32} : WP m_X5_settle Q 42 [l0, l1, l2, l3, l4, .int x, l6] st g = WP m_X5_settle Q 44 [l0, l1, l2, l3, l4, .int x, l6] (.int x :: st) g := E_il (i := 5) (n := 2) lo_X5_settle rfl rfl
theorem e_X5_settle_44 {Q : mQ} {ls st : List Value} {g : mG} {x : Int32} : WP m_X5_settle Q 44 ls (.int x :: st) g = WP m_X5_settle Q 45 ls (.long x.toInt64 :: st) g := E_i2l lo_X5_settle rfl
theorem e_X5_settle_45 {Q : mQ} {l1 l2 l3 l4 l5 l6 : Value} {st : List Value} {g : mG} {x : Nat} : WP m_X5_settle Q 45 [.ref x, l1, l2, l3, l4, l5, l6] st g = WP m_X5_settle Q 46 [.ref x, l1, l2, l3, l4, l5, l6] (.ref x :: st) g := E_al (i := 0) (n := 1) lo_X5_settle rfl rfl
theorem e_X5_settle_46 {Q : mQ} {ls st : List Value} {g : mG} {a : Nat} : WP m_X5_settle Q 46 ls (.ref a :: st) g = ((gK g a = 6 ∧ gR g a 11 ≠ 0) ∧ WP m_X5_settle Q 49 ls (.ref (gR g a 11) :: st) g) := E_gR lo_X5_settle rfl
theorem e_X5_settle_49 {Q : mQ} {ls st : List Value} {g : mG} : WP m_X5_settle Q 49 ls st g = WP m_X5_settle Q 50 ls (.int (nI 1) :: st) g := E_ic (v := nI 1) (n := 1) lo_X5_settle rfl
theorem e_X5_settle_50 {Q : mQ} {ls st : List Value} {g : mG} {a : Nat} {i : Int32} : WP m_X5_settle Q 50 ls (.int i :: .ref a :: st) g = ((isIA g a ∧ vp_in i (gN g a)) ∧ WP m_X5_settle Q 51 ls (.int (gI g a i.toNatClampNeg) :: st) g) := E_iald lo_X5_settle rfl
theorem e_X5_settle_51 {Q : mQ} {ls st : List Value} {g : mG} {x : Int32} : WP m_X5_settle Q 51 ls (.int x :: st) g = WP m_X5_settle Q 52 ls (.long x.toInt64 :: st) g := E_i2l lo_X5_settle rfl
theorem e_X5_settle_52 {Q : mQ} {ls st : List Value} {g : mG} {x y : Int64} : WP m_X5_settle Q 52 ls (.long y :: .long x :: st) g = WP m_X5_settle Q 53 ls (.long (x * y) :: st) g := E_lmul lo_X5_settle rfl
theorem e_X5_settle_53 {Q : mQ} {ls st : List Value} {g : mG} {x y : Int64} : WP m_X5_settle Q 53 ls (.long y :: .long x :: st) g = (st.length ≤ 4 ∧ WP m_X5_settle Q 56 ls (.long (if y < x then y else x) :: st) g) := E_minL lo_X5_settle rfl
theorem e_X5_settle_56 {Q : mQ} {ls st : List Value} {g : mG} {x : Int64} : WP m_X5_settle Q 56 ls (.long x :: st) g = WP m_X5_settle Q 57 ls (.int x.toInt32 :: st) g := E_l2i lo_X5_settle rfl
theorem e_X5_settle_57 {Q : mQ} {l0 l1 l2 l3 l4 l5 l6 : Value} {st : List Value} {g : mG} {x : Int32} : WP m_X5_settle Q 57 [l0, l1, l2, l3, l4, l5, l6] (.int x :: st) g = (nl1 l5 ∧ WP m_X5_settle Q 59 [l0, l1, l2, l3, l4, l5, .int x] st g) := E_is (i := 6) (n := 2) lo_X5_settle rfl (Nat.le_of_ble_eq_true rfl)
theorem e_X5_settle_59 {Q : mQ} {l0 l2 l3 l4 l5 l6 : Value} {st : List Value} {g : mG} {x : Nat} : WP m_X5_settle Q 59 [l0, .ref x, l2, l3, l4, l5, l6] st g = WP m_X5_settle Q 60 [l0, .ref x, l2, l3, l4, l5, l6] (.ref x :: st) g := E_al (i := 1) (n := 1) lo_X5_settle rfl rfl
theorem e_X5_settle_59n {Q : mQ} {l0 l2 l3 l4 l5 l6 : Value} {st : List Value} {g : mG} : WP m_X5_settle Q 59 [l0, .null, l2, l3, l4, l5, l6] st g = WP m_X5_settle Q 60 [l0, .null, l2, l3, l4, l5, l6] (.null :: st) g := E_aln (i := 1) (n := 1) lo_X5_settle rfl rfl
theorem e_X5_settle_60 {Q : mQ} {ls st : List Value} {g : mG} {a : Nat} : WP m_X5_settle Q 60 ls (.ref a :: st) g = ((gK g a = 1 ∧ gR g a 7 ≠ 0) ∧ WP m_X5_settle Q 63 ls (.ref (gR g a 7) :: st) g) := E_gR lo_X5_settle rfl
theorem e_X5_settle_63 {Q : mQ} {l0 l1 l2 l3 l5 l6 : Value} {st : List Value} {g : mG} {x : Int32} : WP m_X5_settle Q 63 [l0, l1, l2, l3, .int x, l5, l6] st g = WP m_X5_settle Q 65 [l0, l1, l2, l3, .int x, l5, l6] (.int x :: st) g := E_il (i := 4) (n := 2) lo_X5_settle rfl rfl
theorem e_X5_settle_65 {Q : mQ} {ls st : List Value} {g : mG} {b : Nat} {a0 : Value} : WP m_X5_settle Q 65 ls (a0 :: .ref b :: st) g = (st.length ≤ 4 ∧ gK g b = 5 ∧ stbs g ls ∧ stbs g st ∧ w_X4_dropOldest [.ref b, a0] g (fun v g' => WP m_X5_settle Q 68 ls (v.toList ++ st) g')) := E_CV (ar := [a0, .ref b]) lo_X5_settle rfl rfl rfl (by decide)
theorem e_X5_settle_68 {Q : mQ} {l0 l2 l3 l4 l5 l6 : Value} {st : List Value} {g : mG} {x : Nat} : WP m_X5_settle Q 68 [l0, .ref x, l2, l3, l4, l5, l6] st g = WP m_X5_settle Q 69 [l0, .ref x, l2, l3, l4, l5, l6] (.ref x :: st) g := E_al (i := 1) (n := 1) lo_X5_settle rfl rfl
theorem e_X5_settle_68n {Q : mQ} {l0 l2 l3 l4 l5 l6 : Value} {st : List Value} {g : mG} : WP m_X5_settle Q 68 [l0, .null, l2, l3, l4, l5, l6] st g = WP m_X5_settle Q 69 [l0, .null, l2, l3, l4, l5, l6] (.null :: st) g := E_aln (i := 1) (n := 1) lo_X5_settle rfl rfl
theorem e_X5_settle_69 {Q : mQ} {ls st : List Value} {g : mG} {x : Value} : WP m_X5_settle Q 69 ls (x :: st) g = (cat1 x ∧ WP m_X5_settle Q 70 ls (x :: x :: st) g) := E_dup lo_X5_settle rfl
theorem e_X5_settle_70 {Q : mQ} {ls st : List Value} {g : mG} {a : Nat} : WP m_X5_settle Q 70 ls (.ref a :: st) g = (gK g a = 1 ∧ WP m_X5_settle Q 73 ls (.int (gI g a 0) :: st) g) := E_gI lo_X5_settle rfl
theorem e_X5_settle_73 {Q : mQ} {l0 l1 l2 l3 l4 l5 : Value} {st : List Value} {g : mG} {x : Int32} : WP m_X5_settle Q 73 [l0, l1, l2, l3, l4, l5, .int x] st g = WP m_X5_settle Q 75 [l0, l1, l2, l3, l4, l5, .int x] (.int x :: st) g := E_il (i := 6) (n := 2) lo_X5_settle rfl rfl
theorem e_X5_settle_75 {Q : mQ} {ls st : List Value} {g : mG} {x y : Int32} : WP m_X5_settle Q 75 ls (.int y :: .int x :: st) g = WP m_X5_settle Q 76 ls (.int (x - y) :: st) g := E_b2 (f := fun x y => x - y) lo_X5_settle rfl
theorem e_X5_settle_76 {Q : mQ} {ls st : List Value} {g : mG} {a : Nat} {v : Int32} : WP m_X5_settle Q 76 ls (.int v :: .ref a :: st) g = (gK g a = 1 ∧ WP m_X5_settle Q 79 ls st (pI g a 0 v)) := E_pI lo_X5_settle rfl
theorem e_X5_settle_79 {Q : mQ} {l0 l2 l3 l4 l5 l6 : Value} {st : List Value} {g : mG} {x : Nat} : WP m_X5_settle Q 79 [l0, .ref x, l2, l3, l4, l5, l6] st g = WP m_X5_settle Q 80 [l0, .ref x, l2, l3, l4, l5, l6] (.ref x :: st) g := E_al (i := 1) (n := 1) lo_X5_settle rfl rfl
theorem e_X5_settle_79n {Q : mQ} {l0 l2 l3 l4 l5 l6 : Value} {st : List Value} {g : mG} : WP m_X5_settle Q 79 [l0, .null, l2, l3, l4, l5, l6] st g = WP m_X5_settle Q 80 [l0, .null, l2, l3, l4, l5, l6] (.null :: st) g := E_aln (i := 1) (n := 1) lo_X5_settle rfl rfl
theorem e_X5_settle_80 {Q : mQ} {ls st : List Value} {g : mG} {x : Value} : WP m_X5_settle Q 80 ls (x :: st) g = (cat1 x ∧ WP m_X5_settle Q 81 ls (x :: x :: st) g) := E_dup lo_X5_settle rfl
theorem e_X5_settle_81 {Q : mQ} {ls st : List Value} {g : mG} {a : Nat} : WP m_X5_settle Q 81 ls (.ref a :: st) g = (gK g a = 1 ∧ WP m_X5_settle Q 84 ls (.int (gI g a 6) :: st) g) := E_gI lo_X5_settle rfl
theorem e_X5_settle_84 {Q : mQ} {l1 l2 l3 l4 l5 l6 : Value} {st : List Value} {g : mG} {x : Nat} : WP m_X5_settle Q 84 [.ref x, l1, l2, l3, l4, l5, l6] st g = WP m_X5_settle Q 85 [.ref x, l1, l2, l3, l4, l5, l6] (.ref x :: st) g := E_al (i := 0) (n := 1) lo_X5_settle rfl rfl
theorem e_X5_settle_85 {Q : mQ} {l0 l2 l3 l4 l5 l6 : Value} {st : List Value} {g : mG} {x : Nat} : WP m_X5_settle Q 85 [l0, .ref x, l2, l3, l4, l5, l6] st g = WP m_X5_settle Q 86 [l0, .ref x, l2, l3, l4, l5, l6] (.ref x :: st) g := E_al (i := 1) (n := 1) lo_X5_settle rfl rfl
theorem e_X5_settle_85n {Q : mQ} {l0 l2 l3 l4 l5 l6 : Value} {st : List Value} {g : mG} : WP m_X5_settle Q 85 [l0, .null, l2, l3, l4, l5, l6] st g = WP m_X5_settle Q 86 [l0, .null, l2, l3, l4, l5, l6] (.null :: st) g := E_aln (i := 1) (n := 1) lo_X5_settle rfl rfl
theorem e_X5_settle_86 {Q : mQ} {ls st : List Value} {g : mG} {a : Nat} : WP m_X5_settle Q 86 ls (.ref a :: st) g = (gK g a = 1 ∧ WP m_X5_settle Q 89 ls (.int (gI g a 3) :: st) g) := E_gI lo_X5_settle rfl
theorem e_X5_settle_89 {Q : mQ} {ls st : List Value} {g : mG} {b : Nat} {a0 : Value} : WP m_X5_settle Q 89 ls (a0 :: .ref b :: st) g = (st.length ≤ 4 ∧ gK g b = 6 ∧ stbs g ls ∧ stbs g st ∧ w_X5_withInterest [.ref b, a0] g (fun v g' => WP m_X5_settle Q 92 ls (v.toList ++ st) g')) := E_CV (ar := [a0, .ref b]) lo_X5_settle rfl rfl rfl (by decide)
theorem e_X5_settle_92 {Q : mQ} {ls st : List Value} {g : mG} {x y : Int32} : WP m_X5_settle Q 92 ls (.int y :: .int x :: st) g = WP m_X5_settle Q 93 ls (.int (x + y) :: st) g := E_b2 (f := fun x y => x + y) lo_X5_settle rfl
theorem e_X5_settle_93 {Q : mQ} {ls st : List Value} {g : mG} {a : Nat} {v : Int32} : WP m_X5_settle Q 93 ls (.int v :: .ref a :: st) g = (gK g a = 1 ∧ WP m_X5_settle Q 96 ls st (pI g a 6 v)) := E_pI lo_X5_settle rfl
theorem e_X5_settle_96 {Q : mQ} {l0 l2 l3 l4 l5 l6 : Value} {st : List Value} {g : mG} {x : Nat} : WP m_X5_settle Q 96 [l0, .ref x, l2, l3, l4, l5, l6] st g = WP m_X5_settle Q 97 [l0, .ref x, l2, l3, l4, l5, l6] (.ref x :: st) g := E_al (i := 1) (n := 1) lo_X5_settle rfl rfl
theorem e_X5_settle_96n {Q : mQ} {l0 l2 l3 l4 l5 l6 : Value} {st : List Value} {g : mG} : WP m_X5_settle Q 96 [l0, .null, l2, l3, l4, l5, l6] st g = WP m_X5_settle Q 97 [l0, .null, l2, l3, l4, l5, l6] (.null :: st) g := E_aln (i := 1) (n := 1) lo_X5_settle rfl rfl
theorem e_X5_settle_97 {Q : mQ} {l0 l1 l2 l3 l4 l6 : Value} {st : List Value} {g : mG} {x : Int32} : WP m_X5_settle Q 97 [l0, l1, l2, l3, l4, .int x, l6] st g = WP m_X5_settle Q 99 [l0, l1, l2, l3, l4, .int x, l6] (.int x :: st) g := E_il (i := 5) (n := 2) lo_X5_settle rfl rfl
theorem e_X5_settle_99 {Q : mQ} {ls st : List Value} {g : mG} {b : Nat} {a0 : Value} : WP m_X5_settle Q 99 ls (a0 :: .ref b :: st) g = (st.length ≤ 4 ∧ gK g b = 1 ∧ stbs g ls ∧ stbs g st ∧ w_X0_startYear [.ref b, a0] g (fun v g' => WP m_X5_settle Q 102 ls (v.toList ++ st) g')) := E_CV (ar := [a0, .ref b]) lo_X5_settle rfl rfl rfl (by decide)
theorem e_X5_settle_102 {Q : mQ} {l1 l2 l3 l4 l5 l6 : Value} {st : List Value} {g : mG} {x : Nat} : WP m_X5_settle Q 102 [.ref x, l1, l2, l3, l4, l5, l6] st g = WP m_X5_settle Q 103 [.ref x, l1, l2, l3, l4, l5, l6] (.ref x :: st) g := E_al (i := 0) (n := 1) lo_X5_settle rfl rfl
theorem e_X5_settle_103 {Q : mQ} {ls st : List Value} {g : mG} {x : Value} : WP m_X5_settle Q 103 ls (x :: st) g = (cat1 x ∧ WP m_X5_settle Q 104 ls (x :: x :: st) g) := E_dup lo_X5_settle rfl
theorem e_X5_settle_104 {Q : mQ} {ls st : List Value} {g : mG} {a : Nat} : WP m_X5_settle Q 104 ls (.ref a :: st) g = (gK g a = 6 ∧ WP m_X5_settle Q 107 ls (.int (gI g a 3) :: st) g) := E_gI lo_X5_settle rfl
theorem e_X5_settle_107 {Q : mQ} {l0 l1 l2 l4 l5 l6 : Value} {st : List Value} {g : mG} {x : Int32} : WP m_X5_settle Q 107 [l0, l1, l2, .int x, l4, l5, l6] st g = WP m_X5_settle Q 108 [l0, l1, l2, .int x, l4, l5, l6] (.int x :: st) g := E_il (i := 3) (n := 1) lo_X5_settle rfl rfl
theorem e_X5_settle_108 {Q : mQ} {ls st : List Value} {g : mG} {x y : Int32} : WP m_X5_settle Q 108 ls (.int y :: .int x :: st) g = WP m_X5_settle Q 109 ls (.int (x + y) :: st) g := E_b2 (f := fun x y => x + y) lo_X5_settle rfl
theorem e_X5_settle_109 {Q : mQ} {ls st : List Value} {g : mG} {a : Nat} {v : Int32} : WP m_X5_settle Q 109 ls (.int v :: .ref a :: st) g = (gK g a = 6 ∧ WP m_X5_settle Q 112 ls st (pI g a 3 v)) := E_pI lo_X5_settle rfl
theorem e_X5_settle_112 {Q : mQ} {l1 l2 l3 l4 l5 l6 : Value} {st : List Value} {g : mG} {x : Nat} : WP m_X5_settle Q 112 [.ref x, l1, l2, l3, l4, l5, l6] st g = WP m_X5_settle Q 113 [.ref x, l1, l2, l3, l4, l5, l6] (.ref x :: st) g := E_al (i := 0) (n := 1) lo_X5_settle rfl rfl
theorem e_X5_settle_113 {Q : mQ} {ls st : List Value} {g : mG} {x : Value} : WP m_X5_settle Q 113 ls (x :: st) g = (cat1 x ∧ WP m_X5_settle Q 114 ls (x :: x :: st) g) := E_dup lo_X5_settle rfl
theorem e_X5_settle_114 {Q : mQ} {ls st : List Value} {g : mG} {a : Nat} : WP m_X5_settle Q 114 ls (.ref a :: st) g = (gK g a = 6 ∧ WP m_X5_settle Q 117 ls (.int (gI g a 2) :: st) g) := E_gI lo_X5_settle rfl
theorem e_X5_settle_117 {Q : mQ} {l0 l1 l2 l3 l5 l6 : Value} {st : List Value} {g : mG} {x : Int32} : WP m_X5_settle Q 117 [l0, l1, l2, l3, .int x, l5, l6] st g = WP m_X5_settle Q 119 [l0, l1, l2, l3, .int x, l5, l6] (.int x :: st) g := E_il (i := 4) (n := 2) lo_X5_settle rfl rfl
theorem e_X5_settle_119 {Q : mQ} {ls st : List Value} {g : mG} {x y : Int32} : WP m_X5_settle Q 119 ls (.int y :: .int x :: st) g = WP m_X5_settle Q 120 ls (.int (x + y) :: st) g := E_b2 (f := fun x y => x + y) lo_X5_settle rfl
theorem e_X5_settle_120 {Q : mQ} {ls st : List Value} {g : mG} {a : Nat} {v : Int32} : WP m_X5_settle Q 120 ls (.int v :: .ref a :: st) g = (gK g a = 6 ∧ WP m_X5_settle Q 123 ls st (pI g a 2 v)) := E_pI lo_X5_settle rfl
theorem e_X5_settle_123 {Q : mQ} {l1 l2 l3 l4 l5 l6 : Value} {st : List Value} {g : mG} {x : Nat} : WP m_X5_settle Q 123 [.ref x, l1, l2, l3, l4, l5, l6] st g = WP m_X5_settle Q 124 [.ref x, l1, l2, l3, l4, l5, l6] (.ref x :: st) g := E_al (i := 0) (n := 1) lo_X5_settle rfl rfl
theorem e_X5_settle_124 {Q : mQ} {ls st : List Value} {g : mG} {x : Value} : WP m_X5_settle Q 124 ls (x :: st) g = (cat1 x ∧ WP m_X5_settle Q 125 ls (x :: x :: st) g) := E_dup lo_X5_settle rfl
theorem e_X5_settle_125 {Q : mQ} {ls st : List Value} {g : mG} {a : Nat} : WP m_X5_settle Q 125 ls (.ref a :: st) g = (gK g a = 6 ∧ WP m_X5_settle Q 128 ls (.int (gI g a 9) :: st) g) := E_gI lo_X5_settle rfl
theorem e_X5_settle_128 {Q : mQ} {l0 l1 l2 l3 l4 l5 : Value} {st : List Value} {g : mG} {x : Int32} : WP m_X5_settle Q 128 [l0, l1, l2, l3, l4, l5, .int x] st g = WP m_X5_settle Q 130 [l0, l1, l2, l3, l4, l5, .int x] (.int x :: st) g := E_il (i := 6) (n := 2) lo_X5_settle rfl rfl
theorem e_X5_settle_130 {Q : mQ} {ls st : List Value} {g : mG} {x y : Int32} : WP m_X5_settle Q 130 ls (.int y :: .int x :: st) g = WP m_X5_settle Q 131 ls (.int (x + y) :: st) g := E_b2 (f := fun x y => x + y) lo_X5_settle rfl
theorem e_X5_settle_131 {Q : mQ} {ls st : List Value} {g : mG} {a : Nat} {v : Int32} : WP m_X5_settle Q 131 ls (.int v :: .ref a :: st) g = (gK g a = 6 ∧ WP m_X5_settle Q 134 ls st (pI g a 9 v)) := E_pI lo_X5_settle rfl
theorem e_X5_settle_134 {Q : mQ} {l0 l1 l2 l3 l4 l6 : Value} {st : List Value} {g : mG} {x : Int32} : WP m_X5_settle Q 134 [l0, l1, l2, l3, l4, .int x, l6] st g = WP m_X5_settle Q 136 [l0, l1, l2, l3, l4, .int x, l6] (.int x :: st) g := E_il (i := 5) (n := 2) lo_X5_settle rfl rfl
theorem e_X5_settle_136 {Q : mQ} {ls : List Value} {g : mG} {v : Int32} : WP m_X5_settle Q 136 ls [.int v] g = Q (some (.int v)) g := E_iret lo_X5_settle rfl
/-! KilnPermits$Town.closeYear()I -/
def m_X5_closeYear : List (Nat × mT) := [(0, tD (f_ic (nI 0) 1)),
  (1, tD (f_is 1 1)),
  (2, tD (f_al 0 1)),
  (3, tD (f_gR 6 12)),
  (6, tD (f_as 2 1)),
  (7, tD (f_al 2 1)),
  (8, tD (f_alen)),
  (9, tD (f_is 3 1)),
  (10, tD (f_ic (nI 0) 1)),
  (11, tD (f_is 4 2)),
  (13, tD (f_il 4 2)),
  (15, tD (f_il 3 1)),
  (16, tI2 (fun x y => y ≤ x) 40),
  (19, tD (f_al 2 1)),
  (20, tD (f_il 4 2)),
  (22, tD (f_aald 14)),
  (23, tD (f_as 5 2)),
  (25, tD (f_il 1 1)),
  (26, tD (f_al 0 1)),
  (27, tD (f_al 5 2)),
  (29, tC w_X5_settle 6 2),
  (32, tD (f_b2 fun x y => x + y)),
  (33, tD (f_is 1 1)),
  (34, tD (f_inc 4 (nI 1))),
  (37, tD (f_goto 13)),
  (40, tD (f_al 0 1)),
  (41, tD (f_dup)),
  (42, tD (f_gI 6 0)),
  (45, tD (f_ic (nI 1) 1)),
  (46, tD (f_b2 fun x y => x + y)),
  (47, tD (f_pI 6 0)),
  (50, tD (f_il 1 1)),
  (51, tR f_iret)]
abbrev w_X5_closeYear : mS := wm m_X5_closeYear 1 5
set_option maxRecDepth 100000 in
theorem lo_X5_closeYear : locs_ok m_X5_closeYear := List.forall_mem_cons.mpr ⟨loc_D mo_ic,
  List.forall_mem_cons.mpr ⟨loc_D mo_is,
  List.forall_mem_cons.mpr ⟨loc_D mo_al,
  List.forall_mem_cons.mpr ⟨loc_D mo_gR,
  List.forall_mem_cons.mpr ⟨loc_D mo_as,
  List.forall_mem_cons.mpr ⟨loc_D mo_al,
  List.forall_mem_cons.mpr ⟨loc_D mo_alen,
  List.forall_mem_cons.mpr ⟨loc_D mo_is,
  List.forall_mem_cons.mpr ⟨loc_D mo_ic,
  List.forall_mem_cons.mpr ⟨loc_D mo_is,
  List.forall_mem_cons.mpr ⟨loc_D mo_il,
  List.forall_mem_cons.mpr ⟨loc_D mo_il,
  List.forall_mem_cons.mpr ⟨loc_I2,
  List.forall_mem_cons.mpr ⟨loc_D mo_al,
  List.forall_mem_cons.mpr ⟨loc_D mo_il,
  List.forall_mem_cons.mpr ⟨loc_D mo_aald,
  List.forall_mem_cons.mpr ⟨loc_D mo_as,
  List.forall_mem_cons.mpr ⟨loc_D mo_il,
  List.forall_mem_cons.mpr ⟨loc_D mo_al,
  List.forall_mem_cons.mpr ⟨loc_D mo_al,
  List.forall_mem_cons.mpr ⟨loc_C sm_X5_settle.1,
  List.forall_mem_cons.mpr ⟨loc_D mo_b2,
  List.forall_mem_cons.mpr ⟨loc_D mo_is,
  List.forall_mem_cons.mpr ⟨loc_D mo_inc,
  List.forall_mem_cons.mpr ⟨loc_D mo_goto,
  List.forall_mem_cons.mpr ⟨loc_D mo_al,
  List.forall_mem_cons.mpr ⟨loc_D mo_dup,
  List.forall_mem_cons.mpr ⟨loc_D mo_gI,
  List.forall_mem_cons.mpr ⟨loc_D mo_ic,
  List.forall_mem_cons.mpr ⟨loc_D mo_b2,
  List.forall_mem_cons.mpr ⟨loc_D mo_pI,
  List.forall_mem_cons.mpr ⟨loc_D mo_il,
  List.forall_mem_cons.mpr ⟨loc_R,
  fun _ h => absurd h List.not_mem_nil⟩⟩⟩⟩⟩⟩⟩⟩⟩⟩⟩⟩⟩⟩⟩⟩⟩⟩⟩⟩⟩⟩⟩⟩⟩⟩⟩⟩⟩⟩⟩⟩⟩
set_option maxRecDepth 100000 in
theorem sm_X5_closeYear : SM yX5_closeYear cX5_closeYear 6 (some .int) 4 w_X5_closeYear := SM_of' RX5 "closeYear" rfl rfl (by decide) (by decide) (by decide) lo_X5_closeYear (List.forall_mem_cons.mpr ⟨STP.r mo_ic (q_iconst dX5_closeYear_0 (by decide)),
  List.forall_mem_cons.mpr ⟨STP.r mo_is (q_istore_n dX5_closeYear_1 rfl),
  List.forall_mem_cons.mpr ⟨STP.r mo_al (q_aload_n dX5_closeYear_2 rfl),
  List.forall_mem_cons.mpr ⟨STP.r mo_gR (q_gR ⟨by decide, by decide⟩ (by decide) rfl (by decide) kf_X5_29 dX5_closeYear_3),
  List.forall_mem_cons.mpr ⟨STP.r mo_as (q_astore_n dX5_closeYear_6 rfl),
  List.forall_mem_cons.mpr ⟨STP.r mo_al (q_aload_n dX5_closeYear_7 rfl),
  List.forall_mem_cons.mpr ⟨STP.r mo_alen (q_alen dX5_closeYear_8),
  List.forall_mem_cons.mpr ⟨STP.r mo_is (q_istore_n dX5_closeYear_9 rfl),
  List.forall_mem_cons.mpr ⟨STP.r mo_ic (q_iconst dX5_closeYear_10 (by decide)),
  List.forall_mem_cons.mpr ⟨STP.r mo_is (q_istore dX5_closeYear_11),
  List.forall_mem_cons.mpr ⟨STP.r mo_il (q_iload dX5_closeYear_13),
  List.forall_mem_cons.mpr ⟨STP.r mo_il (q_iload_n dX5_closeYear_15 rfl),
  List.forall_mem_cons.mpr ⟨(q_ic_ge dX5_closeYear_16 (by decide)).r,
  List.forall_mem_cons.mpr ⟨STP.r mo_al (q_aload_n dX5_closeYear_19 rfl),
  List.forall_mem_cons.mpr ⟨STP.r mo_il (q_iload dX5_closeYear_20),
  List.forall_mem_cons.mpr ⟨STP.r mo_aald (q_aald ⟨by decide, by decide⟩ dX5_closeYear_22),
  List.forall_mem_cons.mpr ⟨STP.r mo_as (q_astore dX5_closeYear_23),
  List.forall_mem_cons.mpr ⟨STP.r mo_il (q_iload_n dX5_closeYear_25 rfl),
  List.forall_mem_cons.mpr ⟨STP.r mo_al (q_aload_n dX5_closeYear_26 rfl),
  List.forall_mem_cons.mpr ⟨STP.r mo_al (q_aload dX5_closeYear_27),
  List.forall_mem_cons.mpr ⟨(snd_CV sm_X5_settle ⟨by decide, by decide⟩ rfl km_X5_100 kt_X5_settle kv_X5_settle rfl ki_X5 kx_X5_settle ⟨by decide, by decide, by decide +kernel⟩ (by decide) (by decide) dX5_closeYear_29).r,
  List.forall_mem_cons.mpr ⟨STP.r mo_b2 (q_iadd dX5_closeYear_32),
  List.forall_mem_cons.mpr ⟨STP.r mo_is (q_istore_n dX5_closeYear_33 rfl),
  List.forall_mem_cons.mpr ⟨STP.r mo_inc (q_inc dX5_closeYear_34 (by decide)),
  List.forall_mem_cons.mpr ⟨STP.r mo_goto (q_goto dX5_closeYear_37 (by decide)),
  List.forall_mem_cons.mpr ⟨STP.r mo_al (q_aload_n dX5_closeYear_40 rfl),
  List.forall_mem_cons.mpr ⟨STP.r mo_dup (q_dup dX5_closeYear_41),
  List.forall_mem_cons.mpr ⟨STP.r mo_gI (q_gI ⟨by decide, by decide⟩ (by decide) rfl kf_X5_41 dX5_closeYear_42),
  List.forall_mem_cons.mpr ⟨STP.r mo_ic (q_iconst dX5_closeYear_45 (by decide)),
  List.forall_mem_cons.mpr ⟨STP.r mo_b2 (q_iadd dX5_closeYear_46),
  List.forall_mem_cons.mpr ⟨STP.r mo_pI (q_pI ⟨by decide, by decide⟩ (by decide) rfl rfl kf_X5_41 dX5_closeYear_47),
  List.forall_mem_cons.mpr ⟨STP.r mo_il (q_iload_n dX5_closeYear_50 rfl),
  List.forall_mem_cons.mpr ⟨r_iret dX5_closeYear_51,
  fun _ h => absurd h List.not_mem_nil⟩⟩⟩⟩⟩⟩⟩⟩⟩⟩⟩⟩⟩⟩⟩⟩⟩⟩⟩⟩⟩⟩⟩⟩⟩⟩⟩⟩⟩⟩⟩⟩⟩)
theorem e_X5_closeYear_0 {Q : mQ} {ls st : List Value} {g : mG} : WP m_X5_closeYear Q 0 ls st g = WP m_X5_closeYear Q 1 ls (.int (nI 0) :: st) g := E_ic (v := nI 0) (n := 1) lo_X5_closeYear rfl
theorem e_X5_closeYear_1 {Q : mQ} {l0 l1 l2 l3 l4 l5 : Value} {st : List Value} {g : mG} {x : Int32} : WP m_X5_closeYear Q 1 [l0, l1, l2, l3, l4, l5] (.int x :: st) g = (nl1 l0 ∧ WP m_X5_closeYear Q 2 [l0, .int x, l2, l3, l4, l5] st g) := E_is (i := 1) (n := 1) lo_X5_closeYear rfl (Nat.le_of_ble_eq_true rfl)
theorem e_X5_closeYear_2 {Q : mQ} {l1 l2 l3 l4 l5 : Value} {st : List Value} {g : mG} {x : Nat} : WP m_X5_closeYear Q 2 [.ref x, l1, l2, l3, l4, l5] st g = WP m_X5_closeYear Q 3 [.ref x, l1, l2, l3, l4, l5] (.ref x :: st) g := E_al (i := 0) (n := 1) lo_X5_closeYear rfl rfl
theorem e_X5_closeYear_3 {Q : mQ} {ls st : List Value} {g : mG} {a : Nat} : WP m_X5_closeYear Q 3 ls (.ref a :: st) g = ((gK g a = 6 ∧ gR g a 12 ≠ 0) ∧ WP m_X5_closeYear Q 6 ls (.ref (gR g a 12) :: st) g) := E_gR lo_X5_closeYear rfl
theorem e_X5_closeYear_6 {Q : mQ} {l0 l1 l2 l3 l4 l5 : Value} {st : List Value} {g : mG} {x : Nat} : WP m_X5_closeYear Q 6 [l0, l1, l2, l3, l4, l5] (.ref x :: st) g = (nl1 l1 ∧ WP m_X5_closeYear Q 7 [l0, l1, .ref x, l3, l4, l5] st g) := E_as (i := 2) (n := 1) lo_X5_closeYear rfl (Nat.le_of_ble_eq_true rfl)
theorem e_X5_closeYear_6n {Q : mQ} {l0 l1 l2 l3 l4 l5 : Value} {st : List Value} {g : mG} : WP m_X5_closeYear Q 6 [l0, l1, l2, l3, l4, l5] (.null :: st) g = (nl1 l1 ∧ WP m_X5_closeYear Q 7 [l0, l1, .null, l3, l4, l5] st g) := E_asn (i := 2) (n := 1) lo_X5_closeYear rfl (Nat.le_of_ble_eq_true rfl)
theorem e_X5_closeYear_7 {Q : mQ} {l0 l1 l3 l4 l5 : Value} {st : List Value} {g : mG} {x : Nat} : WP m_X5_closeYear Q 7 [l0, l1, .ref x, l3, l4, l5] st g = WP m_X5_closeYear Q 8 [l0, l1, .ref x, l3, l4, l5] (.ref x :: st) g := E_al (i := 2) (n := 1) lo_X5_closeYear rfl rfl
theorem e_X5_closeYear_7n {Q : mQ} {l0 l1 l3 l4 l5 : Value} {st : List Value} {g : mG} : WP m_X5_closeYear Q 7 [l0, l1, .null, l3, l4, l5] st g = WP m_X5_closeYear Q 8 [l0, l1, .null, l3, l4, l5] (.null :: st) g := E_aln (i := 2) (n := 1) lo_X5_closeYear rfl rfl
theorem e_X5_closeYear_8 {Q : mQ} {ls st : List Value} {g : mG} {a : Nat} : WP m_X5_closeYear Q 8 ls (.ref a :: st) g = ((10 ≤ gK g a ∧ gK g a ≤ 17) ∧ WP m_X5_closeYear Q 9 ls (.int (nI (gN g a)) :: st) g) := E_alen lo_X5_closeYear rfl
theorem e_X5_closeYear_9 {Q : mQ} {l0 l1 l2 l3 l4 l5 : Value} {st : List Value} {g : mG} {x : Int32} : WP m_X5_closeYear Q 9 [l0, l1, l2, l3, l4, l5] (.int x :: st) g = (nl1 l2 ∧ WP m_X5_closeYear Q 10 [l0, l1, l2, .int x, l4, l5] st g) := E_is (i := 3) (n := 1) lo_X5_closeYear rfl (Nat.le_of_ble_eq_true rfl)
theorem e_X5_closeYear_10 {Q : mQ} {ls st : List Value} {g : mG} : WP m_X5_closeYear Q 10 ls st g = WP m_X5_closeYear Q 11 ls (.int (nI 0) :: st) g := E_ic (v := nI 0) (n := 1) lo_X5_closeYear rfl
theorem e_X5_closeYear_11 {Q : mQ} {l0 l1 l2 l3 l4 l5 : Value} {st : List Value} {g : mG} {x : Int32} : WP m_X5_closeYear Q 11 [l0, l1, l2, l3, l4, l5] (.int x :: st) g = (nl1 l3 ∧ WP m_X5_closeYear Q 13 [l0, l1, l2, l3, .int x, l5] st g) := E_is (i := 4) (n := 2) lo_X5_closeYear rfl (Nat.le_of_ble_eq_true rfl)
theorem e_X5_closeYear_13 {Q : mQ} {l0 l1 l2 l3 l5 : Value} {st : List Value} {g : mG} {x : Int32} : WP m_X5_closeYear Q 13 [l0, l1, l2, l3, .int x, l5] st g = WP m_X5_closeYear Q 15 [l0, l1, l2, l3, .int x, l5] (.int x :: st) g := E_il (i := 4) (n := 2) lo_X5_closeYear rfl rfl
theorem e_X5_closeYear_15 {Q : mQ} {l0 l1 l2 l4 l5 : Value} {st : List Value} {g : mG} {x : Int32} : WP m_X5_closeYear Q 15 [l0, l1, l2, .int x, l4, l5] st g = WP m_X5_closeYear Q 16 [l0, l1, l2, .int x, l4, l5] (.int x :: st) g := E_il (i := 3) (n := 1) lo_X5_closeYear rfl rfl
theorem e_X5_closeYear_16 {Q : mQ} {ls st : List Value} {g : mG} {x y : Int32} : WP m_X5_closeYear Q 16 ls (.int y :: .int x :: st) g = ((y ≤ x → WP m_X5_closeYear Q 40 ls st g) ∧ (¬ (y ≤ x) → WP m_X5_closeYear Q 19 ls st g)) := E_I2 (c := fun x y => y ≤ x) (t := 40) lo_X5_closeYear rfl
theorem e_X5_closeYear_19 {Q : mQ} {l0 l1 l3 l4 l5 : Value} {st : List Value} {g : mG} {x : Nat} : WP m_X5_closeYear Q 19 [l0, l1, .ref x, l3, l4, l5] st g = WP m_X5_closeYear Q 20 [l0, l1, .ref x, l3, l4, l5] (.ref x :: st) g := E_al (i := 2) (n := 1) lo_X5_closeYear rfl rfl
theorem e_X5_closeYear_19n {Q : mQ} {l0 l1 l3 l4 l5 : Value} {st : List Value} {g : mG} : WP m_X5_closeYear Q 19 [l0, l1, .null, l3, l4, l5] st g = WP m_X5_closeYear Q 20 [l0, l1, .null, l3, l4, l5] (.null :: st) g := E_aln (i := 2) (n := 1) lo_X5_closeYear rfl rfl
theorem e_X5_closeYear_20 {Q : mQ} {l0 l1 l2 l3 l5 : Value} {st : List Value} {g : mG} {x : Int32} : WP m_X5_closeYear Q 20 [l0, l1, l2, l3, .int x, l5] st g = WP m_X5_closeYear Q 22 [l0, l1, l2, l3, .int x, l5] (.int x :: st) g := E_il (i := 4) (n := 2) lo_X5_closeYear rfl rfl
theorem e_X5_closeYear_22 {Q : mQ} {ls st : List Value} {g : mG} {a : Nat} {i : Int32} : WP m_X5_closeYear Q 22 ls (.int i :: .ref a :: st) g = ((gK g a = 14 ∧ vp_in i (gN g a) ∧ gR g a i.toNatClampNeg ≠ 0) ∧ WP m_X5_closeYear Q 23 ls (.ref (gR g a i.toNatClampNeg) :: st) g) := E_aald lo_X5_closeYear rfl
theorem e_X5_closeYear_23 {Q : mQ} {l0 l1 l2 l3 l4 l5 : Value} {st : List Value} {g : mG} {x : Nat} : WP m_X5_closeYear Q 23 [l0, l1, l2, l3, l4, l5] (.ref x :: st) g = (nl1 l4 ∧ WP m_X5_closeYear Q 25 [l0, l1, l2, l3, l4, .ref x] st g) := E_as (i := 5) (n := 2) lo_X5_closeYear rfl (Nat.le_of_ble_eq_true rfl)
theorem e_X5_closeYear_23n {Q : mQ} {l0 l1 l2 l3 l4 l5 : Value} {st : List Value} {g : mG} : WP m_X5_closeYear Q 23 [l0, l1, l2, l3, l4, l5] (.null :: st) g = (nl1 l4 ∧ WP m_X5_closeYear Q 25 [l0, l1, l2, l3, l4, .null] st g) := E_asn (i := 5) (n := 2) lo_X5_closeYear rfl (Nat.le_of_ble_eq_true rfl)
theorem e_X5_closeYear_25 {Q : mQ} {l0 l2 l3 l4 l5 : Value} {st : List Value} {g : mG} {x : Int32} : WP m_X5_closeYear Q 25 [l0, .int x, l2, l3, l4, l5] st g = WP m_X5_closeYear Q 26 [l0, .int x, l2, l3, l4, l5] (.int x :: st) g := E_il (i := 1) (n := 1) lo_X5_closeYear rfl rfl
theorem e_X5_closeYear_26 {Q : mQ} {l1 l2 l3 l4 l5 : Value} {st : List Value} {g : mG} {x : Nat} : WP m_X5_closeYear Q 26 [.ref x, l1, l2, l3, l4, l5] st g = WP m_X5_closeYear Q 27 [.ref x, l1, l2, l3, l4, l5] (.ref x :: st) g := E_al (i := 0) (n := 1) lo_X5_closeYear rfl rfl
theorem e_X5_closeYear_27 {Q : mQ} {l0 l1 l2 l3 l4 : Value} {st : List Value} {g : mG} {x : Nat} : WP m_X5_closeYear Q 27 [l0, l1, l2, l3, l4, .ref x] st g = WP m_X5_closeYear Q 29 [l0, l1, l2, l3, l4, .ref x] (.ref x :: st) g := E_al (i := 5) (n := 2) lo_X5_closeYear rfl rfl
theorem e_X5_closeYear_27n {Q : mQ} {l0 l1 l2 l3 l4 : Value} {st : List Value} {g : mG} : WP m_X5_closeYear Q 27 [l0, l1, l2, l3, l4, .null] st g = WP m_X5_closeYear Q 29 [l0, l1, l2, l3, l4, .null] (.null :: st) g := E_aln (i := 5) (n := 2) lo_X5_closeYear rfl rfl
theorem e_X5_closeYear_29 {Q : mQ} {ls st : List Value} {g : mG} {b : Nat} {a0 : Value} : WP m_X5_closeYear Q 29 ls (a0 :: .ref b :: st) g = (st.length ≤ 4 ∧ gK g b = 6 ∧ stbs g ls ∧ stbs g st ∧ w_X5_settle [.ref b, a0] g (fun v g' => WP m_X5_closeYear Q 32 ls (v.toList ++ st) g')) := E_CV (ar := [a0, .ref b]) lo_X5_closeYear rfl rfl rfl (by decide)
theorem e_X5_closeYear_32 {Q : mQ} {ls st : List Value} {g : mG} {x y : Int32} : WP m_X5_closeYear Q 32 ls (.int y :: .int x :: st) g = WP m_X5_closeYear Q 33 ls (.int (x + y) :: st) g := E_b2 (f := fun x y => x + y) lo_X5_closeYear rfl
theorem e_X5_closeYear_33 {Q : mQ} {l0 l1 l2 l3 l4 l5 : Value} {st : List Value} {g : mG} {x : Int32} : WP m_X5_closeYear Q 33 [l0, l1, l2, l3, l4, l5] (.int x :: st) g = (nl1 l0 ∧ WP m_X5_closeYear Q 34 [l0, .int x, l2, l3, l4, l5] st g) := E_is (i := 1) (n := 1) lo_X5_closeYear rfl (Nat.le_of_ble_eq_true rfl)
theorem e_X5_closeYear_34 {Q : mQ} {l0 l1 l2 l3 l5 : Value} {st : List Value} {g : mG} {x : Int32} : WP m_X5_closeYear Q 34 [l0, l1, l2, l3, .int x, l5] st g = (nl1 l3 ∧ WP m_X5_closeYear Q 37 [l0, l1, l2, l3, .int (x + nI 1), l5] st g) := E_inc (i := 4) (d := nI 1) lo_X5_closeYear rfl rfl
theorem e_X5_closeYear_37 {Q : mQ} {ls st : List Value} {g : mG} : WP m_X5_closeYear Q 37 ls st g = WP m_X5_closeYear Q 13 ls st g := E_goto lo_X5_closeYear rfl
theorem e_X5_closeYear_40 {Q : mQ} {l1 l2 l3 l4 l5 : Value} {st : List Value} {g : mG} {x : Nat} : WP m_X5_closeYear Q 40 [.ref x, l1, l2, l3, l4, l5] st g = WP m_X5_closeYear Q 41 [.ref x, l1, l2, l3, l4, l5] (.ref x :: st) g := E_al (i := 0) (n := 1) lo_X5_closeYear rfl rfl
theorem e_X5_closeYear_41 {Q : mQ} {ls st : List Value} {g : mG} {x : Value} : WP m_X5_closeYear Q 41 ls (x :: st) g = (cat1 x ∧ WP m_X5_closeYear Q 42 ls (x :: x :: st) g) := E_dup lo_X5_closeYear rfl
theorem e_X5_closeYear_42 {Q : mQ} {ls st : List Value} {g : mG} {a : Nat} : WP m_X5_closeYear Q 42 ls (.ref a :: st) g = (gK g a = 6 ∧ WP m_X5_closeYear Q 45 ls (.int (gI g a 0) :: st) g) := E_gI lo_X5_closeYear rfl
theorem e_X5_closeYear_45 {Q : mQ} {ls st : List Value} {g : mG} : WP m_X5_closeYear Q 45 ls st g = WP m_X5_closeYear Q 46 ls (.int (nI 1) :: st) g := E_ic (v := nI 1) (n := 1) lo_X5_closeYear rfl
theorem e_X5_closeYear_46 {Q : mQ} {ls st : List Value} {g : mG} {x y : Int32} : WP m_X5_closeYear Q 46 ls (.int y :: .int x :: st) g = WP m_X5_closeYear Q 47 ls (.int (x + y) :: st) g := E_b2 (f := fun x y => x + y) lo_X5_closeYear rfl
theorem e_X5_closeYear_47 {Q : mQ} {ls st : List Value} {g : mG} {a : Nat} {v : Int32} : WP m_X5_closeYear Q 47 ls (.int v :: .ref a :: st) g = (gK g a = 6 ∧ WP m_X5_closeYear Q 50 ls st (pI g a 0 v)) := E_pI lo_X5_closeYear rfl
theorem e_X5_closeYear_50 {Q : mQ} {l0 l2 l3 l4 l5 : Value} {st : List Value} {g : mG} {x : Int32} : WP m_X5_closeYear Q 50 [l0, .int x, l2, l3, l4, l5] st g = WP m_X5_closeYear Q 51 [l0, .int x, l2, l3, l4, l5] (.int x :: st) g := E_il (i := 1) (n := 1) lo_X5_closeYear rfl rfl
theorem e_X5_closeYear_51 {Q : mQ} {ls : List Value} {g : mG} {v : Int32} : WP m_X5_closeYear Q 51 ls [.int v] g = Q (some (.int v)) g := E_iret lo_X5_closeYear rfl
/-! KilnPermits$Town.kilnAt(I)LKilnPermits$Kiln; -/
def m_X5_kilnAt : List (Nat × mT) := [(0, tD (f_il 1 1)),
  (1, tI1 (fun x => x < 0) 22),
  (4, tD (f_il 1 1)),
  (5, tD (f_al 0 1)),
  (6, tD (f_gR 6 12)),
  (9, tD (f_alen)),
  (10, tI2 (fun x y => y ≤ x) 22),
  (13, tD (f_al 0 1)),
  (14, tD (f_gR 6 12)),
  (17, tD (f_il 1 1)),
  (18, tD (f_aald 14)),
  (19, tD (f_goto 23)),
  (22, tD (f_nul)),
  (23, tR f_aret)]
abbrev w_X5_kilnAt : mS := wm m_X5_kilnAt 2 0
set_option maxRecDepth 100000 in
theorem lo_X5_kilnAt : locs_ok m_X5_kilnAt := List.forall_mem_cons.mpr ⟨loc_D mo_il,
  List.forall_mem_cons.mpr ⟨loc_I1,
  List.forall_mem_cons.mpr ⟨loc_D mo_il,
  List.forall_mem_cons.mpr ⟨loc_D mo_al,
  List.forall_mem_cons.mpr ⟨loc_D mo_gR,
  List.forall_mem_cons.mpr ⟨loc_D mo_alen,
  List.forall_mem_cons.mpr ⟨loc_I2,
  List.forall_mem_cons.mpr ⟨loc_D mo_al,
  List.forall_mem_cons.mpr ⟨loc_D mo_gR,
  List.forall_mem_cons.mpr ⟨loc_D mo_il,
  List.forall_mem_cons.mpr ⟨loc_D mo_aald,
  List.forall_mem_cons.mpr ⟨loc_D mo_goto,
  List.forall_mem_cons.mpr ⟨loc_D mo_nul,
  List.forall_mem_cons.mpr ⟨loc_R,
  fun _ h => absurd h List.not_mem_nil⟩⟩⟩⟩⟩⟩⟩⟩⟩⟩⟩⟩⟩⟩
set_option maxRecDepth 100000 in
theorem sm_X5_kilnAt : SM yX5_kilnAt cX5_kilnAt 2 (some (.object "KilnPermits$Kiln")) 1 w_X5_kilnAt := SM_of' RX5 "kilnAt" rfl rfl (by decide) (by decide) (by decide) lo_X5_kilnAt (List.forall_mem_cons.mpr ⟨STP.r mo_il (q_iload_n dX5_kilnAt_0 rfl),
  List.forall_mem_cons.mpr ⟨(q_if_lt dX5_kilnAt_1 (by decide)).r,
  List.forall_mem_cons.mpr ⟨STP.r mo_il (q_iload_n dX5_kilnAt_4 rfl),
  List.forall_mem_cons.mpr ⟨STP.r mo_al (q_aload_n dX5_kilnAt_5 rfl),
  List.forall_mem_cons.mpr ⟨STP.r mo_gR (q_gR ⟨by decide, by decide⟩ (by decide) rfl (by decide) kf_X5_29 dX5_kilnAt_6),
  List.forall_mem_cons.mpr ⟨STP.r mo_alen (q_alen dX5_kilnAt_9),
  List.forall_mem_cons.mpr ⟨(q_ic_ge dX5_kilnAt_10 (by decide)).r,
  List.forall_mem_cons.mpr ⟨STP.r mo_al (q_aload_n dX5_kilnAt_13 rfl),
  List.forall_mem_cons.mpr ⟨STP.r mo_gR (q_gR ⟨by decide, by decide⟩ (by decide) rfl (by decide) kf_X5_29 dX5_kilnAt_14),
  List.forall_mem_cons.mpr ⟨STP.r mo_il (q_iload_n dX5_kilnAt_17 rfl),
  List.forall_mem_cons.mpr ⟨STP.r mo_aald (q_aald ⟨by decide, by decide⟩ dX5_kilnAt_18),
  List.forall_mem_cons.mpr ⟨STP.r mo_goto (q_goto dX5_kilnAt_19 (by decide)),
  List.forall_mem_cons.mpr ⟨STP.r mo_nul (q_nul dX5_kilnAt_22),
  List.forall_mem_cons.mpr ⟨r_aret (by first | exact Or.inl ⟨_, rfl⟩ | exact Or.inr ⟨_, rfl⟩) dX5_kilnAt_23,
  fun _ h => absurd h List.not_mem_nil⟩⟩⟩⟩⟩⟩⟩⟩⟩⟩⟩⟩⟩⟩)
theorem e_X5_kilnAt_0 {Q : mQ} {l0 : Value} {st : List Value} {g : mG} {x : Int32} : WP m_X5_kilnAt Q 0 [l0, .int x] st g = WP m_X5_kilnAt Q 1 [l0, .int x] (.int x :: st) g := E_il (i := 1) (n := 1) lo_X5_kilnAt rfl rfl
theorem e_X5_kilnAt_1 {Q : mQ} {ls st : List Value} {g : mG} {x : Int32} : WP m_X5_kilnAt Q 1 ls (.int x :: st) g = ((x < 0 → WP m_X5_kilnAt Q 22 ls st g) ∧ (¬ (x < 0) → WP m_X5_kilnAt Q 4 ls st g)) := E_I1 (c := fun x => x < 0) (t := 22) lo_X5_kilnAt rfl
theorem e_X5_kilnAt_4 {Q : mQ} {l0 : Value} {st : List Value} {g : mG} {x : Int32} : WP m_X5_kilnAt Q 4 [l0, .int x] st g = WP m_X5_kilnAt Q 5 [l0, .int x] (.int x :: st) g := E_il (i := 1) (n := 1) lo_X5_kilnAt rfl rfl
theorem e_X5_kilnAt_5 {Q : mQ} {l1 : Value} {st : List Value} {g : mG} {x : Nat} : WP m_X5_kilnAt Q 5 [.ref x, l1] st g = WP m_X5_kilnAt Q 6 [.ref x, l1] (.ref x :: st) g := E_al (i := 0) (n := 1) lo_X5_kilnAt rfl rfl
theorem e_X5_kilnAt_6 {Q : mQ} {ls st : List Value} {g : mG} {a : Nat} : WP m_X5_kilnAt Q 6 ls (.ref a :: st) g = ((gK g a = 6 ∧ gR g a 12 ≠ 0) ∧ WP m_X5_kilnAt Q 9 ls (.ref (gR g a 12) :: st) g) := E_gR lo_X5_kilnAt rfl
theorem e_X5_kilnAt_9 {Q : mQ} {ls st : List Value} {g : mG} {a : Nat} : WP m_X5_kilnAt Q 9 ls (.ref a :: st) g = ((10 ≤ gK g a ∧ gK g a ≤ 17) ∧ WP m_X5_kilnAt Q 10 ls (.int (nI (gN g a)) :: st) g) := E_alen lo_X5_kilnAt rfl
theorem e_X5_kilnAt_10 {Q : mQ} {ls st : List Value} {g : mG} {x y : Int32} : WP m_X5_kilnAt Q 10 ls (.int y :: .int x :: st) g = ((y ≤ x → WP m_X5_kilnAt Q 22 ls st g) ∧ (¬ (y ≤ x) → WP m_X5_kilnAt Q 13 ls st g)) := E_I2 (c := fun x y => y ≤ x) (t := 22) lo_X5_kilnAt rfl
theorem e_X5_kilnAt_13 {Q : mQ} {l1 : Value} {st : List Value} {g : mG} {x : Nat} : WP m_X5_kilnAt Q 13 [.ref x, l1] st g = WP m_X5_kilnAt Q 14 [.ref x, l1] (.ref x :: st) g := E_al (i := 0) (n := 1) lo_X5_kilnAt rfl rfl
theorem e_X5_kilnAt_14 {Q : mQ} {ls st : List Value} {g : mG} {a : Nat} : WP m_X5_kilnAt Q 14 ls (.ref a :: st) g = ((gK g a = 6 ∧ gR g a 12 ≠ 0) ∧ WP m_X5_kilnAt Q 17 ls (.ref (gR g a 12) :: st) g) := E_gR lo_X5_kilnAt rfl
theorem e_X5_kilnAt_17 {Q : mQ} {l0 : Value} {st : List Value} {g : mG} {x : Int32} : WP m_X5_kilnAt Q 17 [l0, .int x] st g = WP m_X5_kilnAt Q 18 [l0, .int x] (.int x :: st) g := E_il (i := 1) (n := 1) lo_X5_kilnAt rfl rfl
theorem e_X5_kilnAt_18 {Q : mQ} {ls st : List Value} {g : mG} {a : Nat} {i : Int32} : WP m_X5_kilnAt Q 18 ls (.int i :: .ref a :: st) g = ((gK g a = 14 ∧ vp_in i (gN g a) ∧ gR g a i.toNatClampNeg ≠ 0) ∧ WP m_X5_kilnAt Q 19 ls (.ref (gR g a i.toNatClampNeg) :: st) g) := E_aald lo_X5_kilnAt rfl
theorem e_X5_kilnAt_19 {Q : mQ} {ls st : List Value} {g : mG} : WP m_X5_kilnAt Q 19 ls st g = WP m_X5_kilnAt Q 23 ls st g := E_goto lo_X5_kilnAt rfl
theorem e_X5_kilnAt_22 {Q : mQ} {ls st : List Value} {g : mG} : WP m_X5_kilnAt Q 22 ls st g = WP m_X5_kilnAt Q 23 ls (.null :: st) g := E_nul lo_X5_kilnAt rfl
theorem e_X5_kilnAt_23 {Q : mQ} {ls : List Value} {g : mG} {v : Nat} : WP m_X5_kilnAt Q 23 ls [.ref v] g = Q (some (.ref v)) g := E_aret lo_X5_kilnAt rfl
theorem e_X5_kilnAt_23n {Q : mQ} {ls : List Value} {g : mG} : WP m_X5_kilnAt Q 23 ls [.null] g = Q (some .null) g := E_aretn lo_X5_kilnAt rfl
/-! KilnPermits$Town.sellReserve(LKilnPermits$Kiln;I)V -/
def m_X5_sellReserve : List (Nat × mT) := [(0, tD (f_il 2 1)),
  (1, tD (f_al 0 1)),
  (2, tD (f_gR 6 11)),
  (5, tD (f_ic (nI 1) 1)),
  (6, tD (f_iald)),
  (7, tD (f_b2 fun x y => x * y)),
  (8, tD (f_is 3 1)),
  (9, tD (f_al 1 1)),
  (10, tD (f_dup)),
  (11, tD (f_gI 1 0)),
  (14, tD (f_il 3 1)),
  (15, tD (f_b2 fun x y => x - y)),
  (16, tD (f_pI 1 0)),
  (19, tD (f_al 1 1)),
  (20, tD (f_gR 1 7)),
  (23, tD (f_al 0 1)),
  (24, tD (f_gI 6 0)),
  (27, tD (f_il 2 1)),
  (28, tC w_X4_add 5 3),
  (31, tD (f_al 0 1)),
  (32, tD (f_dup)),
  (33, tD (f_gI 6 10)),
  (36, tD (f_il 3 1)),
  (37, tD (f_b2 fun x y => x + y)),
  (38, tD (f_pI 6 10)),
  (41, tD (f_al 0 1)),
  (42, tD (f_dup)),
  (43, tD (f_gI 6 4)),
  (46, tD (f_il 2 1)),
  (47, tD (f_b2 fun x y => x - y)),
  (48, tD (f_pI 6 4)),
  (51, tD (f_al 0 1)),
  (52, tD (f_dup)),
  (53, tD (f_gI 6 5)),
  (56, tD (f_il 2 1)),
  (57, tD (f_b2 fun x y => x + y)),
  (58, tD (f_pI 6 5)),
  (61, tR f_ret)]
abbrev w_X5_sellReserve : mS := wm m_X5_sellReserve 3 1
set_option maxRecDepth 100000 in
theorem lo_X5_sellReserve : locs_ok m_X5_sellReserve := List.forall_mem_cons.mpr ⟨loc_D mo_il,
  List.forall_mem_cons.mpr ⟨loc_D mo_al,
  List.forall_mem_cons.mpr ⟨loc_D mo_gR,
  List.forall_mem_cons.mpr ⟨loc_D mo_ic,
  List.forall_mem_cons.mpr ⟨loc_D mo_iald,
  List.forall_mem_cons.mpr ⟨loc_D mo_b2,
  List.forall_mem_cons.mpr ⟨loc_D mo_is,
  List.forall_mem_cons.mpr ⟨loc_D mo_al,
  List.forall_mem_cons.mpr ⟨loc_D mo_dup,
  List.forall_mem_cons.mpr ⟨loc_D mo_gI,
  List.forall_mem_cons.mpr ⟨loc_D mo_il,
  List.forall_mem_cons.mpr ⟨loc_D mo_b2,
  List.forall_mem_cons.mpr ⟨loc_D mo_pI,
  List.forall_mem_cons.mpr ⟨loc_D mo_al,
  List.forall_mem_cons.mpr ⟨loc_D mo_gR,
  List.forall_mem_cons.mpr ⟨loc_D mo_al,
  List.forall_mem_cons.mpr ⟨loc_D mo_gI,
  List.forall_mem_cons.mpr ⟨loc_D mo_il,
  List.forall_mem_cons.mpr ⟨loc_C sm_X4_add.1,
  List.forall_mem_cons.mpr ⟨loc_D mo_al,
  List.forall_mem_cons.mpr ⟨loc_D mo_dup,
  List.forall_mem_cons.mpr ⟨loc_D mo_gI,
  List.forall_mem_cons.mpr ⟨loc_D mo_il,
  List.forall_mem_cons.mpr ⟨loc_D mo_b2,
  List.forall_mem_cons.mpr ⟨loc_D mo_pI,
  List.forall_mem_cons.mpr ⟨loc_D mo_al,
  List.forall_mem_cons.mpr ⟨loc_D mo_dup,
  List.forall_mem_cons.mpr ⟨loc_D mo_gI,
  List.forall_mem_cons.mpr ⟨loc_D mo_il,
  List.forall_mem_cons.mpr ⟨loc_D mo_b2,
  List.forall_mem_cons.mpr ⟨loc_D mo_pI,
  List.forall_mem_cons.mpr ⟨loc_D mo_al,
  List.forall_mem_cons.mpr ⟨loc_D mo_dup,
  List.forall_mem_cons.mpr ⟨loc_D mo_gI,
  List.forall_mem_cons.mpr ⟨loc_D mo_il,
  List.forall_mem_cons.mpr ⟨loc_D mo_b2,
  List.forall_mem_cons.mpr ⟨loc_D mo_pI,
  List.forall_mem_cons.mpr ⟨loc_R,
  fun _ h => absurd h List.not_mem_nil⟩⟩⟩⟩⟩⟩⟩⟩⟩⟩⟩⟩⟩⟩⟩⟩⟩⟩⟩⟩⟩⟩⟩⟩⟩⟩⟩⟩⟩⟩⟩⟩⟩⟩⟩⟩⟩⟩
set_option maxRecDepth 100000 in
theorem sm_X5_sellReserve : SM yX5_sellReserve cX5_sellReserve 4 none 3 w_X5_sellReserve := SM_of' RX5 "sellReserve" rfl rfl (by decide) (by decide) (by decide) lo_X5_sellReserve (List.forall_mem_cons.mpr ⟨STP.r mo_il (q_iload_n dX5_sellReserve_0 rfl),
  List.forall_mem_cons.mpr ⟨STP.r mo_al (q_aload_n dX5_sellReserve_1 rfl),
  List.forall_mem_cons.mpr ⟨STP.r mo_gR (q_gR ⟨by decide, by decide⟩ (by decide) rfl (by decide) kf_X5_24 dX5_sellReserve_2),
  List.forall_mem_cons.mpr ⟨STP.r mo_ic (q_iconst dX5_sellReserve_5 (by decide)),
  List.forall_mem_cons.mpr ⟨STP.r mo_iald (q_iald dX5_sellReserve_6),
  List.forall_mem_cons.mpr ⟨STP.r mo_b2 (q_imul dX5_sellReserve_7),
  List.forall_mem_cons.mpr ⟨STP.r mo_is (q_istore_n dX5_sellReserve_8 rfl),
  List.forall_mem_cons.mpr ⟨STP.r mo_al (q_aload_n dX5_sellReserve_9 rfl),
  List.forall_mem_cons.mpr ⟨STP.r mo_dup (q_dup dX5_sellReserve_10),
  List.forall_mem_cons.mpr ⟨STP.r mo_gI (q_gI ⟨by decide, by decide⟩ (by decide) rfl kf_X5_97 dX5_sellReserve_11),
  List.forall_mem_cons.mpr ⟨STP.r mo_il (q_iload_n dX5_sellReserve_14 rfl),
  List.forall_mem_cons.mpr ⟨STP.r mo_b2 (q_isub dX5_sellReserve_15),
  List.forall_mem_cons.mpr ⟨STP.r mo_pI (q_pI ⟨by decide, by decide⟩ (by decide) rfl rfl kf_X5_97 dX5_sellReserve_16),
  List.forall_mem_cons.mpr ⟨STP.r mo_al (q_aload_n dX5_sellReserve_19 rfl),
  List.forall_mem_cons.mpr ⟨STP.r mo_gR (q_gR ⟨by decide, by decide⟩ (by decide) rfl (by decide) kf_X5_87 dX5_sellReserve_20),
  List.forall_mem_cons.mpr ⟨STP.r mo_al (q_aload_n dX5_sellReserve_23 rfl),
  List.forall_mem_cons.mpr ⟨STP.r mo_gI (q_gI ⟨by decide, by decide⟩ (by decide) rfl kf_X5_41 dX5_sellReserve_24),
  List.forall_mem_cons.mpr ⟨STP.r mo_il (q_iload_n dX5_sellReserve_27 rfl),
  List.forall_mem_cons.mpr ⟨(snd_CV sm_X4_add ⟨by decide, by decide⟩ rfl km_X5_91 kt_X4_add kv_X4_add rfl ki_X4 kx_X4_add ⟨by decide, by decide, by decide +kernel⟩ (by decide) (by decide) dX5_sellReserve_28).r,
  List.forall_mem_cons.mpr ⟨STP.r mo_al (q_aload_n dX5_sellReserve_31 rfl),
  List.forall_mem_cons.mpr ⟨STP.r mo_dup (q_dup dX5_sellReserve_32),
  List.forall_mem_cons.mpr ⟨STP.r mo_gI (q_gI ⟨by decide, by decide⟩ (by decide) rfl kf_X5_68 dX5_sellReserve_33),
  List.forall_mem_cons.mpr ⟨STP.r mo_il (q_iload_n dX5_sellReserve_36 rfl),
  List.forall_mem_cons.mpr ⟨STP.r mo_b2 (q_iadd dX5_sellReserve_37),
  List.forall_mem_cons.mpr ⟨STP.r mo_pI (q_pI ⟨by decide, by decide⟩ (by decide) rfl rfl kf_X5_68 dX5_sellReserve_38),
  List.forall_mem_cons.mpr ⟨STP.r mo_al (q_aload_n dX5_sellReserve_41 rfl),
  List.forall_mem_cons.mpr ⟨STP.r mo_dup (q_dup dX5_sellReserve_42),
  List.forall_mem_cons.mpr ⟨STP.r mo_gI (q_gI ⟨by decide, by decide⟩ (by decide) rfl kf_X5_9 dX5_sellReserve_43),
  List.forall_mem_cons.mpr ⟨STP.r mo_il (q_iload_n dX5_sellReserve_46 rfl),
  List.forall_mem_cons.mpr ⟨STP.r mo_b2 (q_isub dX5_sellReserve_47),
  List.forall_mem_cons.mpr ⟨STP.r mo_pI (q_pI ⟨by decide, by decide⟩ (by decide) rfl rfl kf_X5_9 dX5_sellReserve_48),
  List.forall_mem_cons.mpr ⟨STP.r mo_al (q_aload_n dX5_sellReserve_51 rfl),
  List.forall_mem_cons.mpr ⟨STP.r mo_dup (q_dup dX5_sellReserve_52),
  List.forall_mem_cons.mpr ⟨STP.r mo_gI (q_gI ⟨by decide, by decide⟩ (by decide) rfl kf_X5_53 dX5_sellReserve_53),
  List.forall_mem_cons.mpr ⟨STP.r mo_il (q_iload_n dX5_sellReserve_56 rfl),
  List.forall_mem_cons.mpr ⟨STP.r mo_b2 (q_iadd dX5_sellReserve_57),
  List.forall_mem_cons.mpr ⟨STP.r mo_pI (q_pI ⟨by decide, by decide⟩ (by decide) rfl rfl kf_X5_53 dX5_sellReserve_58),
  List.forall_mem_cons.mpr ⟨r_ret dX5_sellReserve_61,
  fun _ h => absurd h List.not_mem_nil⟩⟩⟩⟩⟩⟩⟩⟩⟩⟩⟩⟩⟩⟩⟩⟩⟩⟩⟩⟩⟩⟩⟩⟩⟩⟩⟩⟩⟩⟩⟩⟩⟩⟩⟩⟩⟩⟩)
theorem e_X5_sellReserve_0 {Q : mQ} {l0 l1 l3 : Value} {st : List Value} {g : mG} {x : Int32} : WP m_X5_sellReserve Q 0 [l0, l1, .int x, l3] st g = WP m_X5_sellReserve Q 1 [l0, l1, .int x, l3] (.int x :: st) g := E_il (i := 2) (n := 1) lo_X5_sellReserve rfl rfl
theorem e_X5_sellReserve_1 {Q : mQ} {l1 l2 l3 : Value} {st : List Value} {g : mG} {x : Nat} : WP m_X5_sellReserve Q 1 [.ref x, l1, l2, l3] st g = WP m_X5_sellReserve Q 2 [.ref x, l1, l2, l3] (.ref x :: st) g := E_al (i := 0) (n := 1) lo_X5_sellReserve rfl rfl
theorem e_X5_sellReserve_2 {Q : mQ} {ls st : List Value} {g : mG} {a : Nat} : WP m_X5_sellReserve Q 2 ls (.ref a :: st) g = ((gK g a = 6 ∧ gR g a 11 ≠ 0) ∧ WP m_X5_sellReserve Q 5 ls (.ref (gR g a 11) :: st) g) := E_gR lo_X5_sellReserve rfl
theorem e_X5_sellReserve_5 {Q : mQ} {ls st : List Value} {g : mG} : WP m_X5_sellReserve Q 5 ls st g = WP m_X5_sellReserve Q 6 ls (.int (nI 1) :: st) g := E_ic (v := nI 1) (n := 1) lo_X5_sellReserve rfl
theorem e_X5_sellReserve_6 {Q : mQ} {ls st : List Value} {g : mG} {a : Nat} {i : Int32} : WP m_X5_sellReserve Q 6 ls (.int i :: .ref a :: st) g = ((isIA g a ∧ vp_in i (gN g a)) ∧ WP m_X5_sellReserve Q 7 ls (.int (gI g a i.toNatClampNeg) :: st) g) := E_iald lo_X5_sellReserve rfl
theorem e_X5_sellReserve_7 {Q : mQ} {ls st : List Value} {g : mG} {x y : Int32} : WP m_X5_sellReserve Q 7 ls (.int y :: .int x :: st) g = WP m_X5_sellReserve Q 8 ls (.int (x * y) :: st) g := E_b2 (f := fun x y => x * y) lo_X5_sellReserve rfl
theorem e_X5_sellReserve_8 {Q : mQ} {l0 l1 l2 l3 : Value} {st : List Value} {g : mG} {x : Int32} : WP m_X5_sellReserve Q 8 [l0, l1, l2, l3] (.int x :: st) g = (nl1 l2 ∧ WP m_X5_sellReserve Q 9 [l0, l1, l2, .int x] st g) := E_is (i := 3) (n := 1) lo_X5_sellReserve rfl (Nat.le_of_ble_eq_true rfl)
theorem e_X5_sellReserve_9 {Q : mQ} {l0 l2 l3 : Value} {st : List Value} {g : mG} {x : Nat} : WP m_X5_sellReserve Q 9 [l0, .ref x, l2, l3] st g = WP m_X5_sellReserve Q 10 [l0, .ref x, l2, l3] (.ref x :: st) g := E_al (i := 1) (n := 1) lo_X5_sellReserve rfl rfl
theorem e_X5_sellReserve_9n {Q : mQ} {l0 l2 l3 : Value} {st : List Value} {g : mG} : WP m_X5_sellReserve Q 9 [l0, .null, l2, l3] st g = WP m_X5_sellReserve Q 10 [l0, .null, l2, l3] (.null :: st) g := E_aln (i := 1) (n := 1) lo_X5_sellReserve rfl rfl
theorem e_X5_sellReserve_10 {Q : mQ} {ls st : List Value} {g : mG} {x : Value} : WP m_X5_sellReserve Q 10 ls (x :: st) g = (cat1 x ∧ WP m_X5_sellReserve Q 11 ls (x :: x :: st) g) := E_dup lo_X5_sellReserve rfl
theorem e_X5_sellReserve_11 {Q : mQ} {ls st : List Value} {g : mG} {a : Nat} : WP m_X5_sellReserve Q 11 ls (.ref a :: st) g = (gK g a = 1 ∧ WP m_X5_sellReserve Q 14 ls (.int (gI g a 0) :: st) g) := E_gI lo_X5_sellReserve rfl
theorem e_X5_sellReserve_14 {Q : mQ} {l0 l1 l2 : Value} {st : List Value} {g : mG} {x : Int32} : WP m_X5_sellReserve Q 14 [l0, l1, l2, .int x] st g = WP m_X5_sellReserve Q 15 [l0, l1, l2, .int x] (.int x :: st) g := E_il (i := 3) (n := 1) lo_X5_sellReserve rfl rfl
theorem e_X5_sellReserve_15 {Q : mQ} {ls st : List Value} {g : mG} {x y : Int32} : WP m_X5_sellReserve Q 15 ls (.int y :: .int x :: st) g = WP m_X5_sellReserve Q 16 ls (.int (x - y) :: st) g := E_b2 (f := fun x y => x - y) lo_X5_sellReserve rfl
theorem e_X5_sellReserve_16 {Q : mQ} {ls st : List Value} {g : mG} {a : Nat} {v : Int32} : WP m_X5_sellReserve Q 16 ls (.int v :: .ref a :: st) g = (gK g a = 1 ∧ WP m_X5_sellReserve Q 19 ls st (pI g a 0 v)) := E_pI lo_X5_sellReserve rfl
theorem e_X5_sellReserve_19 {Q : mQ} {l0 l2 l3 : Value} {st : List Value} {g : mG} {x : Nat} : WP m_X5_sellReserve Q 19 [l0, .ref x, l2, l3] st g = WP m_X5_sellReserve Q 20 [l0, .ref x, l2, l3] (.ref x :: st) g := E_al (i := 1) (n := 1) lo_X5_sellReserve rfl rfl
theorem e_X5_sellReserve_19n {Q : mQ} {l0 l2 l3 : Value} {st : List Value} {g : mG} : WP m_X5_sellReserve Q 19 [l0, .null, l2, l3] st g = WP m_X5_sellReserve Q 20 [l0, .null, l2, l3] (.null :: st) g := E_aln (i := 1) (n := 1) lo_X5_sellReserve rfl rfl
theorem e_X5_sellReserve_20 {Q : mQ} {ls st : List Value} {g : mG} {a : Nat} : WP m_X5_sellReserve Q 20 ls (.ref a :: st) g = ((gK g a = 1 ∧ gR g a 7 ≠ 0) ∧ WP m_X5_sellReserve Q 23 ls (.ref (gR g a 7) :: st) g) := E_gR lo_X5_sellReserve rfl
theorem e_X5_sellReserve_23 {Q : mQ} {l1 l2 l3 : Value} {st : List Value} {g : mG} {x : Nat} : WP m_X5_sellReserve Q 23 [.ref x, l1, l2, l3] st g = WP m_X5_sellReserve Q 24 [.ref x, l1, l2, l3] (.ref x :: st) g := E_al (i := 0) (n := 1) lo_X5_sellReserve rfl rfl
theorem e_X5_sellReserve_24 {Q : mQ} {ls st : List Value} {g : mG} {a : Nat} : WP m_X5_sellReserve Q 24 ls (.ref a :: st) g = (gK g a = 6 ∧ WP m_X5_sellReserve Q 27 ls (.int (gI g a 0) :: st) g) := E_gI lo_X5_sellReserve rfl
theorem e_X5_sellReserve_27 {Q : mQ} {l0 l1 l3 : Value} {st : List Value} {g : mG} {x : Int32} : WP m_X5_sellReserve Q 27 [l0, l1, .int x, l3] st g = WP m_X5_sellReserve Q 28 [l0, l1, .int x, l3] (.int x :: st) g := E_il (i := 2) (n := 1) lo_X5_sellReserve rfl rfl
theorem e_X5_sellReserve_28 {Q : mQ} {ls st : List Value} {g : mG} {b : Nat} {a0 a1 : Value} : WP m_X5_sellReserve Q 28 ls (a1 :: a0 :: .ref b :: st) g = (st.length ≤ 4 ∧ gK g b = 5 ∧ stbs g ls ∧ stbs g st ∧ w_X4_add [.ref b, a0, a1] g (fun v g' => WP m_X5_sellReserve Q 31 ls (v.toList ++ st) g')) := E_CV (ar := [a1, a0, .ref b]) lo_X5_sellReserve rfl rfl rfl (by decide)
theorem e_X5_sellReserve_31 {Q : mQ} {l1 l2 l3 : Value} {st : List Value} {g : mG} {x : Nat} : WP m_X5_sellReserve Q 31 [.ref x, l1, l2, l3] st g = WP m_X5_sellReserve Q 32 [.ref x, l1, l2, l3] (.ref x :: st) g := E_al (i := 0) (n := 1) lo_X5_sellReserve rfl rfl
theorem e_X5_sellReserve_32 {Q : mQ} {ls st : List Value} {g : mG} {x : Value} : WP m_X5_sellReserve Q 32 ls (x :: st) g = (cat1 x ∧ WP m_X5_sellReserve Q 33 ls (x :: x :: st) g) := E_dup lo_X5_sellReserve rfl
theorem e_X5_sellReserve_33 {Q : mQ} {ls st : List Value} {g : mG} {a : Nat} : WP m_X5_sellReserve Q 33 ls (.ref a :: st) g = (gK g a = 6 ∧ WP m_X5_sellReserve Q 36 ls (.int (gI g a 10) :: st) g) := E_gI lo_X5_sellReserve rfl
theorem e_X5_sellReserve_36 {Q : mQ} {l0 l1 l2 : Value} {st : List Value} {g : mG} {x : Int32} : WP m_X5_sellReserve Q 36 [l0, l1, l2, .int x] st g = WP m_X5_sellReserve Q 37 [l0, l1, l2, .int x] (.int x :: st) g := E_il (i := 3) (n := 1) lo_X5_sellReserve rfl rfl
theorem e_X5_sellReserve_37 {Q : mQ} {ls st : List Value} {g : mG} {x y : Int32} : WP m_X5_sellReserve Q 37 ls (.int y :: .int x :: st) g = WP m_X5_sellReserve Q 38 ls (.int (x + y) :: st) g := E_b2 (f := fun x y => x + y) lo_X5_sellReserve rfl
theorem e_X5_sellReserve_38 {Q : mQ} {ls st : List Value} {g : mG} {a : Nat} {v : Int32} : WP m_X5_sellReserve Q 38 ls (.int v :: .ref a :: st) g = (gK g a = 6 ∧ WP m_X5_sellReserve Q 41 ls st (pI g a 10 v)) := E_pI lo_X5_sellReserve rfl
theorem e_X5_sellReserve_41 {Q : mQ} {l1 l2 l3 : Value} {st : List Value} {g : mG} {x : Nat} : WP m_X5_sellReserve Q 41 [.ref x, l1, l2, l3] st g = WP m_X5_sellReserve Q 42 [.ref x, l1, l2, l3] (.ref x :: st) g := E_al (i := 0) (n := 1) lo_X5_sellReserve rfl rfl
theorem e_X5_sellReserve_42 {Q : mQ} {ls st : List Value} {g : mG} {x : Value} : WP m_X5_sellReserve Q 42 ls (x :: st) g = (cat1 x ∧ WP m_X5_sellReserve Q 43 ls (x :: x :: st) g) := E_dup lo_X5_sellReserve rfl
theorem e_X5_sellReserve_43 {Q : mQ} {ls st : List Value} {g : mG} {a : Nat} : WP m_X5_sellReserve Q 43 ls (.ref a :: st) g = (gK g a = 6 ∧ WP m_X5_sellReserve Q 46 ls (.int (gI g a 4) :: st) g) := E_gI lo_X5_sellReserve rfl
theorem e_X5_sellReserve_46 {Q : mQ} {l0 l1 l3 : Value} {st : List Value} {g : mG} {x : Int32} : WP m_X5_sellReserve Q 46 [l0, l1, .int x, l3] st g = WP m_X5_sellReserve Q 47 [l0, l1, .int x, l3] (.int x :: st) g := E_il (i := 2) (n := 1) lo_X5_sellReserve rfl rfl
theorem e_X5_sellReserve_47 {Q : mQ} {ls st : List Value} {g : mG} {x y : Int32} : WP m_X5_sellReserve Q 47 ls (.int y :: .int x :: st) g = WP m_X5_sellReserve Q 48 ls (.int (x - y) :: st) g := E_b2 (f := fun x y => x - y) lo_X5_sellReserve rfl
theorem e_X5_sellReserve_48 {Q : mQ} {ls st : List Value} {g : mG} {a : Nat} {v : Int32} : WP m_X5_sellReserve Q 48 ls (.int v :: .ref a :: st) g = (gK g a = 6 ∧ WP m_X5_sellReserve Q 51 ls st (pI g a 4 v)) := E_pI lo_X5_sellReserve rfl
theorem e_X5_sellReserve_51 {Q : mQ} {l1 l2 l3 : Value} {st : List Value} {g : mG} {x : Nat} : WP m_X5_sellReserve Q 51 [.ref x, l1, l2, l3] st g = WP m_X5_sellReserve Q 52 [.ref x, l1, l2, l3] (.ref x :: st) g := E_al (i := 0) (n := 1) lo_X5_sellReserve rfl rfl
theorem e_X5_sellReserve_52 {Q : mQ} {ls st : List Value} {g : mG} {x : Value} : WP m_X5_sellReserve Q 52 ls (x :: st) g = (cat1 x ∧ WP m_X5_sellReserve Q 53 ls (x :: x :: st) g) := E_dup lo_X5_sellReserve rfl
theorem e_X5_sellReserve_53 {Q : mQ} {ls st : List Value} {g : mG} {a : Nat} : WP m_X5_sellReserve Q 53 ls (.ref a :: st) g = (gK g a = 6 ∧ WP m_X5_sellReserve Q 56 ls (.int (gI g a 5) :: st) g) := E_gI lo_X5_sellReserve rfl
theorem e_X5_sellReserve_56 {Q : mQ} {l0 l1 l3 : Value} {st : List Value} {g : mG} {x : Int32} : WP m_X5_sellReserve Q 56 [l0, l1, .int x, l3] st g = WP m_X5_sellReserve Q 57 [l0, l1, .int x, l3] (.int x :: st) g := E_il (i := 2) (n := 1) lo_X5_sellReserve rfl rfl
theorem e_X5_sellReserve_57 {Q : mQ} {ls st : List Value} {g : mG} {x y : Int32} : WP m_X5_sellReserve Q 57 ls (.int y :: .int x :: st) g = WP m_X5_sellReserve Q 58 ls (.int (x + y) :: st) g := E_b2 (f := fun x y => x + y) lo_X5_sellReserve rfl
theorem e_X5_sellReserve_58 {Q : mQ} {ls st : List Value} {g : mG} {a : Nat} {v : Int32} : WP m_X5_sellReserve Q 58 ls (.int v :: .ref a :: st) g = (gK g a = 6 ∧ WP m_X5_sellReserve Q 61 ls st (pI g a 5 v)) := E_pI lo_X5_sellReserve rfl
theorem e_X5_sellReserve_61 {Q : mQ} {ls : List Value} {g : mG} : WP m_X5_sellReserve Q 61 ls [] g = Q none g := E_ret lo_X5_sellReserve rfl
/-! KilnPermits$Town.standingWith(I)LKilnPermits$Order; -/
def m_X5_standingWith : List (Nat × mT) := [(0, tD (f_al 0 1)),
  (1, tD (f_gR 6 13)),
  (4, tD (f_as 2 1)),
  (5, tD (f_al 2 1)),
  (6, tD (f_alen)),
  (7, tD (f_is 3 1)),
  (8, tD (f_ic (nI 0) 1)),
  (9, tD (f_is 4 2)),
  (11, tD (f_il 4 2)),
  (13, tD (f_il 3 1)),
  (14, tI2 (fun x y => y ≤ x) 49),
  (17, tD (f_al 2 1)),
  (18, tD (f_il 4 2)),
  (20, tD (f_aald 15)),
  (21, tD (f_as 5 2)),
  (23, tD (f_al 5 2)),
  (25, tD (f_gI 3 3)),
  (28, tI1 (fun x => x ≤ 0) 43),
  (31, tD (f_al 5 2)),
  (33, tD (f_gI 3 0)),
  (36, tD (f_il 1 1)),
  (37, tI2 (fun x y => ¬ x = y) 43),
  (40, tD (f_al 5 2)),
  (42, tR f_aret),
  (43, tD (f_inc 4 (nI 1))),
  (46, tD (f_goto 11)),
  (49, tD (f_nul)),
  (50, tR f_aret)]
abbrev w_X5_standingWith : mS := wm m_X5_standingWith 2 4
set_option maxRecDepth 100000 in
theorem lo_X5_standingWith : locs_ok m_X5_standingWith := List.forall_mem_cons.mpr ⟨loc_D mo_al,
  List.forall_mem_cons.mpr ⟨loc_D mo_gR,
  List.forall_mem_cons.mpr ⟨loc_D mo_as,
  List.forall_mem_cons.mpr ⟨loc_D mo_al,
  List.forall_mem_cons.mpr ⟨loc_D mo_alen,
  List.forall_mem_cons.mpr ⟨loc_D mo_is,
  List.forall_mem_cons.mpr ⟨loc_D mo_ic,
  List.forall_mem_cons.mpr ⟨loc_D mo_is,
  List.forall_mem_cons.mpr ⟨loc_D mo_il,
  List.forall_mem_cons.mpr ⟨loc_D mo_il,
  List.forall_mem_cons.mpr ⟨loc_I2,
  List.forall_mem_cons.mpr ⟨loc_D mo_al,
  List.forall_mem_cons.mpr ⟨loc_D mo_il,
  List.forall_mem_cons.mpr ⟨loc_D mo_aald,
  List.forall_mem_cons.mpr ⟨loc_D mo_as,
  List.forall_mem_cons.mpr ⟨loc_D mo_al,
  List.forall_mem_cons.mpr ⟨loc_D mo_gI,
  List.forall_mem_cons.mpr ⟨loc_I1,
  List.forall_mem_cons.mpr ⟨loc_D mo_al,
  List.forall_mem_cons.mpr ⟨loc_D mo_gI,
  List.forall_mem_cons.mpr ⟨loc_D mo_il,
  List.forall_mem_cons.mpr ⟨loc_I2,
  List.forall_mem_cons.mpr ⟨loc_D mo_al,
  List.forall_mem_cons.mpr ⟨loc_R,
  List.forall_mem_cons.mpr ⟨loc_D mo_inc,
  List.forall_mem_cons.mpr ⟨loc_D mo_goto,
  List.forall_mem_cons.mpr ⟨loc_D mo_nul,
  List.forall_mem_cons.mpr ⟨loc_R,
  fun _ h => absurd h List.not_mem_nil⟩⟩⟩⟩⟩⟩⟩⟩⟩⟩⟩⟩⟩⟩⟩⟩⟩⟩⟩⟩⟩⟩⟩⟩⟩⟩⟩⟩
set_option maxRecDepth 100000 in
theorem sm_X5_standingWith : SM yX5_standingWith cX5_standingWith 6 (some (.object "KilnPermits$Order")) 1 w_X5_standingWith := SM_of' RX5 "standingWith" rfl rfl (by decide) (by decide) (by decide) lo_X5_standingWith (List.forall_mem_cons.mpr ⟨STP.r mo_al (q_aload_n dX5_standingWith_0 rfl),
  List.forall_mem_cons.mpr ⟨STP.r mo_gR (q_gR ⟨by decide, by decide⟩ (by decide) rfl (by decide) kf_X5_35 dX5_standingWith_1),
  List.forall_mem_cons.mpr ⟨STP.r mo_as (q_astore_n dX5_standingWith_4 rfl),
  List.forall_mem_cons.mpr ⟨STP.r mo_al (q_aload_n dX5_standingWith_5 rfl),
  List.forall_mem_cons.mpr ⟨STP.r mo_alen (q_alen dX5_standingWith_6),
  List.forall_mem_cons.mpr ⟨STP.r mo_is (q_istore_n dX5_standingWith_7 rfl),
  List.forall_mem_cons.mpr ⟨STP.r mo_ic (q_iconst dX5_standingWith_8 (by decide)),
  List.forall_mem_cons.mpr ⟨STP.r mo_is (q_istore dX5_standingWith_9),
  List.forall_mem_cons.mpr ⟨STP.r mo_il (q_iload dX5_standingWith_11),
  List.forall_mem_cons.mpr ⟨STP.r mo_il (q_iload_n dX5_standingWith_13 rfl),
  List.forall_mem_cons.mpr ⟨(q_ic_ge dX5_standingWith_14 (by decide)).r,
  List.forall_mem_cons.mpr ⟨STP.r mo_al (q_aload_n dX5_standingWith_17 rfl),
  List.forall_mem_cons.mpr ⟨STP.r mo_il (q_iload dX5_standingWith_18),
  List.forall_mem_cons.mpr ⟨STP.r mo_aald (q_aald ⟨by decide, by decide⟩ dX5_standingWith_20),
  List.forall_mem_cons.mpr ⟨STP.r mo_as (q_astore dX5_standingWith_21),
  List.forall_mem_cons.mpr ⟨STP.r mo_al (q_aload dX5_standingWith_23),
  List.forall_mem_cons.mpr ⟨STP.r mo_gI (q_gI ⟨by decide, by decide⟩ (by decide) rfl kf_X5_154 dX5_standingWith_25),
  List.forall_mem_cons.mpr ⟨(q_if_le dX5_standingWith_28 (by decide)).r,
  List.forall_mem_cons.mpr ⟨STP.r mo_al (q_aload dX5_standingWith_31),
  List.forall_mem_cons.mpr ⟨STP.r mo_gI (q_gI ⟨by decide, by decide⟩ (by decide) rfl kf_X5_188 dX5_standingWith_33),
  List.forall_mem_cons.mpr ⟨STP.r mo_il (q_iload_n dX5_standingWith_36 rfl),
  List.forall_mem_cons.mpr ⟨(q_ic_ne dX5_standingWith_37 (by decide)).r,
  List.forall_mem_cons.mpr ⟨STP.r mo_al (q_aload dX5_standingWith_40),
  List.forall_mem_cons.mpr ⟨r_aret (by first | exact Or.inl ⟨_, rfl⟩ | exact Or.inr ⟨_, rfl⟩) dX5_standingWith_42,
  List.forall_mem_cons.mpr ⟨STP.r mo_inc (q_inc dX5_standingWith_43 (by decide)),
  List.forall_mem_cons.mpr ⟨STP.r mo_goto (q_goto dX5_standingWith_46 (by decide)),
  List.forall_mem_cons.mpr ⟨STP.r mo_nul (q_nul dX5_standingWith_49),
  List.forall_mem_cons.mpr ⟨r_aret (by first | exact Or.inl ⟨_, rfl⟩ | exact Or.inr ⟨_, rfl⟩) dX5_standingWith_50,
  fun _ h => absurd h List.not_mem_nil⟩⟩⟩⟩⟩⟩⟩⟩⟩⟩⟩⟩⟩⟩⟩⟩⟩⟩⟩⟩⟩⟩⟩⟩⟩⟩⟩⟩)
theorem e_X5_standingWith_0 {Q : mQ} {l1 l2 l3 l4 l5 : Value} {st : List Value} {g : mG} {x : Nat} : WP m_X5_standingWith Q 0 [.ref x, l1, l2, l3, l4, l5] st g = WP m_X5_standingWith Q 1 [.ref x, l1, l2, l3, l4, l5] (.ref x :: st) g := E_al (i := 0) (n := 1) lo_X5_standingWith rfl rfl
theorem e_X5_standingWith_1 {Q : mQ} {ls st : List Value} {g : mG} {a : Nat} : WP m_X5_standingWith Q 1 ls (.ref a :: st) g = ((gK g a = 6 ∧ gR g a 13 ≠ 0) ∧ WP m_X5_standingWith Q 4 ls (.ref (gR g a 13) :: st) g) := E_gR lo_X5_standingWith rfl
theorem e_X5_standingWith_4 {Q : mQ} {l0 l1 l2 l3 l4 l5 : Value} {st : List Value} {g : mG} {x : Nat} : WP m_X5_standingWith Q 4 [l0, l1, l2, l3, l4, l5] (.ref x :: st) g = (nl1 l1 ∧ WP m_X5_standingWith Q 5 [l0, l1, .ref x, l3, l4, l5] st g) := E_as (i := 2) (n := 1) lo_X5_standingWith rfl (Nat.le_of_ble_eq_true rfl)
theorem e_X5_standingWith_4n {Q : mQ} {l0 l1 l2 l3 l4 l5 : Value} {st : List Value} {g : mG} : WP m_X5_standingWith Q 4 [l0, l1, l2, l3, l4, l5] (.null :: st) g = (nl1 l1 ∧ WP m_X5_standingWith Q 5 [l0, l1, .null, l3, l4, l5] st g) := E_asn (i := 2) (n := 1) lo_X5_standingWith rfl (Nat.le_of_ble_eq_true rfl)
theorem e_X5_standingWith_5 {Q : mQ} {l0 l1 l3 l4 l5 : Value} {st : List Value} {g : mG} {x : Nat} : WP m_X5_standingWith Q 5 [l0, l1, .ref x, l3, l4, l5] st g = WP m_X5_standingWith Q 6 [l0, l1, .ref x, l3, l4, l5] (.ref x :: st) g := E_al (i := 2) (n := 1) lo_X5_standingWith rfl rfl
theorem e_X5_standingWith_5n {Q : mQ} {l0 l1 l3 l4 l5 : Value} {st : List Value} {g : mG} : WP m_X5_standingWith Q 5 [l0, l1, .null, l3, l4, l5] st g = WP m_X5_standingWith Q 6 [l0, l1, .null, l3, l4, l5] (.null :: st) g := E_aln (i := 2) (n := 1) lo_X5_standingWith rfl rfl
theorem e_X5_standingWith_6 {Q : mQ} {ls st : List Value} {g : mG} {a : Nat} : WP m_X5_standingWith Q 6 ls (.ref a :: st) g = ((10 ≤ gK g a ∧ gK g a ≤ 17) ∧ WP m_X5_standingWith Q 7 ls (.int (nI (gN g a)) :: st) g) := E_alen lo_X5_standingWith rfl
theorem e_X5_standingWith_7 {Q : mQ} {l0 l1 l2 l3 l4 l5 : Value} {st : List Value} {g : mG} {x : Int32} : WP m_X5_standingWith Q 7 [l0, l1, l2, l3, l4, l5] (.int x :: st) g = (nl1 l2 ∧ WP m_X5_standingWith Q 8 [l0, l1, l2, .int x, l4, l5] st g) := E_is (i := 3) (n := 1) lo_X5_standingWith rfl (Nat.le_of_ble_eq_true rfl)
theorem e_X5_standingWith_8 {Q : mQ} {ls st : List Value} {g : mG} : WP m_X5_standingWith Q 8 ls st g = WP m_X5_standingWith Q 9 ls (.int (nI 0) :: st) g := E_ic (v := nI 0) (n := 1) lo_X5_standingWith rfl
theorem e_X5_standingWith_9 {Q : mQ} {l0 l1 l2 l3 l4 l5 : Value} {st : List Value} {g : mG} {x : Int32} : WP m_X5_standingWith Q 9 [l0, l1, l2, l3, l4, l5] (.int x :: st) g = (nl1 l3 ∧ WP m_X5_standingWith Q 11 [l0, l1, l2, l3, .int x, l5] st g) := E_is (i := 4) (n := 2) lo_X5_standingWith rfl (Nat.le_of_ble_eq_true rfl)
theorem e_X5_standingWith_11 {Q : mQ} {l0 l1 l2 l3 l5 : Value} {st : List Value} {g : mG} {x : Int32} : WP m_X5_standingWith Q 11 [l0, l1, l2, l3, .int x, l5] st g = WP m_X5_standingWith Q 13 [l0, l1, l2, l3, .int x, l5] (.int x :: st) g := E_il (i := 4) (n := 2) lo_X5_standingWith rfl rfl
theorem e_X5_standingWith_13 {Q : mQ} {l0 l1 l2 l4 l5 : Value} {st : List Value} {g : mG} {x : Int32} : WP m_X5_standingWith Q 13 [l0, l1, l2, .int x, l4, l5] st g = WP m_X5_standingWith Q 14 [l0, l1, l2, .int x, l4, l5] (.int x :: st) g := E_il (i := 3) (n := 1) lo_X5_standingWith rfl rfl
theorem e_X5_standingWith_14 {Q : mQ} {ls st : List Value} {g : mG} {x y : Int32} : WP m_X5_standingWith Q 14 ls (.int y :: .int x :: st) g = ((y ≤ x → WP m_X5_standingWith Q 49 ls st g) ∧ (¬ (y ≤ x) → WP m_X5_standingWith Q 17 ls st g)) := E_I2 (c := fun x y => y ≤ x) (t := 49) lo_X5_standingWith rfl
theorem e_X5_standingWith_17 {Q : mQ} {l0 l1 l3 l4 l5 : Value} {st : List Value} {g : mG} {x : Nat} : WP m_X5_standingWith Q 17 [l0, l1, .ref x, l3, l4, l5] st g = WP m_X5_standingWith Q 18 [l0, l1, .ref x, l3, l4, l5] (.ref x :: st) g := E_al (i := 2) (n := 1) lo_X5_standingWith rfl rfl
theorem e_X5_standingWith_17n {Q : mQ} {l0 l1 l3 l4 l5 : Value} {st : List Value} {g : mG} : WP m_X5_standingWith Q 17 [l0, l1, .null, l3, l4, l5] st g = WP m_X5_standingWith Q 18 [l0, l1, .null, l3, l4, l5] (.null :: st) g := E_aln (i := 2) (n := 1) lo_X5_standingWith rfl rfl
theorem e_X5_standingWith_18 {Q : mQ} {l0 l1 l2 l3 l5 : Value} {st : List Value} {g : mG} {x : Int32} : WP m_X5_standingWith Q 18 [l0, l1, l2, l3, .int x, l5] st g = WP m_X5_standingWith Q 20 [l0, l1, l2, l3, .int x, l5] (.int x :: st) g := E_il (i := 4) (n := 2) lo_X5_standingWith rfl rfl
theorem e_X5_standingWith_20 {Q : mQ} {ls st : List Value} {g : mG} {a : Nat} {i : Int32} : WP m_X5_standingWith Q 20 ls (.int i :: .ref a :: st) g = ((gK g a = 15 ∧ vp_in i (gN g a) ∧ gR g a i.toNatClampNeg ≠ 0) ∧ WP m_X5_standingWith Q 21 ls (.ref (gR g a i.toNatClampNeg) :: st) g) := E_aald lo_X5_standingWith rfl
theorem e_X5_standingWith_21 {Q : mQ} {l0 l1 l2 l3 l4 l5 : Value} {st : List Value} {g : mG} {x : Nat} : WP m_X5_standingWith Q 21 [l0, l1, l2, l3, l4, l5] (.ref x :: st) g = (nl1 l4 ∧ WP m_X5_standingWith Q 23 [l0, l1, l2, l3, l4, .ref x] st g) := E_as (i := 5) (n := 2) lo_X5_standingWith rfl (Nat.le_of_ble_eq_true rfl)
theorem e_X5_standingWith_21n {Q : mQ} {l0 l1 l2 l3 l4 l5 : Value} {st : List Value} {g : mG} : WP m_X5_standingWith Q 21 [l0, l1, l2, l3, l4, l5] (.null :: st) g = (nl1 l4 ∧ WP m_X5_standingWith Q 23 [l0, l1, l2, l3, l4, .null] st g) := E_asn (i := 5) (n := 2) lo_X5_standingWith rfl (Nat.le_of_ble_eq_true rfl)
theorem e_X5_standingWith_23 {Q : mQ} {l0 l1 l2 l3 l4 : Value} {st : List Value} {g : mG} {x : Nat} : WP m_X5_standingWith Q 23 [l0, l1, l2, l3, l4, .ref x] st g = WP m_X5_standingWith Q 25 [l0, l1, l2, l3, l4, .ref x] (.ref x :: st) g := E_al (i := 5) (n := 2) lo_X5_standingWith rfl rfl
theorem e_X5_standingWith_23n {Q : mQ} {l0 l1 l2 l3 l4 : Value} {st : List Value} {g : mG} : WP m_X5_standingWith Q 23 [l0, l1, l2, l3, l4, .null] st g = WP m_X5_standingWith Q 25 [l0, l1, l2, l3, l4, .null] (.null :: st) g := E_aln (i := 5) (n := 2) lo_X5_standingWith rfl rfl
theorem e_X5_standingWith_25 {Q : mQ} {ls st : List Value} {g : mG} {a : Nat} : WP m_X5_standingWith Q 25 ls (.ref a :: st) g = (gK g a = 3 ∧ WP m_X5_standingWith Q 28 ls (.int (gI g a 3) :: st) g) := E_gI lo_X5_standingWith rfl
theorem e_X5_standingWith_28 {Q : mQ} {ls st : List Value} {g : mG} {x : Int32} : WP m_X5_standingWith Q 28 ls (.int x :: st) g = ((x ≤ 0 → WP m_X5_standingWith Q 43 ls st g) ∧ (¬ (x ≤ 0) → WP m_X5_standingWith Q 31 ls st g)) := E_I1 (c := fun x => x ≤ 0) (t := 43) lo_X5_standingWith rfl
theorem e_X5_standingWith_31 {Q : mQ} {l0 l1 l2 l3 l4 : Value} {st : List Value} {g : mG} {x : Nat} : WP m_X5_standingWith Q 31 [l0, l1, l2, l3, l4, .ref x] st g = WP m_X5_standingWith Q 33 [l0, l1, l2, l3, l4, .ref x] (.ref x :: st) g := E_al (i := 5) (n := 2) lo_X5_standingWith rfl rfl
theorem e_X5_standingWith_31n {Q : mQ} {l0 l1 l2 l3 l4 : Value} {st : List Value} {g : mG} : WP m_X5_standingWith Q 31 [l0, l1, l2, l3, l4, .null] st g = WP m_X5_standingWith Q 33 [l0, l1, l2, l3, l4, .null] (.null :: st) g := E_aln (i := 5) (n := 2) lo_X5_standingWith rfl rfl
theorem e_X5_standingWith_33 {Q : mQ} {ls st : List Value} {g : mG} {a : Nat} : WP m_X5_standingWith Q 33 ls (.ref a :: st) g = (gK g a = 3 ∧ WP m_X5_standingWith Q 36 ls (.int (gI g a 0) :: st) g) := E_gI lo_X5_standingWith rfl
theorem e_X5_standingWith_36 {Q : mQ} {l0 l2 l3 l4 l5 : Value} {st : List Value} {g : mG} {x : Int32} : WP m_X5_standingWith Q 36 [l0, .int x, l2, l3, l4, l5] st g = WP m_X5_standingWith Q 37 [l0, .int x, l2, l3, l4, l5] (.int x :: st) g := E_il (i := 1) (n := 1) lo_X5_standingWith rfl rfl
theorem e_X5_standingWith_37 {Q : mQ} {ls st : List Value} {g : mG} {x y : Int32} : WP m_X5_standingWith Q 37 ls (.int y :: .int x :: st) g = ((¬ x = y → WP m_X5_standingWith Q 43 ls st g) ∧ (¬ (¬ x = y) → WP m_X5_standingWith Q 40 ls st g)) := E_I2 (c := fun x y => ¬ x = y) (t := 43) lo_X5_standingWith rfl
theorem e_X5_standingWith_40 {Q : mQ} {l0 l1 l2 l3 l4 : Value} {st : List Value} {g : mG} {x : Nat} : WP m_X5_standingWith Q 40 [l0, l1, l2, l3, l4, .ref x] st g = WP m_X5_standingWith Q 42 [l0, l1, l2, l3, l4, .ref x] (.ref x :: st) g := E_al (i := 5) (n := 2) lo_X5_standingWith rfl rfl
theorem e_X5_standingWith_40n {Q : mQ} {l0 l1 l2 l3 l4 : Value} {st : List Value} {g : mG} : WP m_X5_standingWith Q 40 [l0, l1, l2, l3, l4, .null] st g = WP m_X5_standingWith Q 42 [l0, l1, l2, l3, l4, .null] (.null :: st) g := E_aln (i := 5) (n := 2) lo_X5_standingWith rfl rfl
theorem e_X5_standingWith_42 {Q : mQ} {ls : List Value} {g : mG} {v : Nat} : WP m_X5_standingWith Q 42 ls [.ref v] g = Q (some (.ref v)) g := E_aret lo_X5_standingWith rfl
theorem e_X5_standingWith_42n {Q : mQ} {ls : List Value} {g : mG} : WP m_X5_standingWith Q 42 ls [.null] g = Q (some .null) g := E_aretn lo_X5_standingWith rfl
theorem e_X5_standingWith_43 {Q : mQ} {l0 l1 l2 l3 l5 : Value} {st : List Value} {g : mG} {x : Int32} : WP m_X5_standingWith Q 43 [l0, l1, l2, l3, .int x, l5] st g = (nl1 l3 ∧ WP m_X5_standingWith Q 46 [l0, l1, l2, l3, .int (x + nI 1), l5] st g) := E_inc (i := 4) (d := nI 1) lo_X5_standingWith rfl rfl
theorem e_X5_standingWith_46 {Q : mQ} {ls st : List Value} {g : mG} : WP m_X5_standingWith Q 46 ls st g = WP m_X5_standingWith Q 11 ls st g := E_goto lo_X5_standingWith rfl
theorem e_X5_standingWith_49 {Q : mQ} {ls st : List Value} {g : mG} : WP m_X5_standingWith Q 49 ls st g = WP m_X5_standingWith Q 50 ls (.null :: st) g := E_nul lo_X5_standingWith rfl
theorem e_X5_standingWith_50 {Q : mQ} {ls : List Value} {g : mG} {v : Nat} : WP m_X5_standingWith Q 50 ls [.ref v] g = Q (some (.ref v)) g := E_aret lo_X5_standingWith rfl
theorem e_X5_standingWith_50n {Q : mQ} {ls : List Value} {g : mG} : WP m_X5_standingWith Q 50 ls [.null] g = Q (some .null) g := E_aretn lo_X5_standingWith rfl
/-! KilnPermits$Town.giveBack(LKilnPermits$Order;)V -/
def m_X5_giveBack : List (Nat × mT) := [(0, tD (f_al 0 1)),
  (1, tD (f_al 1 1)),
  (2, tD (f_gI 3 2)),
  (5, tC w_X5_kilnAt 6 2),
  (8, tD (f_as 2 1)),
  (9, tD (f_al 2 1)),
  (10, tD (f_ifn 14 false)),
  (13, tR f_ret),
  (14, tD (f_al 2 1)),
  (15, tD (f_dup)),
  (16, tD (f_gI 1 0)),
  (19, tD (f_al 1 1)),
  (20, tC w_X2_heldBack 3 1),
  (23, tD (f_b2 fun x y => x + y)),
  (24, tD (f_pI 1 0)),
  (27, tD (f_al 1 1)),
  (28, tD (f_gR 3 5)),
  (31, tD (f_al 1 1)),
  (32, tD (f_gR 3 5)),
  (35, tD (f_gI 5 2)),
  (38, tD (f_al 2 1)),
  (39, tD (f_gR 1 7)),
  (42, tC w_X4_giveOldest 5 3),
  (45, tD (f_al 1 1)),
  (46, tD (f_ic (nI 0) 1)),
  (47, tD (f_pI 3 3)),
  (50, tR f_ret)]
abbrev w_X5_giveBack : mS := wm m_X5_giveBack 2 1
set_option maxRecDepth 100000 in
theorem lo_X5_giveBack : locs_ok m_X5_giveBack := List.forall_mem_cons.mpr ⟨loc_D mo_al,
  List.forall_mem_cons.mpr ⟨loc_D mo_al,
  List.forall_mem_cons.mpr ⟨loc_D mo_gI,
  List.forall_mem_cons.mpr ⟨loc_C sm_X5_kilnAt.1,
  List.forall_mem_cons.mpr ⟨loc_D mo_as,
  List.forall_mem_cons.mpr ⟨loc_D mo_al,
  List.forall_mem_cons.mpr ⟨loc_D mo_ifn,
  List.forall_mem_cons.mpr ⟨loc_R,
  List.forall_mem_cons.mpr ⟨loc_D mo_al,
  List.forall_mem_cons.mpr ⟨loc_D mo_dup,
  List.forall_mem_cons.mpr ⟨loc_D mo_gI,
  List.forall_mem_cons.mpr ⟨loc_D mo_al,
  List.forall_mem_cons.mpr ⟨loc_C sm_X2_heldBack.1,
  List.forall_mem_cons.mpr ⟨loc_D mo_b2,
  List.forall_mem_cons.mpr ⟨loc_D mo_pI,
  List.forall_mem_cons.mpr ⟨loc_D mo_al,
  List.forall_mem_cons.mpr ⟨loc_D mo_gR,
  List.forall_mem_cons.mpr ⟨loc_D mo_al,
  List.forall_mem_cons.mpr ⟨loc_D mo_gR,
  List.forall_mem_cons.mpr ⟨loc_D mo_gI,
  List.forall_mem_cons.mpr ⟨loc_D mo_al,
  List.forall_mem_cons.mpr ⟨loc_D mo_gR,
  List.forall_mem_cons.mpr ⟨loc_C sm_X4_giveOldest.1,
  List.forall_mem_cons.mpr ⟨loc_D mo_al,
  List.forall_mem_cons.mpr ⟨loc_D mo_ic,
  List.forall_mem_cons.mpr ⟨loc_D mo_pI,
  List.forall_mem_cons.mpr ⟨loc_R,
  fun _ h => absurd h List.not_mem_nil⟩⟩⟩⟩⟩⟩⟩⟩⟩⟩⟩⟩⟩⟩⟩⟩⟩⟩⟩⟩⟩⟩⟩⟩⟩⟩⟩
set_option maxRecDepth 100000 in
theorem sm_X5_giveBack : SM yX5_giveBack cX5_giveBack 3 none 4 w_X5_giveBack := SM_of' RX5 "giveBack" rfl rfl (by decide) (by decide) (by decide) lo_X5_giveBack (List.forall_mem_cons.mpr ⟨STP.r mo_al (q_aload_n dX5_giveBack_0 rfl),
  List.forall_mem_cons.mpr ⟨STP.r mo_al (q_aload_n dX5_giveBack_1 rfl),
  List.forall_mem_cons.mpr ⟨STP.r mo_gI (q_gI ⟨by decide, by decide⟩ (by decide) rfl kf_X5_182 dX5_giveBack_2),
  List.forall_mem_cons.mpr ⟨(snd_CV sm_X5_kilnAt ⟨by decide, by decide⟩ rfl km_X5_128 kt_X5_kilnAt kv_X5_kilnAt rfl ki_X5 kx_X5_kilnAt ⟨by decide, by decide, by decide +kernel⟩ (by decide) (by decide) dX5_giveBack_5).r,
  List.forall_mem_cons.mpr ⟨STP.r mo_as (q_astore_n dX5_giveBack_8 rfl),
  List.forall_mem_cons.mpr ⟨STP.r mo_al (q_aload_n dX5_giveBack_9 rfl),
  List.forall_mem_cons.mpr ⟨STP.r mo_ifn (q_ifnonnull dX5_giveBack_10 (by decide)),
  List.forall_mem_cons.mpr ⟨r_ret dX5_giveBack_13,
  List.forall_mem_cons.mpr ⟨STP.r mo_al (q_aload_n dX5_giveBack_14 rfl),
  List.forall_mem_cons.mpr ⟨STP.r mo_dup (q_dup dX5_giveBack_15),
  List.forall_mem_cons.mpr ⟨STP.r mo_gI (q_gI ⟨by decide, by decide⟩ (by decide) rfl kf_X5_97 dX5_giveBack_16),
  List.forall_mem_cons.mpr ⟨STP.r mo_al (q_aload_n dX5_giveBack_19 rfl),
  List.forall_mem_cons.mpr ⟨(snd_CV sm_X2_heldBack ⟨by decide, by decide⟩ rfl km_X5_185 kt_X2_heldBack kv_X2_heldBack rfl ki_X2 kx_X2_heldBack ⟨by decide, by decide, by decide +kernel⟩ (by decide) (by decide) dX5_giveBack_20).r,
  List.forall_mem_cons.mpr ⟨STP.r mo_b2 (q_iadd dX5_giveBack_23),
  List.forall_mem_cons.mpr ⟨STP.r mo_pI (q_pI ⟨by decide, by decide⟩ (by decide) rfl rfl kf_X5_97 dX5_giveBack_24),
  List.forall_mem_cons.mpr ⟨STP.r mo_al (q_aload_n dX5_giveBack_27 rfl),
  List.forall_mem_cons.mpr ⟨STP.r mo_gR (q_gR ⟨by decide, by decide⟩ (by decide) rfl (by decide) kf_X5_144 dX5_giveBack_28),
  List.forall_mem_cons.mpr ⟨STP.r mo_al (q_aload_n dX5_giveBack_31 rfl),
  List.forall_mem_cons.mpr ⟨STP.r mo_gR (q_gR ⟨by decide, by decide⟩ (by decide) rfl (by decide) kf_X5_144 dX5_giveBack_32),
  List.forall_mem_cons.mpr ⟨STP.r mo_gI (q_gI ⟨by decide, by decide⟩ (by decide) rfl kf_X5_111 dX5_giveBack_35),
  List.forall_mem_cons.mpr ⟨STP.r mo_al (q_aload_n dX5_giveBack_38 rfl),
  List.forall_mem_cons.mpr ⟨STP.r mo_gR (q_gR ⟨by decide, by decide⟩ (by decide) rfl (by decide) kf_X5_87 dX5_giveBack_39),
  List.forall_mem_cons.mpr ⟨(snd_CV sm_X4_giveOldest ⟨by decide, by decide⟩ rfl km_X5_147 kt_X4_giveOldest kv_X4_giveOldest rfl ki_X4 kx_X4_giveOldest ⟨by decide, by decide, by decide +kernel⟩ (by decide) (by decide) dX5_giveBack_42).r,
  List.forall_mem_cons.mpr ⟨STP.r mo_al (q_aload_n dX5_giveBack_45 rfl),
  List.forall_mem_cons.mpr ⟨STP.r mo_ic (q_iconst dX5_giveBack_46 (by decide)),
  List.forall_mem_cons.mpr ⟨STP.r mo_pI (q_pI ⟨by decide, by decide⟩ (by decide) rfl rfl kf_X5_154 dX5_giveBack_47),
  List.forall_mem_cons.mpr ⟨r_ret dX5_giveBack_50,
  fun _ h => absurd h List.not_mem_nil⟩⟩⟩⟩⟩⟩⟩⟩⟩⟩⟩⟩⟩⟩⟩⟩⟩⟩⟩⟩⟩⟩⟩⟩⟩⟩⟩)
theorem e_X5_giveBack_0 {Q : mQ} {l1 l2 : Value} {st : List Value} {g : mG} {x : Nat} : WP m_X5_giveBack Q 0 [.ref x, l1, l2] st g = WP m_X5_giveBack Q 1 [.ref x, l1, l2] (.ref x :: st) g := E_al (i := 0) (n := 1) lo_X5_giveBack rfl rfl
theorem e_X5_giveBack_1 {Q : mQ} {l0 l2 : Value} {st : List Value} {g : mG} {x : Nat} : WP m_X5_giveBack Q 1 [l0, .ref x, l2] st g = WP m_X5_giveBack Q 2 [l0, .ref x, l2] (.ref x :: st) g := E_al (i := 1) (n := 1) lo_X5_giveBack rfl rfl
theorem e_X5_giveBack_1n {Q : mQ} {l0 l2 : Value} {st : List Value} {g : mG} : WP m_X5_giveBack Q 1 [l0, .null, l2] st g = WP m_X5_giveBack Q 2 [l0, .null, l2] (.null :: st) g := E_aln (i := 1) (n := 1) lo_X5_giveBack rfl rfl
theorem e_X5_giveBack_2 {Q : mQ} {ls st : List Value} {g : mG} {a : Nat} : WP m_X5_giveBack Q 2 ls (.ref a :: st) g = (gK g a = 3 ∧ WP m_X5_giveBack Q 5 ls (.int (gI g a 2) :: st) g) := E_gI lo_X5_giveBack rfl
theorem e_X5_giveBack_5 {Q : mQ} {ls st : List Value} {g : mG} {b : Nat} {a0 : Value} : WP m_X5_giveBack Q 5 ls (a0 :: .ref b :: st) g = (st.length ≤ 4 ∧ gK g b = 6 ∧ stbs g ls ∧ stbs g st ∧ w_X5_kilnAt [.ref b, a0] g (fun v g' => WP m_X5_giveBack Q 8 ls (v.toList ++ st) g')) := E_CV (ar := [a0, .ref b]) lo_X5_giveBack rfl rfl rfl (by decide)
theorem e_X5_giveBack_8 {Q : mQ} {l0 l1 l2 : Value} {st : List Value} {g : mG} {x : Nat} : WP m_X5_giveBack Q 8 [l0, l1, l2] (.ref x :: st) g = (nl1 l1 ∧ WP m_X5_giveBack Q 9 [l0, l1, .ref x] st g) := E_as (i := 2) (n := 1) lo_X5_giveBack rfl (Nat.le_of_ble_eq_true rfl)
theorem e_X5_giveBack_8n {Q : mQ} {l0 l1 l2 : Value} {st : List Value} {g : mG} : WP m_X5_giveBack Q 8 [l0, l1, l2] (.null :: st) g = (nl1 l1 ∧ WP m_X5_giveBack Q 9 [l0, l1, .null] st g) := E_asn (i := 2) (n := 1) lo_X5_giveBack rfl (Nat.le_of_ble_eq_true rfl)
theorem e_X5_giveBack_9 {Q : mQ} {l0 l1 : Value} {st : List Value} {g : mG} {x : Nat} : WP m_X5_giveBack Q 9 [l0, l1, .ref x] st g = WP m_X5_giveBack Q 10 [l0, l1, .ref x] (.ref x :: st) g := E_al (i := 2) (n := 1) lo_X5_giveBack rfl rfl
theorem e_X5_giveBack_9n {Q : mQ} {l0 l1 : Value} {st : List Value} {g : mG} : WP m_X5_giveBack Q 9 [l0, l1, .null] st g = WP m_X5_giveBack Q 10 [l0, l1, .null] (.null :: st) g := E_aln (i := 2) (n := 1) lo_X5_giveBack rfl rfl
theorem e_X5_giveBack_10 {Q : mQ} {ls st : List Value} {g : mG} {x : Nat} : WP m_X5_giveBack Q 10 ls (.ref x :: st) g = WP m_X5_giveBack Q 14 ls st g := E_nnr lo_X5_giveBack rfl
theorem e_X5_giveBack_10n {Q : mQ} {ls st : List Value} {g : mG} : WP m_X5_giveBack Q 10 ls (.null :: st) g = WP m_X5_giveBack Q 13 ls st g := E_nnn lo_X5_giveBack rfl
theorem e_X5_giveBack_13 {Q : mQ} {ls : List Value} {g : mG} : WP m_X5_giveBack Q 13 ls [] g = Q none g := E_ret lo_X5_giveBack rfl
theorem e_X5_giveBack_14 {Q : mQ} {l0 l1 : Value} {st : List Value} {g : mG} {x : Nat} : WP m_X5_giveBack Q 14 [l0, l1, .ref x] st g = WP m_X5_giveBack Q 15 [l0, l1, .ref x] (.ref x :: st) g := E_al (i := 2) (n := 1) lo_X5_giveBack rfl rfl
theorem e_X5_giveBack_14n {Q : mQ} {l0 l1 : Value} {st : List Value} {g : mG} : WP m_X5_giveBack Q 14 [l0, l1, .null] st g = WP m_X5_giveBack Q 15 [l0, l1, .null] (.null :: st) g := E_aln (i := 2) (n := 1) lo_X5_giveBack rfl rfl
theorem e_X5_giveBack_15 {Q : mQ} {ls st : List Value} {g : mG} {x : Value} : WP m_X5_giveBack Q 15 ls (x :: st) g = (cat1 x ∧ WP m_X5_giveBack Q 16 ls (x :: x :: st) g) := E_dup lo_X5_giveBack rfl
theorem e_X5_giveBack_16 {Q : mQ} {ls st : List Value} {g : mG} {a : Nat} : WP m_X5_giveBack Q 16 ls (.ref a :: st) g = (gK g a = 1 ∧ WP m_X5_giveBack Q 19 ls (.int (gI g a 0) :: st) g) := E_gI lo_X5_giveBack rfl
theorem e_X5_giveBack_19 {Q : mQ} {l0 l2 : Value} {st : List Value} {g : mG} {x : Nat} : WP m_X5_giveBack Q 19 [l0, .ref x, l2] st g = WP m_X5_giveBack Q 20 [l0, .ref x, l2] (.ref x :: st) g := E_al (i := 1) (n := 1) lo_X5_giveBack rfl rfl
theorem e_X5_giveBack_19n {Q : mQ} {l0 l2 : Value} {st : List Value} {g : mG} : WP m_X5_giveBack Q 19 [l0, .null, l2] st g = WP m_X5_giveBack Q 20 [l0, .null, l2] (.null :: st) g := E_aln (i := 1) (n := 1) lo_X5_giveBack rfl rfl
theorem e_X5_giveBack_20 {Q : mQ} {ls st : List Value} {g : mG} {b : Nat} : WP m_X5_giveBack Q 20 ls (.ref b :: st) g = (st.length ≤ 4 ∧ gK g b = 3 ∧ stbs g ls ∧ stbs g st ∧ w_X2_heldBack [.ref b] g (fun v g' => WP m_X5_giveBack Q 23 ls (v.toList ++ st) g')) := E_CV (ar := [.ref b]) lo_X5_giveBack rfl rfl rfl (by decide)
theorem e_X5_giveBack_23 {Q : mQ} {ls st : List Value} {g : mG} {x y : Int32} : WP m_X5_giveBack Q 23 ls (.int y :: .int x :: st) g = WP m_X5_giveBack Q 24 ls (.int (x + y) :: st) g := E_b2 (f := fun x y => x + y) lo_X5_giveBack rfl
theorem e_X5_giveBack_24 {Q : mQ} {ls st : List Value} {g : mG} {a : Nat} {v : Int32} : WP m_X5_giveBack Q 24 ls (.int v :: .ref a :: st) g = (gK g a = 1 ∧ WP m_X5_giveBack Q 27 ls st (pI g a 0 v)) := E_pI lo_X5_giveBack rfl
theorem e_X5_giveBack_27 {Q : mQ} {l0 l2 : Value} {st : List Value} {g : mG} {x : Nat} : WP m_X5_giveBack Q 27 [l0, .ref x, l2] st g = WP m_X5_giveBack Q 28 [l0, .ref x, l2] (.ref x :: st) g := E_al (i := 1) (n := 1) lo_X5_giveBack rfl rfl
theorem e_X5_giveBack_27n {Q : mQ} {l0 l2 : Value} {st : List Value} {g : mG} : WP m_X5_giveBack Q 27 [l0, .null, l2] st g = WP m_X5_giveBack Q 28 [l0, .null, l2] (.null :: st) g := E_aln (i := 1) (n := 1) lo_X5_giveBack rfl rfl
theorem e_X5_giveBack_28 {Q : mQ} {ls st : List Value} {g : mG} {a : Nat} : WP m_X5_giveBack Q 28 ls (.ref a :: st) g = ((gK g a = 3 ∧ gR g a 5 ≠ 0) ∧ WP m_X5_giveBack Q 31 ls (.ref (gR g a 5) :: st) g) := E_gR lo_X5_giveBack rfl
theorem e_X5_giveBack_31 {Q : mQ} {l0 l2 : Value} {st : List Value} {g : mG} {x : Nat} : WP m_X5_giveBack Q 31 [l0, .ref x, l2] st g = WP m_X5_giveBack Q 32 [l0, .ref x, l2] (.ref x :: st) g := E_al (i := 1) (n := 1) lo_X5_giveBack rfl rfl
theorem e_X5_giveBack_31n {Q : mQ} {l0 l2 : Value} {st : List Value} {g : mG} : WP m_X5_giveBack Q 31 [l0, .null, l2] st g = WP m_X5_giveBack Q 32 [l0, .null, l2] (.null :: st) g := E_aln (i := 1) (n := 1) lo_X5_giveBack rfl rfl
theorem e_X5_giveBack_32 {Q : mQ} {ls st : List Value} {g : mG} {a : Nat} : WP m_X5_giveBack Q 32 ls (.ref a :: st) g = ((gK g a = 3 ∧ gR g a 5 ≠ 0) ∧ WP m_X5_giveBack Q 35 ls (.ref (gR g a 5) :: st) g) := E_gR lo_X5_giveBack rfl
theorem e_X5_giveBack_35 {Q : mQ} {ls st : List Value} {g : mG} {a : Nat} : WP m_X5_giveBack Q 35 ls (.ref a :: st) g = (gK g a = 5 ∧ WP m_X5_giveBack Q 38 ls (.int (gI g a 2) :: st) g) := E_gI lo_X5_giveBack rfl
theorem e_X5_giveBack_38 {Q : mQ} {l0 l1 : Value} {st : List Value} {g : mG} {x : Nat} : WP m_X5_giveBack Q 38 [l0, l1, .ref x] st g = WP m_X5_giveBack Q 39 [l0, l1, .ref x] (.ref x :: st) g := E_al (i := 2) (n := 1) lo_X5_giveBack rfl rfl
theorem e_X5_giveBack_38n {Q : mQ} {l0 l1 : Value} {st : List Value} {g : mG} : WP m_X5_giveBack Q 38 [l0, l1, .null] st g = WP m_X5_giveBack Q 39 [l0, l1, .null] (.null :: st) g := E_aln (i := 2) (n := 1) lo_X5_giveBack rfl rfl
theorem e_X5_giveBack_39 {Q : mQ} {ls st : List Value} {g : mG} {a : Nat} : WP m_X5_giveBack Q 39 ls (.ref a :: st) g = ((gK g a = 1 ∧ gR g a 7 ≠ 0) ∧ WP m_X5_giveBack Q 42 ls (.ref (gR g a 7) :: st) g) := E_gR lo_X5_giveBack rfl
theorem e_X5_giveBack_42 {Q : mQ} {ls st : List Value} {g : mG} {b : Nat} {a0 a1 : Value} : WP m_X5_giveBack Q 42 ls (a1 :: a0 :: .ref b :: st) g = (st.length ≤ 4 ∧ gK g b = 5 ∧ stbs g ls ∧ stbs g st ∧ w_X4_giveOldest [.ref b, a0, a1] g (fun v g' => WP m_X5_giveBack Q 45 ls (v.toList ++ st) g')) := E_CV (ar := [a1, a0, .ref b]) lo_X5_giveBack rfl rfl rfl (by decide)
theorem e_X5_giveBack_45 {Q : mQ} {l0 l2 : Value} {st : List Value} {g : mG} {x : Nat} : WP m_X5_giveBack Q 45 [l0, .ref x, l2] st g = WP m_X5_giveBack Q 46 [l0, .ref x, l2] (.ref x :: st) g := E_al (i := 1) (n := 1) lo_X5_giveBack rfl rfl
theorem e_X5_giveBack_45n {Q : mQ} {l0 l2 : Value} {st : List Value} {g : mG} : WP m_X5_giveBack Q 45 [l0, .null, l2] st g = WP m_X5_giveBack Q 46 [l0, .null, l2] (.null :: st) g := E_aln (i := 1) (n := 1) lo_X5_giveBack rfl rfl
theorem e_X5_giveBack_46 {Q : mQ} {ls st : List Value} {g : mG} : WP m_X5_giveBack Q 46 ls st g = WP m_X5_giveBack Q 47 ls (.int (nI 0) :: st) g := E_ic (v := nI 0) (n := 1) lo_X5_giveBack rfl
theorem e_X5_giveBack_47 {Q : mQ} {ls st : List Value} {g : mG} {a : Nat} {v : Int32} : WP m_X5_giveBack Q 47 ls (.int v :: .ref a :: st) g = (gK g a = 3 ∧ WP m_X5_giveBack Q 50 ls st (pI g a 3 v)) := E_pI lo_X5_giveBack rfl
theorem e_X5_giveBack_50 {Q : mQ} {ls : List Value} {g : mG} : WP m_X5_giveBack Q 50 ls [] g = Q none g := E_ret lo_X5_giveBack rfl
/-! KilnPermits$Town.heldBackBy(I)I -/
def m_X5_heldBackBy : List (Nat × mT) := [(0, tD (f_ic (nI 0) 1)),
  (1, tD (f_is 2 1)),
  (2, tD (f_al 0 1)),
  (3, tD (f_gR 6 13)),
  (6, tD (f_as 3 1)),
  (7, tD (f_al 3 1)),
  (8, tD (f_alen)),
  (9, tD (f_is 4 2)),
  (11, tD (f_ic (nI 0) 1)),
  (12, tD (f_is 5 2)),
  (14, tD (f_il 5 2)),
  (16, tD (f_il 4 2)),
  (18, tI2 (fun x y => y ≤ x) 50),
  (21, tD (f_al 3 1)),
  (22, tD (f_il 5 2)),
  (24, tD (f_aald 15)),
  (25, tD (f_as 6 2)),
  (27, tD (f_al 6 2)),
  (29, tD (f_gI 3 2)),
  (32, tD (f_il 1 1)),
  (33, tI2 (fun x y => ¬ x = y) 44),
  (36, tD (f_il 2 1)),
  (37, tD (f_al 6 2)),
  (39, tC w_X2_heldBack 3 1),
  (42, tD (f_b2 fun x y => x + y)),
  (43, tD (f_is 2 1)),
  (44, tD (f_inc 5 (nI 1))),
  (47, tD (f_goto 14)),
  (50, tD (f_il 2 1)),
  (51, tR f_iret)]
abbrev w_X5_heldBackBy : mS := wm m_X5_heldBackBy 2 5
set_option maxRecDepth 100000 in
theorem lo_X5_heldBackBy : locs_ok m_X5_heldBackBy := List.forall_mem_cons.mpr ⟨loc_D mo_ic,
  List.forall_mem_cons.mpr ⟨loc_D mo_is,
  List.forall_mem_cons.mpr ⟨loc_D mo_al,
  List.forall_mem_cons.mpr ⟨loc_D mo_gR,
  List.forall_mem_cons.mpr ⟨loc_D mo_as,
  List.forall_mem_cons.mpr ⟨loc_D mo_al,
  List.forall_mem_cons.mpr ⟨loc_D mo_alen,
  List.forall_mem_cons.mpr ⟨loc_D mo_is,
  List.forall_mem_cons.mpr ⟨loc_D mo_ic,
  List.forall_mem_cons.mpr ⟨loc_D mo_is,
  List.forall_mem_cons.mpr ⟨loc_D mo_il,
  List.forall_mem_cons.mpr ⟨loc_D mo_il,
  List.forall_mem_cons.mpr ⟨loc_I2,
  List.forall_mem_cons.mpr ⟨loc_D mo_al,
  List.forall_mem_cons.mpr ⟨loc_D mo_il,
  List.forall_mem_cons.mpr ⟨loc_D mo_aald,
  List.forall_mem_cons.mpr ⟨loc_D mo_as,
  List.forall_mem_cons.mpr ⟨loc_D mo_al,
  List.forall_mem_cons.mpr ⟨loc_D mo_gI,
  List.forall_mem_cons.mpr ⟨loc_D mo_il,
  List.forall_mem_cons.mpr ⟨loc_I2,
  List.forall_mem_cons.mpr ⟨loc_D mo_il,
  List.forall_mem_cons.mpr ⟨loc_D mo_al,
  List.forall_mem_cons.mpr ⟨loc_C sm_X2_heldBack.1,
  List.forall_mem_cons.mpr ⟨loc_D mo_b2,
  List.forall_mem_cons.mpr ⟨loc_D mo_is,
  List.forall_mem_cons.mpr ⟨loc_D mo_inc,
  List.forall_mem_cons.mpr ⟨loc_D mo_goto,
  List.forall_mem_cons.mpr ⟨loc_D mo_il,
  List.forall_mem_cons.mpr ⟨loc_R,
  fun _ h => absurd h List.not_mem_nil⟩⟩⟩⟩⟩⟩⟩⟩⟩⟩⟩⟩⟩⟩⟩⟩⟩⟩⟩⟩⟩⟩⟩⟩⟩⟩⟩⟩⟩⟩
set_option maxRecDepth 100000 in
theorem sm_X5_heldBackBy : SM yX5_heldBackBy cX5_heldBackBy 7 (some .int) 2 w_X5_heldBackBy := SM_of' RX5 "heldBackBy" rfl rfl (by decide) (by decide) (by decide) lo_X5_heldBackBy (List.forall_mem_cons.mpr ⟨STP.r mo_ic (q_iconst dX5_heldBackBy_0 (by decide)),
  List.forall_mem_cons.mpr ⟨STP.r mo_is (q_istore_n dX5_heldBackBy_1 rfl),
  List.forall_mem_cons.mpr ⟨STP.r mo_al (q_aload_n dX5_heldBackBy_2 rfl),
  List.forall_mem_cons.mpr ⟨STP.r mo_gR (q_gR ⟨by decide, by decide⟩ (by decide) rfl (by decide) kf_X5_35 dX5_heldBackBy_3),
  List.forall_mem_cons.mpr ⟨STP.r mo_as (q_astore_n dX5_heldBackBy_6 rfl),
  List.forall_mem_cons.mpr ⟨STP.r mo_al (q_aload_n dX5_heldBackBy_7 rfl),
  List.forall_mem_cons.mpr ⟨STP.r mo_alen (q_alen dX5_heldBackBy_8),
  List.forall_mem_cons.mpr ⟨STP.r mo_is (q_istore dX5_heldBackBy_9),
  List.forall_mem_cons.mpr ⟨STP.r mo_ic (q_iconst dX5_heldBackBy_11 (by decide)),
  List.forall_mem_cons.mpr ⟨STP.r mo_is (q_istore dX5_heldBackBy_12),
  List.forall_mem_cons.mpr ⟨STP.r mo_il (q_iload dX5_heldBackBy_14),
  List.forall_mem_cons.mpr ⟨STP.r mo_il (q_iload dX5_heldBackBy_16),
  List.forall_mem_cons.mpr ⟨(q_ic_ge dX5_heldBackBy_18 (by decide)).r,
  List.forall_mem_cons.mpr ⟨STP.r mo_al (q_aload_n dX5_heldBackBy_21 rfl),
  List.forall_mem_cons.mpr ⟨STP.r mo_il (q_iload dX5_heldBackBy_22),
  List.forall_mem_cons.mpr ⟨STP.r mo_aald (q_aald ⟨by decide, by decide⟩ dX5_heldBackBy_24),
  List.forall_mem_cons.mpr ⟨STP.r mo_as (q_astore dX5_heldBackBy_25),
  List.forall_mem_cons.mpr ⟨STP.r mo_al (q_aload dX5_heldBackBy_27),
  List.forall_mem_cons.mpr ⟨STP.r mo_gI (q_gI ⟨by decide, by decide⟩ (by decide) rfl kf_X5_182 dX5_heldBackBy_29),
  List.forall_mem_cons.mpr ⟨STP.r mo_il (q_iload_n dX5_heldBackBy_32 rfl),
  List.forall_mem_cons.mpr ⟨(q_ic_ne dX5_heldBackBy_33 (by decide)).r,
  List.forall_mem_cons.mpr ⟨STP.r mo_il (q_iload_n dX5_heldBackBy_36 rfl),
  List.forall_mem_cons.mpr ⟨STP.r mo_al (q_aload dX5_heldBackBy_37),
  List.forall_mem_cons.mpr ⟨(snd_CV sm_X2_heldBack ⟨by decide, by decide⟩ rfl km_X5_185 kt_X2_heldBack kv_X2_heldBack rfl ki_X2 kx_X2_heldBack ⟨by decide, by decide, by decide +kernel⟩ (by decide) (by decide) dX5_heldBackBy_39).r,
  List.forall_mem_cons.mpr ⟨STP.r mo_b2 (q_iadd dX5_heldBackBy_42),
  List.forall_mem_cons.mpr ⟨STP.r mo_is (q_istore_n dX5_heldBackBy_43 rfl),
  List.forall_mem_cons.mpr ⟨STP.r mo_inc (q_inc dX5_heldBackBy_44 (by decide)),
  List.forall_mem_cons.mpr ⟨STP.r mo_goto (q_goto dX5_heldBackBy_47 (by decide)),
  List.forall_mem_cons.mpr ⟨STP.r mo_il (q_iload_n dX5_heldBackBy_50 rfl),
  List.forall_mem_cons.mpr ⟨r_iret dX5_heldBackBy_51,
  fun _ h => absurd h List.not_mem_nil⟩⟩⟩⟩⟩⟩⟩⟩⟩⟩⟩⟩⟩⟩⟩⟩⟩⟩⟩⟩⟩⟩⟩⟩⟩⟩⟩⟩⟩⟩)
theorem e_X5_heldBackBy_0 {Q : mQ} {ls st : List Value} {g : mG} : WP m_X5_heldBackBy Q 0 ls st g = WP m_X5_heldBackBy Q 1 ls (.int (nI 0) :: st) g := E_ic (v := nI 0) (n := 1) lo_X5_heldBackBy rfl
theorem e_X5_heldBackBy_1 {Q : mQ} {l0 l1 l2 l3 l4 l5 l6 : Value} {st : List Value} {g : mG} {x : Int32} : WP m_X5_heldBackBy Q 1 [l0, l1, l2, l3, l4, l5, l6] (.int x :: st) g = (nl1 l1 ∧ WP m_X5_heldBackBy Q 2 [l0, l1, .int x, l3, l4, l5, l6] st g) := E_is (i := 2) (n := 1) lo_X5_heldBackBy rfl (Nat.le_of_ble_eq_true rfl)
theorem e_X5_heldBackBy_2 {Q : mQ} {l1 l2 l3 l4 l5 l6 : Value} {st : List Value} {g : mG} {x : Nat} : WP m_X5_heldBackBy Q 2 [.ref x, l1, l2, l3, l4, l5, l6] st g = WP m_X5_heldBackBy Q 3 [.ref x, l1, l2, l3, l4, l5, l6] (.ref x :: st) g := E_al (i := 0) (n := 1) lo_X5_heldBackBy rfl rfl
theorem e_X5_heldBackBy_3 {Q : mQ} {ls st : List Value} {g : mG} {a : Nat} : WP m_X5_heldBackBy Q 3 ls (.ref a :: st) g = ((gK g a = 6 ∧ gR g a 13 ≠ 0) ∧ WP m_X5_heldBackBy Q 6 ls (.ref (gR g a 13) :: st) g) := E_gR lo_X5_heldBackBy rfl
theorem e_X5_heldBackBy_6 {Q : mQ} {l0 l1 l2 l3 l4 l5 l6 : Value} {st : List Value} {g : mG} {x : Nat} : WP m_X5_heldBackBy Q 6 [l0, l1, l2, l3, l4, l5, l6] (.ref x :: st) g = (nl1 l2 ∧ WP m_X5_heldBackBy Q 7 [l0, l1, l2, .ref x, l4, l5, l6] st g) := E_as (i := 3) (n := 1) lo_X5_heldBackBy rfl (Nat.le_of_ble_eq_true rfl)
theorem e_X5_heldBackBy_6n {Q : mQ} {l0 l1 l2 l3 l4 l5 l6 : Value} {st : List Value} {g : mG} : WP m_X5_heldBackBy Q 6 [l0, l1, l2, l3, l4, l5, l6] (.null :: st) g = (nl1 l2 ∧ WP m_X5_heldBackBy Q 7 [l0, l1, l2, .null, l4, l5, l6] st g) := E_asn (i := 3) (n := 1) lo_X5_heldBackBy rfl (Nat.le_of_ble_eq_true rfl)
theorem e_X5_heldBackBy_7 {Q : mQ} {l0 l1 l2 l4 l5 l6 : Value} {st : List Value} {g : mG} {x : Nat} : WP m_X5_heldBackBy Q 7 [l0, l1, l2, .ref x, l4, l5, l6] st g = WP m_X5_heldBackBy Q 8 [l0, l1, l2, .ref x, l4, l5, l6] (.ref x :: st) g := E_al (i := 3) (n := 1) lo_X5_heldBackBy rfl rfl
theorem e_X5_heldBackBy_7n {Q : mQ} {l0 l1 l2 l4 l5 l6 : Value} {st : List Value} {g : mG} : WP m_X5_heldBackBy Q 7 [l0, l1, l2, .null, l4, l5, l6] st g = WP m_X5_heldBackBy Q 8 [l0, l1, l2, .null, l4, l5, l6] (.null :: st) g := E_aln (i := 3) (n := 1) lo_X5_heldBackBy rfl rfl
theorem e_X5_heldBackBy_8 {Q : mQ} {ls st : List Value} {g : mG} {a : Nat} : WP m_X5_heldBackBy Q 8 ls (.ref a :: st) g = ((10 ≤ gK g a ∧ gK g a ≤ 17) ∧ WP m_X5_heldBackBy Q 9 ls (.int (nI (gN g a)) :: st) g) := E_alen lo_X5_heldBackBy rfl
theorem e_X5_heldBackBy_9 {Q : mQ} {l0 l1 l2 l3 l4 l5 l6 : Value} {st : List Value} {g : mG} {x : Int32} : WP m_X5_heldBackBy Q 9 [l0, l1, l2, l3, l4, l5, l6] (.int x :: st) g = (nl1 l3 ∧ WP m_X5_heldBackBy Q 11 [l0, l1, l2, l3, .int x, l5, l6] st g) := E_is (i := 4) (n := 2) lo_X5_heldBackBy rfl (Nat.le_of_ble_eq_true rfl)
theorem e_X5_heldBackBy_11 {Q : mQ} {ls st : List Value} {g : mG} : WP m_X5_heldBackBy Q 11 ls st g = WP m_X5_heldBackBy Q 12 ls (.int (nI 0) :: st) g := E_ic (v := nI 0) (n := 1) lo_X5_heldBackBy rfl
theorem e_X5_heldBackBy_12 {Q : mQ} {l0 l1 l2 l3 l4 l5 l6 : Value} {st : List Value} {g : mG} {x : Int32} : WP m_X5_heldBackBy Q 12 [l0, l1, l2, l3, l4, l5, l6] (.int x :: st) g = (nl1 l4 ∧ WP m_X5_heldBackBy Q 14 [l0, l1, l2, l3, l4, .int x, l6] st g) := E_is (i := 5) (n := 2) lo_X5_heldBackBy rfl (Nat.le_of_ble_eq_true rfl)
theorem e_X5_heldBackBy_14 {Q : mQ} {l0 l1 l2 l3 l4 l6 : Value} {st : List Value} {g : mG} {x : Int32} : WP m_X5_heldBackBy Q 14 [l0, l1, l2, l3, l4, .int x, l6] st g = WP m_X5_heldBackBy Q 16 [l0, l1, l2, l3, l4, .int x, l6] (.int x :: st) g := E_il (i := 5) (n := 2) lo_X5_heldBackBy rfl rfl
theorem e_X5_heldBackBy_16 {Q : mQ} {l0 l1 l2 l3 l5 l6 : Value} {st : List Value} {g : mG} {x : Int32} : WP m_X5_heldBackBy Q 16 [l0, l1, l2, l3, .int x, l5, l6] st g = WP m_X5_heldBackBy Q 18 [l0, l1, l2, l3, .int x, l5, l6] (.int x :: st) g := E_il (i := 4) (n := 2) lo_X5_heldBackBy rfl rfl
theorem e_X5_heldBackBy_18 {Q : mQ} {ls st : List Value} {g : mG} {x y : Int32} : WP m_X5_heldBackBy Q 18 ls (.int y :: .int x :: st) g = ((y ≤ x → WP m_X5_heldBackBy Q 50 ls st g) ∧ (¬ (y ≤ x) → WP m_X5_heldBackBy Q 21 ls st g)) := E_I2 (c := fun x y => y ≤ x) (t := 50) lo_X5_heldBackBy rfl
theorem e_X5_heldBackBy_21 {Q : mQ} {l0 l1 l2 l4 l5 l6 : Value} {st : List Value} {g : mG} {x : Nat} : WP m_X5_heldBackBy Q 21 [l0, l1, l2, .ref x, l4, l5, l6] st g = WP m_X5_heldBackBy Q 22 [l0, l1, l2, .ref x, l4, l5, l6] (.ref x :: st) g := E_al (i := 3) (n := 1) lo_X5_heldBackBy rfl rfl
theorem e_X5_heldBackBy_21n {Q : mQ} {l0 l1 l2 l4 l5 l6 : Value} {st : List Value} {g : mG} : WP m_X5_heldBackBy Q 21 [l0, l1, l2, .null, l4, l5, l6] st g = WP m_X5_heldBackBy Q 22 [l0, l1, l2, .null, l4, l5, l6] (.null :: st) g := E_aln (i := 3) (n := 1) lo_X5_heldBackBy rfl rfl
theorem e_X5_heldBackBy_22 {Q : mQ} {l0 l1 l2 l3 l4 l6 : Value} {st : List Value} {g : mG} {x : Int32} : WP m_X5_heldBackBy Q 22 [l0, l1, l2, l3, l4, .int x, l6] st g = WP m_X5_heldBackBy Q 24 [l0, l1, l2, l3, l4, .int x, l6] (.int x :: st) g := E_il (i := 5) (n := 2) lo_X5_heldBackBy rfl rfl
theorem e_X5_heldBackBy_24 {Q : mQ} {ls st : List Value} {g : mG} {a : Nat} {i : Int32} : WP m_X5_heldBackBy Q 24 ls (.int i :: .ref a :: st) g = ((gK g a = 15 ∧ vp_in i (gN g a) ∧ gR g a i.toNatClampNeg ≠ 0) ∧ WP m_X5_heldBackBy Q 25 ls (.ref (gR g a i.toNatClampNeg) :: st) g) := E_aald lo_X5_heldBackBy rfl
theorem e_X5_heldBackBy_25 {Q : mQ} {l0 l1 l2 l3 l4 l5 l6 : Value} {st : List Value} {g : mG} {x : Nat} : WP m_X5_heldBackBy Q 25 [l0, l1, l2, l3, l4, l5, l6] (.ref x :: st) g = (nl1 l5 ∧ WP m_X5_heldBackBy Q 27 [l0, l1, l2, l3, l4, l5, .ref x] st g) := E_as (i := 6) (n := 2) lo_X5_heldBackBy rfl (Nat.le_of_ble_eq_true rfl)
theorem e_X5_heldBackBy_25n {Q : mQ} {l0 l1 l2 l3 l4 l5 l6 : Value} {st : List Value} {g : mG} : WP m_X5_heldBackBy Q 25 [l0, l1, l2, l3, l4, l5, l6] (.null :: st) g = (nl1 l5 ∧ WP m_X5_heldBackBy Q 27 [l0, l1, l2, l3, l4, l5, .null] st g) := E_asn (i := 6) (n := 2) lo_X5_heldBackBy rfl (Nat.le_of_ble_eq_true rfl)
theorem e_X5_heldBackBy_27 {Q : mQ} {l0 l1 l2 l3 l4 l5 : Value} {st : List Value} {g : mG} {x : Nat} : WP m_X5_heldBackBy Q 27 [l0, l1, l2, l3, l4, l5, .ref x] st g = WP m_X5_heldBackBy Q 29 [l0, l1, l2, l3, l4, l5, .ref x] (.ref x :: st) g := E_al (i := 6) (n := 2) lo_X5_heldBackBy rfl rfl
theorem e_X5_heldBackBy_27n {Q : mQ} {l0 l1 l2 l3 l4 l5 : Value} {st : List Value} {g : mG} : WP m_X5_heldBackBy Q 27 [l0, l1, l2, l3, l4, l5, .null] st g = WP m_X5_heldBackBy Q 29 [l0, l1, l2, l3, l4, l5, .null] (.null :: st) g := E_aln (i := 6) (n := 2) lo_X5_heldBackBy rfl rfl
theorem e_X5_heldBackBy_29 {Q : mQ} {ls st : List Value} {g : mG} {a : Nat} : WP m_X5_heldBackBy Q 29 ls (.ref a :: st) g = (gK g a = 3 ∧ WP m_X5_heldBackBy Q 32 ls (.int (gI g a 2) :: st) g) := E_gI lo_X5_heldBackBy rfl
theorem e_X5_heldBackBy_32 {Q : mQ} {l0 l2 l3 l4 l5 l6 : Value} {st : List Value} {g : mG} {x : Int32} : WP m_X5_heldBackBy Q 32 [l0, .int x, l2, l3, l4, l5, l6] st g = WP m_X5_heldBackBy Q 33 [l0, .int x, l2, l3, l4, l5, l6] (.int x :: st) g := E_il (i := 1) (n := 1) lo_X5_heldBackBy rfl rfl
theorem e_X5_heldBackBy_33 {Q : mQ} {ls st : List Value} {g : mG} {x y : Int32} : WP m_X5_heldBackBy Q 33 ls (.int y :: .int x :: st) g = ((¬ x = y → WP m_X5_heldBackBy Q 44 ls st g) ∧ (¬ (¬ x = y) → WP m_X5_heldBackBy Q 36 ls st g)) := E_I2 (c := fun x y => ¬ x = y) (t := 44) lo_X5_heldBackBy rfl
theorem e_X5_heldBackBy_36 {Q : mQ} {l0 l1 l3 l4 l5 l6 : Value} {st : List Value} {g : mG} {x : Int32} : WP m_X5_heldBackBy Q 36 [l0, l1, .int x, l3, l4, l5, l6] st g = WP m_X5_heldBackBy Q 37 [l0, l1, .int x, l3, l4, l5, l6] (.int x :: st) g := E_il (i := 2) (n := 1) lo_X5_heldBackBy rfl rfl
theorem e_X5_heldBackBy_37 {Q : mQ} {l0 l1 l2 l3 l4 l5 : Value} {st : List Value} {g : mG} {x : Nat} : WP m_X5_heldBackBy Q 37 [l0, l1, l2, l3, l4, l5, .ref x] st g = WP m_X5_heldBackBy Q 39 [l0, l1, l2, l3, l4, l5, .ref x] (.ref x :: st) g := E_al (i := 6) (n := 2) lo_X5_heldBackBy rfl rfl
theorem e_X5_heldBackBy_37n {Q : mQ} {l0 l1 l2 l3 l4 l5 : Value} {st : List Value} {g : mG} : WP m_X5_heldBackBy Q 37 [l0, l1, l2, l3, l4, l5, .null] st g = WP m_X5_heldBackBy Q 39 [l0, l1, l2, l3, l4, l5, .null] (.null :: st) g := E_aln (i := 6) (n := 2) lo_X5_heldBackBy rfl rfl
theorem e_X5_heldBackBy_39 {Q : mQ} {ls st : List Value} {g : mG} {b : Nat} : WP m_X5_heldBackBy Q 39 ls (.ref b :: st) g = (st.length ≤ 4 ∧ gK g b = 3 ∧ stbs g ls ∧ stbs g st ∧ w_X2_heldBack [.ref b] g (fun v g' => WP m_X5_heldBackBy Q 42 ls (v.toList ++ st) g')) := E_CV (ar := [.ref b]) lo_X5_heldBackBy rfl rfl rfl (by decide)
theorem e_X5_heldBackBy_42 {Q : mQ} {ls st : List Value} {g : mG} {x y : Int32} : WP m_X5_heldBackBy Q 42 ls (.int y :: .int x :: st) g = WP m_X5_heldBackBy Q 43 ls (.int (x + y) :: st) g := E_b2 (f := fun x y => x + y) lo_X5_heldBackBy rfl
theorem e_X5_heldBackBy_43 {Q : mQ} {l0 l1 l2 l3 l4 l5 l6 : Value} {st : List Value} {g : mG} {x : Int32} : WP m_X5_heldBackBy Q 43 [l0, l1, l2, l3, l4, l5, l6] (.int x :: st) g = (nl1 l1 ∧ WP m_X5_heldBackBy Q 44 [l0, l1, .int x, l3, l4, l5, l6] st g) := E_is (i := 2) (n := 1) lo_X5_heldBackBy rfl (Nat.le_of_ble_eq_true rfl)
theorem e_X5_heldBackBy_44 {Q : mQ} {l0 l1 l2 l3 l4 l6 : Value} {st : List Value} {g : mG} {x : Int32} : WP m_X5_heldBackBy Q 44 [l0, l1, l2, l3, l4, .int x, l6] st g = (nl1 l4 ∧ WP m_X5_heldBackBy Q 47 [l0, l1, l2, l3, l4, .int (x + nI 1), l6] st g) := E_inc (i := 5) (d := nI 1) lo_X5_heldBackBy rfl rfl
theorem e_X5_heldBackBy_47 {Q : mQ} {ls st : List Value} {g : mG} : WP m_X5_heldBackBy Q 47 ls st g = WP m_X5_heldBackBy Q 14 ls st g := E_goto lo_X5_heldBackBy rfl
theorem e_X5_heldBackBy_50 {Q : mQ} {l0 l1 l3 l4 l5 l6 : Value} {st : List Value} {g : mG} {x : Int32} : WP m_X5_heldBackBy Q 50 [l0, l1, .int x, l3, l4, l5, l6] st g = WP m_X5_heldBackBy Q 51 [l0, l1, .int x, l3, l4, l5, l6] (.int x :: st) g := E_il (i := 2) (n := 1) lo_X5_heldBackBy rfl rfl
theorem e_X5_heldBackBy_51 {Q : mQ} {ls : List Value} {g : mG} {v : Int32} : WP m_X5_heldBackBy Q 51 ls [.int v] g = Q (some (.int v)) g := E_iret lo_X5_heldBackBy rfl
/-! KilnPermits$Town.allCoins()I -/
def m_X5_allCoins : List (Nat × mT) := [(0, tD (f_ic (nI 0) 1)),
  (1, tD (f_is 1 1)),
  (2, tD (f_ic (nI 0) 1)),
  (3, tD (f_is 2 1)),
  (4, tD (f_il 2 1)),
  (5, tD (f_al 0 1)),
  (6, tD (f_gR 6 12)),
  (9, tD (f_alen)),
  (10, tI2 (fun x y => y ≤ x) 37),
  (13, tD (f_il 1 1)),
  (14, tD (f_al 0 1)),
  (15, tD (f_gR 6 12)),
  (18, tD (f_il 2 1)),
  (19, tD (f_aald 14)),
  (20, tD (f_gI 1 0)),
  (23, tD (f_al 0 1)),
  (24, tD (f_il 2 1)),
  (25, tC w_X5_heldBackBy 6 2),
  (28, tD (f_b2 fun x y => x + y)),
  (29, tD (f_b2 fun x y => x + y)),
  (30, tD (f_is 1 1)),
  (31, tD (f_inc 2 (nI 1))),
  (34, tD (f_goto 4)),
  (37, tD (f_il 1 1)),
  (38, tR f_iret)]
abbrev w_X5_allCoins : mS := wm m_X5_allCoins 1 2
set_option maxRecDepth 100000 in
theorem lo_X5_allCoins : locs_ok m_X5_allCoins := List.forall_mem_cons.mpr ⟨loc_D mo_ic,
  List.forall_mem_cons.mpr ⟨loc_D mo_is,
  List.forall_mem_cons.mpr ⟨loc_D mo_ic,
  List.forall_mem_cons.mpr ⟨loc_D mo_is,
  List.forall_mem_cons.mpr ⟨loc_D mo_il,
  List.forall_mem_cons.mpr ⟨loc_D mo_al,
  List.forall_mem_cons.mpr ⟨loc_D mo_gR,
  List.forall_mem_cons.mpr ⟨loc_D mo_alen,
  List.forall_mem_cons.mpr ⟨loc_I2,
  List.forall_mem_cons.mpr ⟨loc_D mo_il,
  List.forall_mem_cons.mpr ⟨loc_D mo_al,
  List.forall_mem_cons.mpr ⟨loc_D mo_gR,
  List.forall_mem_cons.mpr ⟨loc_D mo_il,
  List.forall_mem_cons.mpr ⟨loc_D mo_aald,
  List.forall_mem_cons.mpr ⟨loc_D mo_gI,
  List.forall_mem_cons.mpr ⟨loc_D mo_al,
  List.forall_mem_cons.mpr ⟨loc_D mo_il,
  List.forall_mem_cons.mpr ⟨loc_C sm_X5_heldBackBy.1,
  List.forall_mem_cons.mpr ⟨loc_D mo_b2,
  List.forall_mem_cons.mpr ⟨loc_D mo_b2,
  List.forall_mem_cons.mpr ⟨loc_D mo_is,
  List.forall_mem_cons.mpr ⟨loc_D mo_inc,
  List.forall_mem_cons.mpr ⟨loc_D mo_goto,
  List.forall_mem_cons.mpr ⟨loc_D mo_il,
  List.forall_mem_cons.mpr ⟨loc_R,
  fun _ h => absurd h List.not_mem_nil⟩⟩⟩⟩⟩⟩⟩⟩⟩⟩⟩⟩⟩⟩⟩⟩⟩⟩⟩⟩⟩⟩⟩⟩⟩
set_option maxRecDepth 100000 in
theorem sm_X5_allCoins : SM yX5_allCoins cX5_allCoins 3 (some .int) 3 w_X5_allCoins := SM_of' RX5 "allCoins" rfl rfl (by decide) (by decide) (by decide) lo_X5_allCoins (List.forall_mem_cons.mpr ⟨STP.r mo_ic (q_iconst dX5_allCoins_0 (by decide)),
  List.forall_mem_cons.mpr ⟨STP.r mo_is (q_istore_n dX5_allCoins_1 rfl),
  List.forall_mem_cons.mpr ⟨STP.r mo_ic (q_iconst dX5_allCoins_2 (by decide)),
  List.forall_mem_cons.mpr ⟨STP.r mo_is (q_istore_n dX5_allCoins_3 rfl),
  List.forall_mem_cons.mpr ⟨STP.r mo_il (q_iload_n dX5_allCoins_4 rfl),
  List.forall_mem_cons.mpr ⟨STP.r mo_al (q_aload_n dX5_allCoins_5 rfl),
  List.forall_mem_cons.mpr ⟨STP.r mo_gR (q_gR ⟨by decide, by decide⟩ (by decide) rfl (by decide) kf_X5_29 dX5_allCoins_6),
  List.forall_mem_cons.mpr ⟨STP.r mo_alen (q_alen dX5_allCoins_9),
  List.forall_mem_cons.mpr ⟨(q_ic_ge dX5_allCoins_10 (by decide)).r,
  List.forall_mem_cons.mpr ⟨STP.r mo_il (q_iload_n dX5_allCoins_13 rfl),
  List.forall_mem_cons.mpr ⟨STP.r mo_al (q_aload_n dX5_allCoins_14 rfl),
  List.forall_mem_cons.mpr ⟨STP.r mo_gR (q_gR ⟨by decide, by decide⟩ (by decide) rfl (by decide) kf_X5_29 dX5_allCoins_15),
  List.forall_mem_cons.mpr ⟨STP.r mo_il (q_iload_n dX5_allCoins_18 rfl),
  List.forall_mem_cons.mpr ⟨STP.r mo_aald (q_aald ⟨by decide, by decide⟩ dX5_allCoins_19),
  List.forall_mem_cons.mpr ⟨STP.r mo_gI (q_gI ⟨by decide, by decide⟩ (by decide) rfl kf_X5_97 dX5_allCoins_20),
  List.forall_mem_cons.mpr ⟨STP.r mo_al (q_aload_n dX5_allCoins_23 rfl),
  List.forall_mem_cons.mpr ⟨STP.r mo_il (q_iload_n dX5_allCoins_24 rfl),
  List.forall_mem_cons.mpr ⟨(snd_CV sm_X5_heldBackBy ⟨by decide, by decide⟩ rfl km_X5_206 kt_X5_heldBackBy kv_X5_heldBackBy rfl ki_X5 kx_X5_heldBackBy ⟨by decide, by decide, by decide +kernel⟩ (by decide) (by decide) dX5_allCoins_25).r,
  List.forall_mem_cons.mpr ⟨STP.r mo_b2 (q_iadd dX5_allCoins_28),
  List.forall_mem_cons.mpr ⟨STP.r mo_b2 (q_iadd dX5_allCoins_29),
  List.forall_mem_cons.mpr ⟨STP.r mo_is (q_istore_n dX5_allCoins_30 rfl),
  List.forall_mem_cons.mpr ⟨STP.r mo_inc (q_inc dX5_allCoins_31 (by decide)),
  List.forall_mem_cons.mpr ⟨STP.r mo_goto (q_goto dX5_allCoins_34 (by decide)),
  List.forall_mem_cons.mpr ⟨STP.r mo_il (q_iload_n dX5_allCoins_37 rfl),
  List.forall_mem_cons.mpr ⟨r_iret dX5_allCoins_38,
  fun _ h => absurd h List.not_mem_nil⟩⟩⟩⟩⟩⟩⟩⟩⟩⟩⟩⟩⟩⟩⟩⟩⟩⟩⟩⟩⟩⟩⟩⟩⟩)
theorem e_X5_allCoins_0 {Q : mQ} {ls st : List Value} {g : mG} : WP m_X5_allCoins Q 0 ls st g = WP m_X5_allCoins Q 1 ls (.int (nI 0) :: st) g := E_ic (v := nI 0) (n := 1) lo_X5_allCoins rfl
theorem e_X5_allCoins_1 {Q : mQ} {l0 l1 l2 : Value} {st : List Value} {g : mG} {x : Int32} : WP m_X5_allCoins Q 1 [l0, l1, l2] (.int x :: st) g = (nl1 l0 ∧ WP m_X5_allCoins Q 2 [l0, .int x, l2] st g) := E_is (i := 1) (n := 1) lo_X5_allCoins rfl (Nat.le_of_ble_eq_true rfl)
theorem e_X5_allCoins_2 {Q : mQ} {ls st : List Value} {g : mG} : WP m_X5_allCoins Q 2 ls st g = WP m_X5_allCoins Q 3 ls (.int (nI 0) :: st) g := E_ic (v := nI 0) (n := 1) lo_X5_allCoins rfl
theorem e_X5_allCoins_3 {Q : mQ} {l0 l1 l2 : Value} {st : List Value} {g : mG} {x : Int32} : WP m_X5_allCoins Q 3 [l0, l1, l2] (.int x :: st) g = (nl1 l1 ∧ WP m_X5_allCoins Q 4 [l0, l1, .int x] st g) := E_is (i := 2) (n := 1) lo_X5_allCoins rfl (Nat.le_of_ble_eq_true rfl)
theorem e_X5_allCoins_4 {Q : mQ} {l0 l1 : Value} {st : List Value} {g : mG} {x : Int32} : WP m_X5_allCoins Q 4 [l0, l1, .int x] st g = WP m_X5_allCoins Q 5 [l0, l1, .int x] (.int x :: st) g := E_il (i := 2) (n := 1) lo_X5_allCoins rfl rfl
theorem e_X5_allCoins_5 {Q : mQ} {l1 l2 : Value} {st : List Value} {g : mG} {x : Nat} : WP m_X5_allCoins Q 5 [.ref x, l1, l2] st g = WP m_X5_allCoins Q 6 [.ref x, l1, l2] (.ref x :: st) g := E_al (i := 0) (n := 1) lo_X5_allCoins rfl rfl
theorem e_X5_allCoins_6 {Q : mQ} {ls st : List Value} {g : mG} {a : Nat} : WP m_X5_allCoins Q 6 ls (.ref a :: st) g = ((gK g a = 6 ∧ gR g a 12 ≠ 0) ∧ WP m_X5_allCoins Q 9 ls (.ref (gR g a 12) :: st) g) := E_gR lo_X5_allCoins rfl
theorem e_X5_allCoins_9 {Q : mQ} {ls st : List Value} {g : mG} {a : Nat} : WP m_X5_allCoins Q 9 ls (.ref a :: st) g = ((10 ≤ gK g a ∧ gK g a ≤ 17) ∧ WP m_X5_allCoins Q 10 ls (.int (nI (gN g a)) :: st) g) := E_alen lo_X5_allCoins rfl
theorem e_X5_allCoins_10 {Q : mQ} {ls st : List Value} {g : mG} {x y : Int32} : WP m_X5_allCoins Q 10 ls (.int y :: .int x :: st) g = ((y ≤ x → WP m_X5_allCoins Q 37 ls st g) ∧ (¬ (y ≤ x) → WP m_X5_allCoins Q 13 ls st g)) := E_I2 (c := fun x y => y ≤ x) (t := 37) lo_X5_allCoins rfl
theorem e_X5_allCoins_13 {Q : mQ} {l0 l2 : Value} {st : List Value} {g : mG} {x : Int32} : WP m_X5_allCoins Q 13 [l0, .int x, l2] st g = WP m_X5_allCoins Q 14 [l0, .int x, l2] (.int x :: st) g := E_il (i := 1) (n := 1) lo_X5_allCoins rfl rfl
theorem e_X5_allCoins_14 {Q : mQ} {l1 l2 : Value} {st : List Value} {g : mG} {x : Nat} : WP m_X5_allCoins Q 14 [.ref x, l1, l2] st g = WP m_X5_allCoins Q 15 [.ref x, l1, l2] (.ref x :: st) g := E_al (i := 0) (n := 1) lo_X5_allCoins rfl rfl
theorem e_X5_allCoins_15 {Q : mQ} {ls st : List Value} {g : mG} {a : Nat} : WP m_X5_allCoins Q 15 ls (.ref a :: st) g = ((gK g a = 6 ∧ gR g a 12 ≠ 0) ∧ WP m_X5_allCoins Q 18 ls (.ref (gR g a 12) :: st) g) := E_gR lo_X5_allCoins rfl
theorem e_X5_allCoins_18 {Q : mQ} {l0 l1 : Value} {st : List Value} {g : mG} {x : Int32} : WP m_X5_allCoins Q 18 [l0, l1, .int x] st g = WP m_X5_allCoins Q 19 [l0, l1, .int x] (.int x :: st) g := E_il (i := 2) (n := 1) lo_X5_allCoins rfl rfl
theorem e_X5_allCoins_19 {Q : mQ} {ls st : List Value} {g : mG} {a : Nat} {i : Int32} : WP m_X5_allCoins Q 19 ls (.int i :: .ref a :: st) g = ((gK g a = 14 ∧ vp_in i (gN g a) ∧ gR g a i.toNatClampNeg ≠ 0) ∧ WP m_X5_allCoins Q 20 ls (.ref (gR g a i.toNatClampNeg) :: st) g) := E_aald lo_X5_allCoins rfl
theorem e_X5_allCoins_20 {Q : mQ} {ls st : List Value} {g : mG} {a : Nat} : WP m_X5_allCoins Q 20 ls (.ref a :: st) g = (gK g a = 1 ∧ WP m_X5_allCoins Q 23 ls (.int (gI g a 0) :: st) g) := E_gI lo_X5_allCoins rfl
theorem e_X5_allCoins_23 {Q : mQ} {l1 l2 : Value} {st : List Value} {g : mG} {x : Nat} : WP m_X5_allCoins Q 23 [.ref x, l1, l2] st g = WP m_X5_allCoins Q 24 [.ref x, l1, l2] (.ref x :: st) g := E_al (i := 0) (n := 1) lo_X5_allCoins rfl rfl
theorem e_X5_allCoins_24 {Q : mQ} {l0 l1 : Value} {st : List Value} {g : mG} {x : Int32} : WP m_X5_allCoins Q 24 [l0, l1, .int x] st g = WP m_X5_allCoins Q 25 [l0, l1, .int x] (.int x :: st) g := E_il (i := 2) (n := 1) lo_X5_allCoins rfl rfl
theorem e_X5_allCoins_25 {Q : mQ} {ls st : List Value} {g : mG} {b : Nat} {a0 : Value} : WP m_X5_allCoins Q 25 ls (a0 :: .ref b :: st) g = (st.length ≤ 4 ∧ gK g b = 6 ∧ stbs g ls ∧ stbs g st ∧ w_X5_heldBackBy [.ref b, a0] g (fun v g' => WP m_X5_allCoins Q 28 ls (v.toList ++ st) g')) := E_CV (ar := [a0, .ref b]) lo_X5_allCoins rfl rfl rfl (by decide)
theorem e_X5_allCoins_28 {Q : mQ} {ls st : List Value} {g : mG} {x y : Int32} : WP m_X5_allCoins Q 28 ls (.int y :: .int x :: st) g = WP m_X5_allCoins Q 29 ls (.int (x + y) :: st) g := E_b2 (f := fun x y => x + y) lo_X5_allCoins rfl
theorem e_X5_allCoins_29 {Q : mQ} {ls st : List Value} {g : mG} {x y : Int32} : WP m_X5_allCoins Q 29 ls (.int y :: .int x :: st) g = WP m_X5_allCoins Q 30 ls (.int (x + y) :: st) g := E_b2 (f := fun x y => x + y) lo_X5_allCoins rfl
theorem e_X5_allCoins_30 {Q : mQ} {l0 l1 l2 : Value} {st : List Value} {g : mG} {x : Int32} : WP m_X5_allCoins Q 30 [l0, l1, l2] (.int x :: st) g = (nl1 l0 ∧ WP m_X5_allCoins Q 31 [l0, .int x, l2] st g) := E_is (i := 1) (n := 1) lo_X5_allCoins rfl (Nat.le_of_ble_eq_true rfl)
theorem e_X5_allCoins_31 {Q : mQ} {l0 l1 : Value} {st : List Value} {g : mG} {x : Int32} : WP m_X5_allCoins Q 31 [l0, l1, .int x] st g = (nl1 l1 ∧ WP m_X5_allCoins Q 34 [l0, l1, .int (x + nI 1)] st g) := E_inc (i := 2) (d := nI 1) lo_X5_allCoins rfl rfl
theorem e_X5_allCoins_34 {Q : mQ} {ls st : List Value} {g : mG} : WP m_X5_allCoins Q 34 ls st g = WP m_X5_allCoins Q 4 ls st g := E_goto lo_X5_allCoins rfl
theorem e_X5_allCoins_37 {Q : mQ} {l0 l2 : Value} {st : List Value} {g : mG} {x : Int32} : WP m_X5_allCoins Q 37 [l0, .int x, l2] st g = WP m_X5_allCoins Q 38 [l0, .int x, l2] (.int x :: st) g := E_il (i := 1) (n := 1) lo_X5_allCoins rfl rfl
theorem e_X5_allCoins_38 {Q : mQ} {ls : List Value} {g : mG} {v : Int32} : WP m_X5_allCoins Q 38 ls [.int v] g = Q (some (.int v)) g := E_iret lo_X5_allCoins rfl
/-! KilnPermits$Town.standingCount()I -/
def m_X5_standingCount : List (Nat × mT) := [(0, tD (f_ic (nI 0) 1)),
  (1, tD (f_is 1 1)),
  (2, tD (f_al 0 1)),
  (3, tD (f_gR 6 13)),
  (6, tD (f_as 2 1)),
  (7, tD (f_al 2 1)),
  (8, tD (f_alen)),
  (9, tD (f_is 3 1)),
  (10, tD (f_ic (nI 0) 1)),
  (11, tD (f_is 4 2)),
  (13, tD (f_il 4 2)),
  (15, tD (f_il 3 1)),
  (16, tI2 (fun x y => y ≤ x) 42),
  (19, tD (f_al 2 1)),
  (20, tD (f_il 4 2)),
  (22, tD (f_aald 15)),
  (23, tD (f_as 5 2)),
  (25, tD (f_al 5 2)),
  (27, tD (f_gI 3 3)),
  (30, tI1 (fun x => x ≤ 0) 36),
  (33, tD (f_inc 1 (nI 1))),
  (36, tD (f_inc 4 (nI 1))),
  (39, tD (f_goto 13)),
  (42, tD (f_il 1 1)),
  (43, tR f_iret)]
abbrev w_X5_standingCount : mS := wm m_X5_standingCount 1 5
set_option maxRecDepth 100000 in
theorem lo_X5_standingCount : locs_ok m_X5_standingCount := List.forall_mem_cons.mpr ⟨loc_D mo_ic,
  List.forall_mem_cons.mpr ⟨loc_D mo_is,
  List.forall_mem_cons.mpr ⟨loc_D mo_al,
  List.forall_mem_cons.mpr ⟨loc_D mo_gR,
  List.forall_mem_cons.mpr ⟨loc_D mo_as,
  List.forall_mem_cons.mpr ⟨loc_D mo_al,
  List.forall_mem_cons.mpr ⟨loc_D mo_alen,
  List.forall_mem_cons.mpr ⟨loc_D mo_is,
  List.forall_mem_cons.mpr ⟨loc_D mo_ic,
  List.forall_mem_cons.mpr ⟨loc_D mo_is,
  List.forall_mem_cons.mpr ⟨loc_D mo_il,
  List.forall_mem_cons.mpr ⟨loc_D mo_il,
  List.forall_mem_cons.mpr ⟨loc_I2,
  List.forall_mem_cons.mpr ⟨loc_D mo_al,
  List.forall_mem_cons.mpr ⟨loc_D mo_il,
  List.forall_mem_cons.mpr ⟨loc_D mo_aald,
  List.forall_mem_cons.mpr ⟨loc_D mo_as,
  List.forall_mem_cons.mpr ⟨loc_D mo_al,
  List.forall_mem_cons.mpr ⟨loc_D mo_gI,
  List.forall_mem_cons.mpr ⟨loc_I1,
  List.forall_mem_cons.mpr ⟨loc_D mo_inc,
  List.forall_mem_cons.mpr ⟨loc_D mo_inc,
  List.forall_mem_cons.mpr ⟨loc_D mo_goto,
  List.forall_mem_cons.mpr ⟨loc_D mo_il,
  List.forall_mem_cons.mpr ⟨loc_R,
  fun _ h => absurd h List.not_mem_nil⟩⟩⟩⟩⟩⟩⟩⟩⟩⟩⟩⟩⟩⟩⟩⟩⟩⟩⟩⟩⟩⟩⟩⟩⟩
set_option maxRecDepth 100000 in
theorem sm_X5_standingCount : SM yX5_standingCount cX5_standingCount 6 (some .int) 1 w_X5_standingCount := SM_of' RX5 "standingCount" rfl rfl (by decide) (by decide) (by decide) lo_X5_standingCount (List.forall_mem_cons.mpr ⟨STP.r mo_ic (q_iconst dX5_standingCount_0 (by decide)),
  List.forall_mem_cons.mpr ⟨STP.r mo_is (q_istore_n dX5_standingCount_1 rfl),
  List.forall_mem_cons.mpr ⟨STP.r mo_al (q_aload_n dX5_standingCount_2 rfl),
  List.forall_mem_cons.mpr ⟨STP.r mo_gR (q_gR ⟨by decide, by decide⟩ (by decide) rfl (by decide) kf_X5_35 dX5_standingCount_3),
  List.forall_mem_cons.mpr ⟨STP.r mo_as (q_astore_n dX5_standingCount_6 rfl),
  List.forall_mem_cons.mpr ⟨STP.r mo_al (q_aload_n dX5_standingCount_7 rfl),
  List.forall_mem_cons.mpr ⟨STP.r mo_alen (q_alen dX5_standingCount_8),
  List.forall_mem_cons.mpr ⟨STP.r mo_is (q_istore_n dX5_standingCount_9 rfl),
  List.forall_mem_cons.mpr ⟨STP.r mo_ic (q_iconst dX5_standingCount_10 (by decide)),
  List.forall_mem_cons.mpr ⟨STP.r mo_is (q_istore dX5_standingCount_11),
  List.forall_mem_cons.mpr ⟨STP.r mo_il (q_iload dX5_standingCount_13),
  List.forall_mem_cons.mpr ⟨STP.r mo_il (q_iload_n dX5_standingCount_15 rfl),
  List.forall_mem_cons.mpr ⟨(q_ic_ge dX5_standingCount_16 (by decide)).r,
  List.forall_mem_cons.mpr ⟨STP.r mo_al (q_aload_n dX5_standingCount_19 rfl),
  List.forall_mem_cons.mpr ⟨STP.r mo_il (q_iload dX5_standingCount_20),
  List.forall_mem_cons.mpr ⟨STP.r mo_aald (q_aald ⟨by decide, by decide⟩ dX5_standingCount_22),
  List.forall_mem_cons.mpr ⟨STP.r mo_as (q_astore dX5_standingCount_23),
  List.forall_mem_cons.mpr ⟨STP.r mo_al (q_aload dX5_standingCount_25),
  List.forall_mem_cons.mpr ⟨STP.r mo_gI (q_gI ⟨by decide, by decide⟩ (by decide) rfl kf_X5_154 dX5_standingCount_27),
  List.forall_mem_cons.mpr ⟨(q_if_le dX5_standingCount_30 (by decide)).r,
  List.forall_mem_cons.mpr ⟨STP.r mo_inc (q_inc dX5_standingCount_33 (by decide)),
  List.forall_mem_cons.mpr ⟨STP.r mo_inc (q_inc dX5_standingCount_36 (by decide)),
  List.forall_mem_cons.mpr ⟨STP.r mo_goto (q_goto dX5_standingCount_39 (by decide)),
  List.forall_mem_cons.mpr ⟨STP.r mo_il (q_iload_n dX5_standingCount_42 rfl),
  List.forall_mem_cons.mpr ⟨r_iret dX5_standingCount_43,
  fun _ h => absurd h List.not_mem_nil⟩⟩⟩⟩⟩⟩⟩⟩⟩⟩⟩⟩⟩⟩⟩⟩⟩⟩⟩⟩⟩⟩⟩⟩⟩)
theorem e_X5_standingCount_0 {Q : mQ} {ls st : List Value} {g : mG} : WP m_X5_standingCount Q 0 ls st g = WP m_X5_standingCount Q 1 ls (.int (nI 0) :: st) g := E_ic (v := nI 0) (n := 1) lo_X5_standingCount rfl
theorem e_X5_standingCount_1 {Q : mQ} {l0 l1 l2 l3 l4 l5 : Value} {st : List Value} {g : mG} {x : Int32} : WP m_X5_standingCount Q 1 [l0, l1, l2, l3, l4, l5] (.int x :: st) g = (nl1 l0 ∧ WP m_X5_standingCount Q 2 [l0, .int x, l2, l3, l4, l5] st g) := E_is (i := 1) (n := 1) lo_X5_standingCount rfl (Nat.le_of_ble_eq_true rfl)
theorem e_X5_standingCount_2 {Q : mQ} {l1 l2 l3 l4 l5 : Value} {st : List Value} {g : mG} {x : Nat} : WP m_X5_standingCount Q 2 [.ref x, l1, l2, l3, l4, l5] st g = WP m_X5_standingCount Q 3 [.ref x, l1, l2, l3, l4, l5] (.ref x :: st) g := E_al (i := 0) (n := 1) lo_X5_standingCount rfl rfl
theorem e_X5_standingCount_3 {Q : mQ} {ls st : List Value} {g : mG} {a : Nat} : WP m_X5_standingCount Q 3 ls (.ref a :: st) g = ((gK g a = 6 ∧ gR g a 13 ≠ 0) ∧ WP m_X5_standingCount Q 6 ls (.ref (gR g a 13) :: st) g) := E_gR lo_X5_standingCount rfl
theorem e_X5_standingCount_6 {Q : mQ} {l0 l1 l2 l3 l4 l5 : Value} {st : List Value} {g : mG} {x : Nat} : WP m_X5_standingCount Q 6 [l0, l1, l2, l3, l4, l5] (.ref x :: st) g = (nl1 l1 ∧ WP m_X5_standingCount Q 7 [l0, l1, .ref x, l3, l4, l5] st g) := E_as (i := 2) (n := 1) lo_X5_standingCount rfl (Nat.le_of_ble_eq_true rfl)
theorem e_X5_standingCount_6n {Q : mQ} {l0 l1 l2 l3 l4 l5 : Value} {st : List Value} {g : mG} : WP m_X5_standingCount Q 6 [l0, l1, l2, l3, l4, l5] (.null :: st) g = (nl1 l1 ∧ WP m_X5_standingCount Q 7 [l0, l1, .null, l3, l4, l5] st g) := E_asn (i := 2) (n := 1) lo_X5_standingCount rfl (Nat.le_of_ble_eq_true rfl)
theorem e_X5_standingCount_7 {Q : mQ} {l0 l1 l3 l4 l5 : Value} {st : List Value} {g : mG} {x : Nat} : WP m_X5_standingCount Q 7 [l0, l1, .ref x, l3, l4, l5] st g = WP m_X5_standingCount Q 8 [l0, l1, .ref x, l3, l4, l5] (.ref x :: st) g := E_al (i := 2) (n := 1) lo_X5_standingCount rfl rfl
theorem e_X5_standingCount_7n {Q : mQ} {l0 l1 l3 l4 l5 : Value} {st : List Value} {g : mG} : WP m_X5_standingCount Q 7 [l0, l1, .null, l3, l4, l5] st g = WP m_X5_standingCount Q 8 [l0, l1, .null, l3, l4, l5] (.null :: st) g := E_aln (i := 2) (n := 1) lo_X5_standingCount rfl rfl
theorem e_X5_standingCount_8 {Q : mQ} {ls st : List Value} {g : mG} {a : Nat} : WP m_X5_standingCount Q 8 ls (.ref a :: st) g = ((10 ≤ gK g a ∧ gK g a ≤ 17) ∧ WP m_X5_standingCount Q 9 ls (.int (nI (gN g a)) :: st) g) := E_alen lo_X5_standingCount rfl
theorem e_X5_standingCount_9 {Q : mQ} {l0 l1 l2 l3 l4 l5 : Value} {st : List Value} {g : mG} {x : Int32} : WP m_X5_standingCount Q 9 [l0, l1, l2, l3, l4, l5] (.int x :: st) g = (nl1 l2 ∧ WP m_X5_standingCount Q 10 [l0, l1, l2, .int x, l4, l5] st g) := E_is (i := 3) (n := 1) lo_X5_standingCount rfl (Nat.le_of_ble_eq_true rfl)
theorem e_X5_standingCount_10 {Q : mQ} {ls st : List Value} {g : mG} : WP m_X5_standingCount Q 10 ls st g = WP m_X5_standingCount Q 11 ls (.int (nI 0) :: st) g := E_ic (v := nI 0) (n := 1) lo_X5_standingCount rfl
theorem e_X5_standingCount_11 {Q : mQ} {l0 l1 l2 l3 l4 l5 : Value} {st : List Value} {g : mG} {x : Int32} : WP m_X5_standingCount Q 11 [l0, l1, l2, l3, l4, l5] (.int x :: st) g = (nl1 l3 ∧ WP m_X5_standingCount Q 13 [l0, l1, l2, l3, .int x, l5] st g) := E_is (i := 4) (n := 2) lo_X5_standingCount rfl (Nat.le_of_ble_eq_true rfl)
theorem e_X5_standingCount_13 {Q : mQ} {l0 l1 l2 l3 l5 : Value} {st : List Value} {g : mG} {x : Int32} : WP m_X5_standingCount Q 13 [l0, l1, l2, l3, .int x, l5] st g = WP m_X5_standingCount Q 15 [l0, l1, l2, l3, .int x, l5] (.int x :: st) g := E_il (i := 4) (n := 2) lo_X5_standingCount rfl rfl
theorem e_X5_standingCount_15 {Q : mQ} {l0 l1 l2 l4 l5 : Value} {st : List Value} {g : mG} {x : Int32} : WP m_X5_standingCount Q 15 [l0, l1, l2, .int x, l4, l5] st g = WP m_X5_standingCount Q 16 [l0, l1, l2, .int x, l4, l5] (.int x :: st) g := E_il (i := 3) (n := 1) lo_X5_standingCount rfl rfl
theorem e_X5_standingCount_16 {Q : mQ} {ls st : List Value} {g : mG} {x y : Int32} : WP m_X5_standingCount Q 16 ls (.int y :: .int x :: st) g = ((y ≤ x → WP m_X5_standingCount Q 42 ls st g) ∧ (¬ (y ≤ x) → WP m_X5_standingCount Q 19 ls st g)) := E_I2 (c := fun x y => y ≤ x) (t := 42) lo_X5_standingCount rfl
theorem e_X5_standingCount_19 {Q : mQ} {l0 l1 l3 l4 l5 : Value} {st : List Value} {g : mG} {x : Nat} : WP m_X5_standingCount Q 19 [l0, l1, .ref x, l3, l4, l5] st g = WP m_X5_standingCount Q 20 [l0, l1, .ref x, l3, l4, l5] (.ref x :: st) g := E_al (i := 2) (n := 1) lo_X5_standingCount rfl rfl
theorem e_X5_standingCount_19n {Q : mQ} {l0 l1 l3 l4 l5 : Value} {st : List Value} {g : mG} : WP m_X5_standingCount Q 19 [l0, l1, .null, l3, l4, l5] st g = WP m_X5_standingCount Q 20 [l0, l1, .null, l3, l4, l5] (.null :: st) g := E_aln (i := 2) (n := 1) lo_X5_standingCount rfl rfl
theorem e_X5_standingCount_20 {Q : mQ} {l0 l1 l2 l3 l5 : Value} {st : List Value} {g : mG} {x : Int32} : WP m_X5_standingCount Q 20 [l0, l1, l2, l3, .int x, l5] st g = WP m_X5_standingCount Q 22 [l0, l1, l2, l3, .int x, l5] (.int x :: st) g := E_il (i := 4) (n := 2) lo_X5_standingCount rfl rfl
theorem e_X5_standingCount_22 {Q : mQ} {ls st : List Value} {g : mG} {a : Nat} {i : Int32} : WP m_X5_standingCount Q 22 ls (.int i :: .ref a :: st) g = ((gK g a = 15 ∧ vp_in i (gN g a) ∧ gR g a i.toNatClampNeg ≠ 0) ∧ WP m_X5_standingCount Q 23 ls (.ref (gR g a i.toNatClampNeg) :: st) g) := E_aald lo_X5_standingCount rfl
theorem e_X5_standingCount_23 {Q : mQ} {l0 l1 l2 l3 l4 l5 : Value} {st : List Value} {g : mG} {x : Nat} : WP m_X5_standingCount Q 23 [l0, l1, l2, l3, l4, l5] (.ref x :: st) g = (nl1 l4 ∧ WP m_X5_standingCount Q 25 [l0, l1, l2, l3, l4, .ref x] st g) := E_as (i := 5) (n := 2) lo_X5_standingCount rfl (Nat.le_of_ble_eq_true rfl)
theorem e_X5_standingCount_23n {Q : mQ} {l0 l1 l2 l3 l4 l5 : Value} {st : List Value} {g : mG} : WP m_X5_standingCount Q 23 [l0, l1, l2, l3, l4, l5] (.null :: st) g = (nl1 l4 ∧ WP m_X5_standingCount Q 25 [l0, l1, l2, l3, l4, .null] st g) := E_asn (i := 5) (n := 2) lo_X5_standingCount rfl (Nat.le_of_ble_eq_true rfl)
theorem e_X5_standingCount_25 {Q : mQ} {l0 l1 l2 l3 l4 : Value} {st : List Value} {g : mG} {x : Nat} : WP m_X5_standingCount Q 25 [l0, l1, l2, l3, l4, .ref x] st g = WP m_X5_standingCount Q 27 [l0, l1, l2, l3, l4, .ref x] (.ref x :: st) g := E_al (i := 5) (n := 2) lo_X5_standingCount rfl rfl
theorem e_X5_standingCount_25n {Q : mQ} {l0 l1 l2 l3 l4 : Value} {st : List Value} {g : mG} : WP m_X5_standingCount Q 25 [l0, l1, l2, l3, l4, .null] st g = WP m_X5_standingCount Q 27 [l0, l1, l2, l3, l4, .null] (.null :: st) g := E_aln (i := 5) (n := 2) lo_X5_standingCount rfl rfl
theorem e_X5_standingCount_27 {Q : mQ} {ls st : List Value} {g : mG} {a : Nat} : WP m_X5_standingCount Q 27 ls (.ref a :: st) g = (gK g a = 3 ∧ WP m_X5_standingCount Q 30 ls (.int (gI g a 3) :: st) g) := E_gI lo_X5_standingCount rfl
theorem e_X5_standingCount_30 {Q : mQ} {ls st : List Value} {g : mG} {x : Int32} : WP m_X5_standingCount Q 30 ls (.int x :: st) g = ((x ≤ 0 → WP m_X5_standingCount Q 36 ls st g) ∧ (¬ (x ≤ 0) → WP m_X5_standingCount Q 33 ls st g)) := E_I1 (c := fun x => x ≤ 0) (t := 36) lo_X5_standingCount rfl
theorem e_X5_standingCount_33 {Q : mQ} {l0 l2 l3 l4 l5 : Value} {st : List Value} {g : mG} {x : Int32} : WP m_X5_standingCount Q 33 [l0, .int x, l2, l3, l4, l5] st g = (nl1 l0 ∧ WP m_X5_standingCount Q 36 [l0, .int (x + nI 1), l2, l3, l4, l5] st g) := E_inc (i := 1) (d := nI 1) lo_X5_standingCount rfl rfl
theorem e_X5_standingCount_36 {Q : mQ} {l0 l1 l2 l3 l5 : Value} {st : List Value} {g : mG} {x : Int32} : WP m_X5_standingCount Q 36 [l0, l1, l2, l3, .int x, l5] st g = (nl1 l3 ∧ WP m_X5_standingCount Q 39 [l0, l1, l2, l3, .int (x + nI 1), l5] st g) := E_inc (i := 4) (d := nI 1) lo_X5_standingCount rfl rfl
theorem e_X5_standingCount_39 {Q : mQ} {ls st : List Value} {g : mG} : WP m_X5_standingCount Q 39 ls st g = WP m_X5_standingCount Q 13 ls st g := E_goto lo_X5_standingCount rfl
theorem e_X5_standingCount_42 {Q : mQ} {l0 l2 l3 l4 l5 : Value} {st : List Value} {g : mG} {x : Int32} : WP m_X5_standingCount Q 42 [l0, .int x, l2, l3, l4, l5] st g = WP m_X5_standingCount Q 43 [l0, .int x, l2, l3, l4, l5] (.int x :: st) g := E_il (i := 1) (n := 1) lo_X5_standingCount rfl rfl
theorem e_X5_standingCount_43 {Q : mQ} {ls : List Value} {g : mG} {v : Int32} : WP m_X5_standingCount Q 43 ls [.int v] g = Q (some (.int v)) g := E_iret lo_X5_standingCount rfl
/-! KilnPermits$Town.offeredBy(I)I -/
def m_X5_offeredBy : List (Nat × mT) := [(0, tD (f_ic (nI 0) 1)),
  (1, tD (f_is 2 1)),
  (2, tD (f_al 0 1)),
  (3, tD (f_gR 6 13)),
  (6, tD (f_as 3 1)),
  (7, tD (f_al 3 1)),
  (8, tD (f_alen)),
  (9, tD (f_is 4 2)),
  (11, tD (f_ic (nI 0) 1)),
  (12, tD (f_is 5 2)),
  (14, tD (f_il 5 2)),
  (16, tD (f_il 4 2)),
  (18, tI2 (fun x y => y ≤ x) 53),
  (21, tD (f_al 3 1)),
  (22, tD (f_il 5 2)),
  (24, tD (f_aald 15)),
  (25, tD (f_as 6 2)),
  (27, tD (f_al 6 2)),
  (29, tD (f_gI 3 2)),
  (32, tD (f_il 1 1)),
  (33, tI2 (fun x y => ¬ x = y) 47),
  (36, tD (f_il 2 1)),
  (37, tD (f_al 6 2)),
  (39, tD (f_gR 3 5)),
  (42, tD (f_gI 5 2)),
  (45, tD (f_b2 fun x y => x + y)),
  (46, tD (f_is 2 1)),
  (47, tD (f_inc 5 (nI 1))),
  (50, tD (f_goto 14)),
  (53, tD (f_il 2 1)),
  (54, tR f_iret)]
abbrev w_X5_offeredBy : mS := wm m_X5_offeredBy 2 5
set_option maxRecDepth 100000 in
theorem lo_X5_offeredBy : locs_ok m_X5_offeredBy := List.forall_mem_cons.mpr ⟨loc_D mo_ic,
  List.forall_mem_cons.mpr ⟨loc_D mo_is,
  List.forall_mem_cons.mpr ⟨loc_D mo_al,
  List.forall_mem_cons.mpr ⟨loc_D mo_gR,
  List.forall_mem_cons.mpr ⟨loc_D mo_as,
  List.forall_mem_cons.mpr ⟨loc_D mo_al,
  List.forall_mem_cons.mpr ⟨loc_D mo_alen,
  List.forall_mem_cons.mpr ⟨loc_D mo_is,
  List.forall_mem_cons.mpr ⟨loc_D mo_ic,
  List.forall_mem_cons.mpr ⟨loc_D mo_is,
  List.forall_mem_cons.mpr ⟨loc_D mo_il,
  List.forall_mem_cons.mpr ⟨loc_D mo_il,
  List.forall_mem_cons.mpr ⟨loc_I2,
  List.forall_mem_cons.mpr ⟨loc_D mo_al,
  List.forall_mem_cons.mpr ⟨loc_D mo_il,
  List.forall_mem_cons.mpr ⟨loc_D mo_aald,
  List.forall_mem_cons.mpr ⟨loc_D mo_as,
  List.forall_mem_cons.mpr ⟨loc_D mo_al,
  List.forall_mem_cons.mpr ⟨loc_D mo_gI,
  List.forall_mem_cons.mpr ⟨loc_D mo_il,
  List.forall_mem_cons.mpr ⟨loc_I2,
  List.forall_mem_cons.mpr ⟨loc_D mo_il,
  List.forall_mem_cons.mpr ⟨loc_D mo_al,
  List.forall_mem_cons.mpr ⟨loc_D mo_gR,
  List.forall_mem_cons.mpr ⟨loc_D mo_gI,
  List.forall_mem_cons.mpr ⟨loc_D mo_b2,
  List.forall_mem_cons.mpr ⟨loc_D mo_is,
  List.forall_mem_cons.mpr ⟨loc_D mo_inc,
  List.forall_mem_cons.mpr ⟨loc_D mo_goto,
  List.forall_mem_cons.mpr ⟨loc_D mo_il,
  List.forall_mem_cons.mpr ⟨loc_R,
  fun _ h => absurd h List.not_mem_nil⟩⟩⟩⟩⟩⟩⟩⟩⟩⟩⟩⟩⟩⟩⟩⟩⟩⟩⟩⟩⟩⟩⟩⟩⟩⟩⟩⟩⟩⟩⟩
set_option maxRecDepth 100000 in
theorem sm_X5_offeredBy : SM yX5_offeredBy cX5_offeredBy 7 (some .int) 1 w_X5_offeredBy := SM_of' RX5 "offeredBy" rfl rfl (by decide) (by decide) (by decide) lo_X5_offeredBy (List.forall_mem_cons.mpr ⟨STP.r mo_ic (q_iconst dX5_offeredBy_0 (by decide)),
  List.forall_mem_cons.mpr ⟨STP.r mo_is (q_istore_n dX5_offeredBy_1 rfl),
  List.forall_mem_cons.mpr ⟨STP.r mo_al (q_aload_n dX5_offeredBy_2 rfl),
  List.forall_mem_cons.mpr ⟨STP.r mo_gR (q_gR ⟨by decide, by decide⟩ (by decide) rfl (by decide) kf_X5_35 dX5_offeredBy_3),
  List.forall_mem_cons.mpr ⟨STP.r mo_as (q_astore_n dX5_offeredBy_6 rfl),
  List.forall_mem_cons.mpr ⟨STP.r mo_al (q_aload_n dX5_offeredBy_7 rfl),
  List.forall_mem_cons.mpr ⟨STP.r mo_alen (q_alen dX5_offeredBy_8),
  List.forall_mem_cons.mpr ⟨STP.r mo_is (q_istore dX5_offeredBy_9),
  List.forall_mem_cons.mpr ⟨STP.r mo_ic (q_iconst dX5_offeredBy_11 (by decide)),
  List.forall_mem_cons.mpr ⟨STP.r mo_is (q_istore dX5_offeredBy_12),
  List.forall_mem_cons.mpr ⟨STP.r mo_il (q_iload dX5_offeredBy_14),
  List.forall_mem_cons.mpr ⟨STP.r mo_il (q_iload dX5_offeredBy_16),
  List.forall_mem_cons.mpr ⟨(q_ic_ge dX5_offeredBy_18 (by decide)).r,
  List.forall_mem_cons.mpr ⟨STP.r mo_al (q_aload_n dX5_offeredBy_21 rfl),
  List.forall_mem_cons.mpr ⟨STP.r mo_il (q_iload dX5_offeredBy_22),
  List.forall_mem_cons.mpr ⟨STP.r mo_aald (q_aald ⟨by decide, by decide⟩ dX5_offeredBy_24),
  List.forall_mem_cons.mpr ⟨STP.r mo_as (q_astore dX5_offeredBy_25),
  List.forall_mem_cons.mpr ⟨STP.r mo_al (q_aload dX5_offeredBy_27),
  List.forall_mem_cons.mpr ⟨STP.r mo_gI (q_gI ⟨by decide, by decide⟩ (by decide) rfl kf_X5_182 dX5_offeredBy_29),
  List.forall_mem_cons.mpr ⟨STP.r mo_il (q_iload_n dX5_offeredBy_32 rfl),
  List.forall_mem_cons.mpr ⟨(q_ic_ne dX5_offeredBy_33 (by decide)).r,
  List.forall_mem_cons.mpr ⟨STP.r mo_il (q_iload_n dX5_offeredBy_36 rfl),
  List.forall_mem_cons.mpr ⟨STP.r mo_al (q_aload dX5_offeredBy_37),
  List.forall_mem_cons.mpr ⟨STP.r mo_gR (q_gR ⟨by decide, by decide⟩ (by decide) rfl (by decide) kf_X5_144 dX5_offeredBy_39),
  List.forall_mem_cons.mpr ⟨STP.r mo_gI (q_gI ⟨by decide, by decide⟩ (by decide) rfl kf_X5_111 dX5_offeredBy_42),
  List.forall_mem_cons.mpr ⟨STP.r mo_b2 (q_iadd dX5_offeredBy_45),
  List.forall_mem_cons.mpr ⟨STP.r mo_is (q_istore_n dX5_offeredBy_46 rfl),
  List.forall_mem_cons.mpr ⟨STP.r mo_inc (q_inc dX5_offeredBy_47 (by decide)),
  List.forall_mem_cons.mpr ⟨STP.r mo_goto (q_goto dX5_offeredBy_50 (by decide)),
  List.forall_mem_cons.mpr ⟨STP.r mo_il (q_iload_n dX5_offeredBy_53 rfl),
  List.forall_mem_cons.mpr ⟨r_iret dX5_offeredBy_54,
  fun _ h => absurd h List.not_mem_nil⟩⟩⟩⟩⟩⟩⟩⟩⟩⟩⟩⟩⟩⟩⟩⟩⟩⟩⟩⟩⟩⟩⟩⟩⟩⟩⟩⟩⟩⟩⟩)
theorem e_X5_offeredBy_0 {Q : mQ} {ls st : List Value} {g : mG} : WP m_X5_offeredBy Q 0 ls st g = WP m_X5_offeredBy Q 1 ls (.int (nI 0) :: st) g := E_ic (v := nI 0) (n := 1) lo_X5_offeredBy rfl
theorem e_X5_offeredBy_1 {Q : mQ} {l0 l1 l2 l3 l4 l5 l6 : Value} {st : List Value} {g : mG} {x : Int32} : WP m_X5_offeredBy Q 1 [l0, l1, l2, l3, l4, l5, l6] (.int x :: st) g = (nl1 l1 ∧ WP m_X5_offeredBy Q 2 [l0, l1, .int x, l3, l4, l5, l6] st g) := E_is (i := 2) (n := 1) lo_X5_offeredBy rfl (Nat.le_of_ble_eq_true rfl)
theorem e_X5_offeredBy_2 {Q : mQ} {l1 l2 l3 l4 l5 l6 : Value} {st : List Value} {g : mG} {x : Nat} : WP m_X5_offeredBy Q 2 [.ref x, l1, l2, l3, l4, l5, l6] st g = WP m_X5_offeredBy Q 3 [.ref x, l1, l2, l3, l4, l5, l6] (.ref x :: st) g := E_al (i := 0) (n := 1) lo_X5_offeredBy rfl rfl
theorem e_X5_offeredBy_3 {Q : mQ} {ls st : List Value} {g : mG} {a : Nat} : WP m_X5_offeredBy Q 3 ls (.ref a :: st) g = ((gK g a = 6 ∧ gR g a 13 ≠ 0) ∧ WP m_X5_offeredBy Q 6 ls (.ref (gR g a 13) :: st) g) := E_gR lo_X5_offeredBy rfl
theorem e_X5_offeredBy_6 {Q : mQ} {l0 l1 l2 l3 l4 l5 l6 : Value} {st : List Value} {g : mG} {x : Nat} : WP m_X5_offeredBy Q 6 [l0, l1, l2, l3, l4, l5, l6] (.ref x :: st) g = (nl1 l2 ∧ WP m_X5_offeredBy Q 7 [l0, l1, l2, .ref x, l4, l5, l6] st g) := E_as (i := 3) (n := 1) lo_X5_offeredBy rfl (Nat.le_of_ble_eq_true rfl)
theorem e_X5_offeredBy_6n {Q : mQ} {l0 l1 l2 l3 l4 l5 l6 : Value} {st : List Value} {g : mG} : WP m_X5_offeredBy Q 6 [l0, l1, l2, l3, l4, l5, l6] (.null :: st) g = (nl1 l2 ∧ WP m_X5_offeredBy Q 7 [l0, l1, l2, .null, l4, l5, l6] st g) := E_asn (i := 3) (n := 1) lo_X5_offeredBy rfl (Nat.le_of_ble_eq_true rfl)
theorem e_X5_offeredBy_7 {Q : mQ} {l0 l1 l2 l4 l5 l6 : Value} {st : List Value} {g : mG} {x : Nat} : WP m_X5_offeredBy Q 7 [l0, l1, l2, .ref x, l4, l5, l6] st g = WP m_X5_offeredBy Q 8 [l0, l1, l2, .ref x, l4, l5, l6] (.ref x :: st) g := E_al (i := 3) (n := 1) lo_X5_offeredBy rfl rfl
theorem e_X5_offeredBy_7n {Q : mQ} {l0 l1 l2 l4 l5 l6 : Value} {st : List Value} {g : mG} : WP m_X5_offeredBy Q 7 [l0, l1, l2, .null, l4, l5, l6] st g = WP m_X5_offeredBy Q 8 [l0, l1, l2, .null, l4, l5, l6] (.null :: st) g := E_aln (i := 3) (n := 1) lo_X5_offeredBy rfl rfl
theorem e_X5_offeredBy_8 {Q : mQ} {ls st : List Value} {g : mG} {a : Nat} : WP m_X5_offeredBy Q 8 ls (.ref a :: st) g = ((10 ≤ gK g a ∧ gK g a ≤ 17) ∧ WP m_X5_offeredBy Q 9 ls (.int (nI (gN g a)) :: st) g) := E_alen lo_X5_offeredBy rfl
theorem e_X5_offeredBy_9 {Q : mQ} {l0 l1 l2 l3 l4 l5 l6 : Value} {st : List Value} {g : mG} {x : Int32} : WP m_X5_offeredBy Q 9 [l0, l1, l2, l3, l4, l5, l6] (.int x :: st) g = (nl1 l3 ∧ WP m_X5_offeredBy Q 11 [l0, l1, l2, l3, .int x, l5, l6] st g) := E_is (i := 4) (n := 2) lo_X5_offeredBy rfl (Nat.le_of_ble_eq_true rfl)
theorem e_X5_offeredBy_11 {Q : mQ} {ls st : List Value} {g : mG} : WP m_X5_offeredBy Q 11 ls st g = WP m_X5_offeredBy Q 12 ls (.int (nI 0) :: st) g := E_ic (v := nI 0) (n := 1) lo_X5_offeredBy rfl
theorem e_X5_offeredBy_12 {Q : mQ} {l0 l1 l2 l3 l4 l5 l6 : Value} {st : List Value} {g : mG} {x : Int32} : WP m_X5_offeredBy Q 12 [l0, l1, l2, l3, l4, l5, l6] (.int x :: st) g = (nl1 l4 ∧ WP m_X5_offeredBy Q 14 [l0, l1, l2, l3, l4, .int x, l6] st g) := E_is (i := 5) (n := 2) lo_X5_offeredBy rfl (Nat.le_of_ble_eq_true rfl)
theorem e_X5_offeredBy_14 {Q : mQ} {l0 l1 l2 l3 l4 l6 : Value} {st : List Value} {g : mG} {x : Int32} : WP m_X5_offeredBy Q 14 [l0, l1, l2, l3, l4, .int x, l6] st g = WP m_X5_offeredBy Q 16 [l0, l1, l2, l3, l4, .int x, l6] (.int x :: st) g := E_il (i := 5) (n := 2) lo_X5_offeredBy rfl rfl
theorem e_X5_offeredBy_16 {Q : mQ} {l0 l1 l2 l3 l5 l6 : Value} {st : List Value} {g : mG} {x : Int32} : WP m_X5_offeredBy Q 16 [l0, l1, l2, l3, .int x, l5, l6] st g = WP m_X5_offeredBy Q 18 [l0, l1, l2, l3, .int x, l5, l6] (.int x :: st) g := E_il (i := 4) (n := 2) lo_X5_offeredBy rfl rfl
theorem e_X5_offeredBy_18 {Q : mQ} {ls st : List Value} {g : mG} {x y : Int32} : WP m_X5_offeredBy Q 18 ls (.int y :: .int x :: st) g = ((y ≤ x → WP m_X5_offeredBy Q 53 ls st g) ∧ (¬ (y ≤ x) → WP m_X5_offeredBy Q 21 ls st g)) := E_I2 (c := fun x y => y ≤ x) (t := 53) lo_X5_offeredBy rfl
theorem e_X5_offeredBy_21 {Q : mQ} {l0 l1 l2 l4 l5 l6 : Value} {st : List Value} {g : mG} {x : Nat} : WP m_X5_offeredBy Q 21 [l0, l1, l2, .ref x, l4, l5, l6] st g = WP m_X5_offeredBy Q 22 [l0, l1, l2, .ref x, l4, l5, l6] (.ref x :: st) g := E_al (i := 3) (n := 1) lo_X5_offeredBy rfl rfl
theorem e_X5_offeredBy_21n {Q : mQ} {l0 l1 l2 l4 l5 l6 : Value} {st : List Value} {g : mG} : WP m_X5_offeredBy Q 21 [l0, l1, l2, .null, l4, l5, l6] st g = WP m_X5_offeredBy Q 22 [l0, l1, l2, .null, l4, l5, l6] (.null :: st) g := E_aln (i := 3) (n := 1) lo_X5_offeredBy rfl rfl
theorem e_X5_offeredBy_22 {Q : mQ} {l0 l1 l2 l3 l4 l6 : Value} {st : List Value} {g : mG} {x : Int32} : WP m_X5_offeredBy Q 22 [l0, l1, l2, l3, l4, .int x, l6] st g = WP m_X5_offeredBy Q 24 [l0, l1, l2, l3, l4, .int x, l6] (.int x :: st) g := E_il (i := 5) (n := 2) lo_X5_offeredBy rfl rfl
theorem e_X5_offeredBy_24 {Q : mQ} {ls st : List Value} {g : mG} {a : Nat} {i : Int32} : WP m_X5_offeredBy Q 24 ls (.int i :: .ref a :: st) g = ((gK g a = 15 ∧ vp_in i (gN g a) ∧ gR g a i.toNatClampNeg ≠ 0) ∧ WP m_X5_offeredBy Q 25 ls (.ref (gR g a i.toNatClampNeg) :: st) g) := E_aald lo_X5_offeredBy rfl
theorem e_X5_offeredBy_25 {Q : mQ} {l0 l1 l2 l3 l4 l5 l6 : Value} {st : List Value} {g : mG} {x : Nat} : WP m_X5_offeredBy Q 25 [l0, l1, l2, l3, l4, l5, l6] (.ref x :: st) g = (nl1 l5 ∧ WP m_X5_offeredBy Q 27 [l0, l1, l2, l3, l4, l5, .ref x] st g) := E_as (i := 6) (n := 2) lo_X5_offeredBy rfl (Nat.le_of_ble_eq_true rfl)
theorem e_X5_offeredBy_25n {Q : mQ} {l0 l1 l2 l3 l4 l5 l6 : Value} {st : List Value} {g : mG} : WP m_X5_offeredBy Q 25 [l0, l1, l2, l3, l4, l5, l6] (.null :: st) g = (nl1 l5 ∧ WP m_X5_offeredBy Q 27 [l0, l1, l2, l3, l4, l5, .null] st g) := E_asn (i := 6) (n := 2) lo_X5_offeredBy rfl (Nat.le_of_ble_eq_true rfl)
theorem e_X5_offeredBy_27 {Q : mQ} {l0 l1 l2 l3 l4 l5 : Value} {st : List Value} {g : mG} {x : Nat} : WP m_X5_offeredBy Q 27 [l0, l1, l2, l3, l4, l5, .ref x] st g = WP m_X5_offeredBy Q 29 [l0, l1, l2, l3, l4, l5, .ref x] (.ref x :: st) g := E_al (i := 6) (n := 2) lo_X5_offeredBy rfl rfl
theorem e_X5_offeredBy_27n {Q : mQ} {l0 l1 l2 l3 l4 l5 : Value} {st : List Value} {g : mG} : WP m_X5_offeredBy Q 27 [l0, l1, l2, l3, l4, l5, .null] st g = WP m_X5_offeredBy Q 29 [l0, l1, l2, l3, l4, l5, .null] (.null :: st) g := E_aln (i := 6) (n := 2) lo_X5_offeredBy rfl rfl
theorem e_X5_offeredBy_29 {Q : mQ} {ls st : List Value} {g : mG} {a : Nat} : WP m_X5_offeredBy Q 29 ls (.ref a :: st) g = (gK g a = 3 ∧ WP m_X5_offeredBy Q 32 ls (.int (gI g a 2) :: st) g) := E_gI lo_X5_offeredBy rfl
theorem e_X5_offeredBy_32 {Q : mQ} {l0 l2 l3 l4 l5 l6 : Value} {st : List Value} {g : mG} {x : Int32} : WP m_X5_offeredBy Q 32 [l0, .int x, l2, l3, l4, l5, l6] st g = WP m_X5_offeredBy Q 33 [l0, .int x, l2, l3, l4, l5, l6] (.int x :: st) g := E_il (i := 1) (n := 1) lo_X5_offeredBy rfl rfl
theorem e_X5_offeredBy_33 {Q : mQ} {ls st : List Value} {g : mG} {x y : Int32} : WP m_X5_offeredBy Q 33 ls (.int y :: .int x :: st) g = ((¬ x = y → WP m_X5_offeredBy Q 47 ls st g) ∧ (¬ (¬ x = y) → WP m_X5_offeredBy Q 36 ls st g)) := E_I2 (c := fun x y => ¬ x = y) (t := 47) lo_X5_offeredBy rfl
theorem e_X5_offeredBy_36 {Q : mQ} {l0 l1 l3 l4 l5 l6 : Value} {st : List Value} {g : mG} {x : Int32} : WP m_X5_offeredBy Q 36 [l0, l1, .int x, l3, l4, l5, l6] st g = WP m_X5_offeredBy Q 37 [l0, l1, .int x, l3, l4, l5, l6] (.int x :: st) g := E_il (i := 2) (n := 1) lo_X5_offeredBy rfl rfl
theorem e_X5_offeredBy_37 {Q : mQ} {l0 l1 l2 l3 l4 l5 : Value} {st : List Value} {g : mG} {x : Nat} : WP m_X5_offeredBy Q 37 [l0, l1, l2, l3, l4, l5, .ref x] st g = WP m_X5_offeredBy Q 39 [l0, l1, l2, l3, l4, l5, .ref x] (.ref x :: st) g := E_al (i := 6) (n := 2) lo_X5_offeredBy rfl rfl
theorem e_X5_offeredBy_37n {Q : mQ} {l0 l1 l2 l3 l4 l5 : Value} {st : List Value} {g : mG} : WP m_X5_offeredBy Q 37 [l0, l1, l2, l3, l4, l5, .null] st g = WP m_X5_offeredBy Q 39 [l0, l1, l2, l3, l4, l5, .null] (.null :: st) g := E_aln (i := 6) (n := 2) lo_X5_offeredBy rfl rfl
theorem e_X5_offeredBy_39 {Q : mQ} {ls st : List Value} {g : mG} {a : Nat} : WP m_X5_offeredBy Q 39 ls (.ref a :: st) g = ((gK g a = 3 ∧ gR g a 5 ≠ 0) ∧ WP m_X5_offeredBy Q 42 ls (.ref (gR g a 5) :: st) g) := E_gR lo_X5_offeredBy rfl
theorem e_X5_offeredBy_42 {Q : mQ} {ls st : List Value} {g : mG} {a : Nat} : WP m_X5_offeredBy Q 42 ls (.ref a :: st) g = (gK g a = 5 ∧ WP m_X5_offeredBy Q 45 ls (.int (gI g a 2) :: st) g) := E_gI lo_X5_offeredBy rfl
theorem e_X5_offeredBy_45 {Q : mQ} {ls st : List Value} {g : mG} {x y : Int32} : WP m_X5_offeredBy Q 45 ls (.int y :: .int x :: st) g = WP m_X5_offeredBy Q 46 ls (.int (x + y) :: st) g := E_b2 (f := fun x y => x + y) lo_X5_offeredBy rfl
theorem e_X5_offeredBy_46 {Q : mQ} {l0 l1 l2 l3 l4 l5 l6 : Value} {st : List Value} {g : mG} {x : Int32} : WP m_X5_offeredBy Q 46 [l0, l1, l2, l3, l4, l5, l6] (.int x :: st) g = (nl1 l1 ∧ WP m_X5_offeredBy Q 47 [l0, l1, .int x, l3, l4, l5, l6] st g) := E_is (i := 2) (n := 1) lo_X5_offeredBy rfl (Nat.le_of_ble_eq_true rfl)
theorem e_X5_offeredBy_47 {Q : mQ} {l0 l1 l2 l3 l4 l6 : Value} {st : List Value} {g : mG} {x : Int32} : WP m_X5_offeredBy Q 47 [l0, l1, l2, l3, l4, .int x, l6] st g = (nl1 l4 ∧ WP m_X5_offeredBy Q 50 [l0, l1, l2, l3, l4, .int (x + nI 1), l6] st g) := E_inc (i := 5) (d := nI 1) lo_X5_offeredBy rfl rfl
theorem e_X5_offeredBy_50 {Q : mQ} {ls st : List Value} {g : mG} : WP m_X5_offeredBy Q 50 ls st g = WP m_X5_offeredBy Q 14 ls st g := E_goto lo_X5_offeredBy rfl
theorem e_X5_offeredBy_53 {Q : mQ} {l0 l1 l3 l4 l5 l6 : Value} {st : List Value} {g : mG} {x : Int32} : WP m_X5_offeredBy Q 53 [l0, l1, .int x, l3, l4, l5, l6] st g = WP m_X5_offeredBy Q 54 [l0, l1, .int x, l3, l4, l5, l6] (.int x :: st) g := E_il (i := 2) (n := 1) lo_X5_offeredBy rfl rfl
theorem e_X5_offeredBy_54 {Q : mQ} {ls : List Value} {g : mG} {v : Int32} : WP m_X5_offeredBy Q 54 ls [.int v] g = Q (some (.int v)) g := E_iret lo_X5_offeredBy rfl
/-! KilnPermits$Town.allPermits()I -/
def m_X5_allPermits : List (Nat × mT) := [(0, tD (f_ic (nI 0) 1)),
  (1, tD (f_is 1 1)),
  (2, tD (f_ic (nI 0) 1)),
  (3, tD (f_is 2 1)),
  (4, tD (f_il 2 1)),
  (5, tD (f_al 0 1)),
  (6, tD (f_gR 6 12)),
  (9, tD (f_alen)),
  (10, tI2 (fun x y => y ≤ x) 40),
  (13, tD (f_il 1 1)),
  (14, tD (f_al 0 1)),
  (15, tD (f_gR 6 12)),
  (18, tD (f_il 2 1)),
  (19, tD (f_aald 14)),
  (20, tD (f_gR 1 7)),
  (23, tD (f_gI 5 2)),
  (26, tD (f_al 0 1)),
  (27, tD (f_il 2 1)),
  (28, tC w_X5_offeredBy 6 2),
  (31, tD (f_b2 fun x y => x + y)),
  (32, tD (f_b2 fun x y => x + y)),
  (33, tD (f_is 1 1)),
  (34, tD (f_inc 2 (nI 1))),
  (37, tD (f_goto 4)),
  (40, tD (f_il 1 1)),
  (41, tR f_iret)]
abbrev w_X5_allPermits : mS := wm m_X5_allPermits 1 2
set_option maxRecDepth 100000 in
theorem lo_X5_allPermits : locs_ok m_X5_allPermits := List.forall_mem_cons.mpr ⟨loc_D mo_ic,
  List.forall_mem_cons.mpr ⟨loc_D mo_is,
  List.forall_mem_cons.mpr ⟨loc_D mo_ic,
  List.forall_mem_cons.mpr ⟨loc_D mo_is,
  List.forall_mem_cons.mpr ⟨loc_D mo_il,
  List.forall_mem_cons.mpr ⟨loc_D mo_al,
  List.forall_mem_cons.mpr ⟨loc_D mo_gR,
  List.forall_mem_cons.mpr ⟨loc_D mo_alen,
  List.forall_mem_cons.mpr ⟨loc_I2,
  List.forall_mem_cons.mpr ⟨loc_D mo_il,
  List.forall_mem_cons.mpr ⟨loc_D mo_al,
  List.forall_mem_cons.mpr ⟨loc_D mo_gR,
  List.forall_mem_cons.mpr ⟨loc_D mo_il,
  List.forall_mem_cons.mpr ⟨loc_D mo_aald,
  List.forall_mem_cons.mpr ⟨loc_D mo_gR,
  List.forall_mem_cons.mpr ⟨loc_D mo_gI,
  List.forall_mem_cons.mpr ⟨loc_D mo_al,
  List.forall_mem_cons.mpr ⟨loc_D mo_il,
  List.forall_mem_cons.mpr ⟨loc_C sm_X5_offeredBy.1,
  List.forall_mem_cons.mpr ⟨loc_D mo_b2,
  List.forall_mem_cons.mpr ⟨loc_D mo_b2,
  List.forall_mem_cons.mpr ⟨loc_D mo_is,
  List.forall_mem_cons.mpr ⟨loc_D mo_inc,
  List.forall_mem_cons.mpr ⟨loc_D mo_goto,
  List.forall_mem_cons.mpr ⟨loc_D mo_il,
  List.forall_mem_cons.mpr ⟨loc_R,
  fun _ h => absurd h List.not_mem_nil⟩⟩⟩⟩⟩⟩⟩⟩⟩⟩⟩⟩⟩⟩⟩⟩⟩⟩⟩⟩⟩⟩⟩⟩⟩⟩
set_option maxRecDepth 100000 in
theorem sm_X5_allPermits : SM yX5_allPermits cX5_allPermits 3 (some .int) 2 w_X5_allPermits := SM_of' RX5 "allPermits" rfl rfl (by decide) (by decide) (by decide) lo_X5_allPermits (List.forall_mem_cons.mpr ⟨STP.r mo_ic (q_iconst dX5_allPermits_0 (by decide)),
  List.forall_mem_cons.mpr ⟨STP.r mo_is (q_istore_n dX5_allPermits_1 rfl),
  List.forall_mem_cons.mpr ⟨STP.r mo_ic (q_iconst dX5_allPermits_2 (by decide)),
  List.forall_mem_cons.mpr ⟨STP.r mo_is (q_istore_n dX5_allPermits_3 rfl),
  List.forall_mem_cons.mpr ⟨STP.r mo_il (q_iload_n dX5_allPermits_4 rfl),
  List.forall_mem_cons.mpr ⟨STP.r mo_al (q_aload_n dX5_allPermits_5 rfl),
  List.forall_mem_cons.mpr ⟨STP.r mo_gR (q_gR ⟨by decide, by decide⟩ (by decide) rfl (by decide) kf_X5_29 dX5_allPermits_6),
  List.forall_mem_cons.mpr ⟨STP.r mo_alen (q_alen dX5_allPermits_9),
  List.forall_mem_cons.mpr ⟨(q_ic_ge dX5_allPermits_10 (by decide)).r,
  List.forall_mem_cons.mpr ⟨STP.r mo_il (q_iload_n dX5_allPermits_13 rfl),
  List.forall_mem_cons.mpr ⟨STP.r mo_al (q_aload_n dX5_allPermits_14 rfl),
  List.forall_mem_cons.mpr ⟨STP.r mo_gR (q_gR ⟨by decide, by decide⟩ (by decide) rfl (by decide) kf_X5_29 dX5_allPermits_15),
  List.forall_mem_cons.mpr ⟨STP.r mo_il (q_iload_n dX5_allPermits_18 rfl),
  List.forall_mem_cons.mpr ⟨STP.r mo_aald (q_aald ⟨by decide, by decide⟩ dX5_allPermits_19),
  List.forall_mem_cons.mpr ⟨STP.r mo_gR (q_gR ⟨by decide, by decide⟩ (by decide) rfl (by decide) kf_X5_87 dX5_allPermits_20),
  List.forall_mem_cons.mpr ⟨STP.r mo_gI (q_gI ⟨by decide, by decide⟩ (by decide) rfl kf_X5_111 dX5_allPermits_23),
  List.forall_mem_cons.mpr ⟨STP.r mo_al (q_aload_n dX5_allPermits_26 rfl),
  List.forall_mem_cons.mpr ⟨STP.r mo_il (q_iload_n dX5_allPermits_27 rfl),
  List.forall_mem_cons.mpr ⟨(snd_CV sm_X5_offeredBy ⟨by decide, by decide⟩ rfl km_X5_203 kt_X5_offeredBy kv_X5_offeredBy rfl ki_X5 kx_X5_offeredBy ⟨by decide, by decide, by decide +kernel⟩ (by decide) (by decide) dX5_allPermits_28).r,
  List.forall_mem_cons.mpr ⟨STP.r mo_b2 (q_iadd dX5_allPermits_31),
  List.forall_mem_cons.mpr ⟨STP.r mo_b2 (q_iadd dX5_allPermits_32),
  List.forall_mem_cons.mpr ⟨STP.r mo_is (q_istore_n dX5_allPermits_33 rfl),
  List.forall_mem_cons.mpr ⟨STP.r mo_inc (q_inc dX5_allPermits_34 (by decide)),
  List.forall_mem_cons.mpr ⟨STP.r mo_goto (q_goto dX5_allPermits_37 (by decide)),
  List.forall_mem_cons.mpr ⟨STP.r mo_il (q_iload_n dX5_allPermits_40 rfl),
  List.forall_mem_cons.mpr ⟨r_iret dX5_allPermits_41,
  fun _ h => absurd h List.not_mem_nil⟩⟩⟩⟩⟩⟩⟩⟩⟩⟩⟩⟩⟩⟩⟩⟩⟩⟩⟩⟩⟩⟩⟩⟩⟩⟩)
theorem e_X5_allPermits_0 {Q : mQ} {ls st : List Value} {g : mG} : WP m_X5_allPermits Q 0 ls st g = WP m_X5_allPermits Q 1 ls (.int (nI 0) :: st) g := E_ic (v := nI 0) (n := 1) lo_X5_allPermits rfl
theorem e_X5_allPermits_1 {Q : mQ} {l0 l1 l2 : Value} {st : List Value} {g : mG} {x : Int32} : WP m_X5_allPermits Q 1 [l0, l1, l2] (.int x :: st) g = (nl1 l0 ∧ WP m_X5_allPermits Q 2 [l0, .int x, l2] st g) := E_is (i := 1) (n := 1) lo_X5_allPermits rfl (Nat.le_of_ble_eq_true rfl)
theorem e_X5_allPermits_2 {Q : mQ} {ls st : List Value} {g : mG} : WP m_X5_allPermits Q 2 ls st g = WP m_X5_allPermits Q 3 ls (.int (nI 0) :: st) g := E_ic (v := nI 0) (n := 1) lo_X5_allPermits rfl
theorem e_X5_allPermits_3 {Q : mQ} {l0 l1 l2 : Value} {st : List Value} {g : mG} {x : Int32} : WP m_X5_allPermits Q 3 [l0, l1, l2] (.int x :: st) g = (nl1 l1 ∧ WP m_X5_allPermits Q 4 [l0, l1, .int x] st g) := E_is (i := 2) (n := 1) lo_X5_allPermits rfl (Nat.le_of_ble_eq_true rfl)
theorem e_X5_allPermits_4 {Q : mQ} {l0 l1 : Value} {st : List Value} {g : mG} {x : Int32} : WP m_X5_allPermits Q 4 [l0, l1, .int x] st g = WP m_X5_allPermits Q 5 [l0, l1, .int x] (.int x :: st) g := E_il (i := 2) (n := 1) lo_X5_allPermits rfl rfl
theorem e_X5_allPermits_5 {Q : mQ} {l1 l2 : Value} {st : List Value} {g : mG} {x : Nat} : WP m_X5_allPermits Q 5 [.ref x, l1, l2] st g = WP m_X5_allPermits Q 6 [.ref x, l1, l2] (.ref x :: st) g := E_al (i := 0) (n := 1) lo_X5_allPermits rfl rfl
theorem e_X5_allPermits_6 {Q : mQ} {ls st : List Value} {g : mG} {a : Nat} : WP m_X5_allPermits Q 6 ls (.ref a :: st) g = ((gK g a = 6 ∧ gR g a 12 ≠ 0) ∧ WP m_X5_allPermits Q 9 ls (.ref (gR g a 12) :: st) g) := E_gR lo_X5_allPermits rfl
theorem e_X5_allPermits_9 {Q : mQ} {ls st : List Value} {g : mG} {a : Nat} : WP m_X5_allPermits Q 9 ls (.ref a :: st) g = ((10 ≤ gK g a ∧ gK g a ≤ 17) ∧ WP m_X5_allPermits Q 10 ls (.int (nI (gN g a)) :: st) g) := E_alen lo_X5_allPermits rfl
theorem e_X5_allPermits_10 {Q : mQ} {ls st : List Value} {g : mG} {x y : Int32} : WP m_X5_allPermits Q 10 ls (.int y :: .int x :: st) g = ((y ≤ x → WP m_X5_allPermits Q 40 ls st g) ∧ (¬ (y ≤ x) → WP m_X5_allPermits Q 13 ls st g)) := E_I2 (c := fun x y => y ≤ x) (t := 40) lo_X5_allPermits rfl
theorem e_X5_allPermits_13 {Q : mQ} {l0 l2 : Value} {st : List Value} {g : mG} {x : Int32} : WP m_X5_allPermits Q 13 [l0, .int x, l2] st g = WP m_X5_allPermits Q 14 [l0, .int x, l2] (.int x :: st) g := E_il (i := 1) (n := 1) lo_X5_allPermits rfl rfl
theorem e_X5_allPermits_14 {Q : mQ} {l1 l2 : Value} {st : List Value} {g : mG} {x : Nat} : WP m_X5_allPermits Q 14 [.ref x, l1, l2] st g = WP m_X5_allPermits Q 15 [.ref x, l1, l2] (.ref x :: st) g := E_al (i := 0) (n := 1) lo_X5_allPermits rfl rfl
theorem e_X5_allPermits_15 {Q : mQ} {ls st : List Value} {g : mG} {a : Nat} : WP m_X5_allPermits Q 15 ls (.ref a :: st) g = ((gK g a = 6 ∧ gR g a 12 ≠ 0) ∧ WP m_X5_allPermits Q 18 ls (.ref (gR g a 12) :: st) g) := E_gR lo_X5_allPermits rfl
theorem e_X5_allPermits_18 {Q : mQ} {l0 l1 : Value} {st : List Value} {g : mG} {x : Int32} : WP m_X5_allPermits Q 18 [l0, l1, .int x] st g = WP m_X5_allPermits Q 19 [l0, l1, .int x] (.int x :: st) g := E_il (i := 2) (n := 1) lo_X5_allPermits rfl rfl
theorem e_X5_allPermits_19 {Q : mQ} {ls st : List Value} {g : mG} {a : Nat} {i : Int32} : WP m_X5_allPermits Q 19 ls (.int i :: .ref a :: st) g = ((gK g a = 14 ∧ vp_in i (gN g a) ∧ gR g a i.toNatClampNeg ≠ 0) ∧ WP m_X5_allPermits Q 20 ls (.ref (gR g a i.toNatClampNeg) :: st) g) := E_aald lo_X5_allPermits rfl
theorem e_X5_allPermits_20 {Q : mQ} {ls st : List Value} {g : mG} {a : Nat} : WP m_X5_allPermits Q 20 ls (.ref a :: st) g = ((gK g a = 1 ∧ gR g a 7 ≠ 0) ∧ WP m_X5_allPermits Q 23 ls (.ref (gR g a 7) :: st) g) := E_gR lo_X5_allPermits rfl
theorem e_X5_allPermits_23 {Q : mQ} {ls st : List Value} {g : mG} {a : Nat} : WP m_X5_allPermits Q 23 ls (.ref a :: st) g = (gK g a = 5 ∧ WP m_X5_allPermits Q 26 ls (.int (gI g a 2) :: st) g) := E_gI lo_X5_allPermits rfl
theorem e_X5_allPermits_26 {Q : mQ} {l1 l2 : Value} {st : List Value} {g : mG} {x : Nat} : WP m_X5_allPermits Q 26 [.ref x, l1, l2] st g = WP m_X5_allPermits Q 27 [.ref x, l1, l2] (.ref x :: st) g := E_al (i := 0) (n := 1) lo_X5_allPermits rfl rfl
theorem e_X5_allPermits_27 {Q : mQ} {l0 l1 : Value} {st : List Value} {g : mG} {x : Int32} : WP m_X5_allPermits Q 27 [l0, l1, .int x] st g = WP m_X5_allPermits Q 28 [l0, l1, .int x] (.int x :: st) g := E_il (i := 2) (n := 1) lo_X5_allPermits rfl rfl
theorem e_X5_allPermits_28 {Q : mQ} {ls st : List Value} {g : mG} {b : Nat} {a0 : Value} : WP m_X5_allPermits Q 28 ls (a0 :: .ref b :: st) g = (st.length ≤ 4 ∧ gK g b = 6 ∧ stbs g ls ∧ stbs g st ∧ w_X5_offeredBy [.ref b, a0] g (fun v g' => WP m_X5_allPermits Q 31 ls (v.toList ++ st) g')) := E_CV (ar := [a0, .ref b]) lo_X5_allPermits rfl rfl rfl (by decide)
theorem e_X5_allPermits_31 {Q : mQ} {ls st : List Value} {g : mG} {x y : Int32} : WP m_X5_allPermits Q 31 ls (.int y :: .int x :: st) g = WP m_X5_allPermits Q 32 ls (.int (x + y) :: st) g := E_b2 (f := fun x y => x + y) lo_X5_allPermits rfl
theorem e_X5_allPermits_32 {Q : mQ} {ls st : List Value} {g : mG} {x y : Int32} : WP m_X5_allPermits Q 32 ls (.int y :: .int x :: st) g = WP m_X5_allPermits Q 33 ls (.int (x + y) :: st) g := E_b2 (f := fun x y => x + y) lo_X5_allPermits rfl
theorem e_X5_allPermits_33 {Q : mQ} {l0 l1 l2 : Value} {st : List Value} {g : mG} {x : Int32} : WP m_X5_allPermits Q 33 [l0, l1, l2] (.int x :: st) g = (nl1 l0 ∧ WP m_X5_allPermits Q 34 [l0, .int x, l2] st g) := E_is (i := 1) (n := 1) lo_X5_allPermits rfl (Nat.le_of_ble_eq_true rfl)
theorem e_X5_allPermits_34 {Q : mQ} {l0 l1 : Value} {st : List Value} {g : mG} {x : Int32} : WP m_X5_allPermits Q 34 [l0, l1, .int x] st g = (nl1 l1 ∧ WP m_X5_allPermits Q 37 [l0, l1, .int (x + nI 1)] st g) := E_inc (i := 2) (d := nI 1) lo_X5_allPermits rfl rfl
theorem e_X5_allPermits_37 {Q : mQ} {ls st : List Value} {g : mG} : WP m_X5_allPermits Q 37 ls st g = WP m_X5_allPermits Q 4 ls st g := E_goto lo_X5_allPermits rfl
theorem e_X5_allPermits_40 {Q : mQ} {l0 l2 : Value} {st : List Value} {g : mG} {x : Int32} : WP m_X5_allPermits Q 40 [l0, .int x, l2] st g = WP m_X5_allPermits Q 41 [l0, .int x, l2] (.int x :: st) g := E_il (i := 1) (n := 1) lo_X5_allPermits rfl rfl
theorem e_X5_allPermits_41 {Q : mQ} {ls : List Value} {g : mG} {v : Int32} : WP m_X5_allPermits Q 41 ls [.int v] g = Q (some (.int v)) g := E_iret lo_X5_allPermits rfl
/-! KilnPermits$Town.errorOf(ZIII)I -/
def m_X5_errorOf : List (Nat × mT) := [(0, tD (f_al 0 1)),
  (1, tD (f_il 2 1)),
  (2, tC w_X5_kilnAt 6 2),
  (5, tD (f_as 5 2)),
  (7, tD (f_al 5 2)),
  (9, tD (f_ifn 14 false)),
  (12, tD (f_ic ((-1)) 1)),
  (13, tR f_iret),
  (14, tD (f_il 3 1)),
  (15, tD (f_ic (nI 1) 1)),
  (16, tD (f_ic (nI 999) 3)),
  (19, tC w_X6_isWithin 0 3),
  (22, tI1 (fun x => x = 0) 45),
  (25, tD (f_il 4 2)),
  (27, tD (f_al 0 1)),
  (28, tD (f_gR 6 11)),
  (31, tD (f_ic (nI 0) 1)),
  (32, tD (f_iald)),
  (33, tD (f_al 0 1)),
  (34, tD (f_gR 6 11)),
  (37, tD (f_ic (nI 1) 1)),
  (38, tD (f_iald)),
  (39, tC w_X6_isWithin 0 3),
  (42, tI1 (fun x => ¬ x = 0) 48),
  (45, tD (f_ic ((-2)) 2)),
  (47, tR f_iret),
  (48, tD (f_il 1 1)),
  (49, tI1 (fun x => x = 0) 72),
  (52, tD (f_al 5 2)),
  (54, tD (f_gI 1 0)),
  (57, tD (f_il 3 1)),
  (58, tD (f_il 4 2)),
  (60, tD (f_b2 fun x y => x * y)),
  (61, tI2 (fun x y => x < y) 68),
  (64, tD (f_ic (nI 1) 1)),
  (65, tD (f_goto 89)),
  (68, tD (f_ic (nI 0) 1)),
  (69, tD (f_goto 89)),
  (72, tD (f_al 5 2)),
  (74, tD (f_gR 1 7)),
  (77, tD (f_gI 5 2)),
  (80, tD (f_il 3 1)),
  (81, tI2 (fun x y => x < y) 88),
  (84, tD (f_ic (nI 1) 1)),
  (85, tD (f_goto 89)),
  (88, tD (f_ic (nI 0) 1)),
  (89, tD (f_is 6 2)),
  (91, tD (f_il 6 2)),
  (93, tI1 (fun x => x = 0) 100),
  (96, tD (f_ic (nI 0) 1)),
  (97, tD (f_goto 102)),
  (100, tD (f_ic ((-3)) 2)),
  (102, tR f_iret)]
abbrev w_X5_errorOf : mS := wm m_X5_errorOf 5 2
set_option maxRecDepth 100000 in
theorem lo_X5_errorOf : locs_ok m_X5_errorOf := List.forall_mem_cons.mpr ⟨loc_D mo_al,
  List.forall_mem_cons.mpr ⟨loc_D mo_il,
  List.forall_mem_cons.mpr ⟨loc_C sm_X5_kilnAt.1,
  List.forall_mem_cons.mpr ⟨loc_D mo_as,
  List.forall_mem_cons.mpr ⟨loc_D mo_al,
  List.forall_mem_cons.mpr ⟨loc_D mo_ifn,
  List.forall_mem_cons.mpr ⟨loc_D mo_ic,
  List.forall_mem_cons.mpr ⟨loc_R,
  List.forall_mem_cons.mpr ⟨loc_D mo_il,
  List.forall_mem_cons.mpr ⟨loc_D mo_ic,
  List.forall_mem_cons.mpr ⟨loc_D mo_ic,
  List.forall_mem_cons.mpr ⟨loc_C sm_X6_isWithin.1,
  List.forall_mem_cons.mpr ⟨loc_I1,
  List.forall_mem_cons.mpr ⟨loc_D mo_il,
  List.forall_mem_cons.mpr ⟨loc_D mo_al,
  List.forall_mem_cons.mpr ⟨loc_D mo_gR,
  List.forall_mem_cons.mpr ⟨loc_D mo_ic,
  List.forall_mem_cons.mpr ⟨loc_D mo_iald,
  List.forall_mem_cons.mpr ⟨loc_D mo_al,
  List.forall_mem_cons.mpr ⟨loc_D mo_gR,
  List.forall_mem_cons.mpr ⟨loc_D mo_ic,
  List.forall_mem_cons.mpr ⟨loc_D mo_iald,
  List.forall_mem_cons.mpr ⟨loc_C sm_X6_isWithin.1,
  List.forall_mem_cons.mpr ⟨loc_I1,
  List.forall_mem_cons.mpr ⟨loc_D mo_ic,
  List.forall_mem_cons.mpr ⟨loc_R,
  List.forall_mem_cons.mpr ⟨loc_D mo_il,
  List.forall_mem_cons.mpr ⟨loc_I1,
  List.forall_mem_cons.mpr ⟨loc_D mo_al,
  List.forall_mem_cons.mpr ⟨loc_D mo_gI,
  List.forall_mem_cons.mpr ⟨loc_D mo_il,
  List.forall_mem_cons.mpr ⟨loc_D mo_il,
  List.forall_mem_cons.mpr ⟨loc_D mo_b2,
  List.forall_mem_cons.mpr ⟨loc_I2,
  List.forall_mem_cons.mpr ⟨loc_D mo_ic,
  List.forall_mem_cons.mpr ⟨loc_D mo_goto,
  List.forall_mem_cons.mpr ⟨loc_D mo_ic,
  List.forall_mem_cons.mpr ⟨loc_D mo_goto,
  List.forall_mem_cons.mpr ⟨loc_D mo_al,
  List.forall_mem_cons.mpr ⟨loc_D mo_gR,
  List.forall_mem_cons.mpr ⟨loc_D mo_gI,
  List.forall_mem_cons.mpr ⟨loc_D mo_il,
  List.forall_mem_cons.mpr ⟨loc_I2,
  List.forall_mem_cons.mpr ⟨loc_D mo_ic,
  List.forall_mem_cons.mpr ⟨loc_D mo_goto,
  List.forall_mem_cons.mpr ⟨loc_D mo_ic,
  List.forall_mem_cons.mpr ⟨loc_D mo_is,
  List.forall_mem_cons.mpr ⟨loc_D mo_il,
  List.forall_mem_cons.mpr ⟨loc_I1,
  List.forall_mem_cons.mpr ⟨loc_D mo_ic,
  List.forall_mem_cons.mpr ⟨loc_D mo_goto,
  List.forall_mem_cons.mpr ⟨loc_D mo_ic,
  List.forall_mem_cons.mpr ⟨loc_R,
  fun _ h => absurd h List.not_mem_nil⟩⟩⟩⟩⟩⟩⟩⟩⟩⟩⟩⟩⟩⟩⟩⟩⟩⟩⟩⟩⟩⟩⟩⟩⟩⟩⟩⟩⟩⟩⟩⟩⟩⟩⟩⟩⟩⟩⟩⟩⟩⟩⟩⟩⟩⟩⟩⟩⟩⟩⟩⟩⟩
set_option maxRecDepth 100000 in
theorem sm_X5_errorOf : SM yX5_errorOf cX5_errorOf 7 (some .int) 2 w_X5_errorOf := SM_of' RX5 "errorOf" rfl rfl (by decide) (by decide) (by decide) lo_X5_errorOf (List.forall_mem_cons.mpr ⟨STP.r mo_al (q_aload_n dX5_errorOf_0 rfl),
  List.forall_mem_cons.mpr ⟨STP.r mo_il (q_iload_n dX5_errorOf_1 rfl),
  List.forall_mem_cons.mpr ⟨(snd_CV sm_X5_kilnAt ⟨by decide, by decide⟩ rfl km_X5_128 kt_X5_kilnAt kv_X5_kilnAt rfl ki_X5 kx_X5_kilnAt ⟨by decide, by decide, by decide +kernel⟩ (by decide) (by decide) dX5_errorOf_2).r,
  List.forall_mem_cons.mpr ⟨STP.r mo_as (q_astore dX5_errorOf_5),
  List.forall_mem_cons.mpr ⟨STP.r mo_al (q_aload dX5_errorOf_7),
  List.forall_mem_cons.mpr ⟨STP.r mo_ifn (q_ifnonnull dX5_errorOf_9 (by decide)),
  List.forall_mem_cons.mpr ⟨STP.r mo_ic (q_iconst dX5_errorOf_12 (by decide)),
  List.forall_mem_cons.mpr ⟨r_iret dX5_errorOf_13,
  List.forall_mem_cons.mpr ⟨STP.r mo_il (q_iload_n dX5_errorOf_14 rfl),
  List.forall_mem_cons.mpr ⟨STP.r mo_ic (q_iconst dX5_errorOf_15 (by decide)),
  List.forall_mem_cons.mpr ⟨STP.r mo_ic (q_sipush dX5_errorOf_16 (by decide)),
  List.forall_mem_cons.mpr ⟨(snd_CSN sm_X6_isWithin km_X5_132 ks_X6_isWithin ki_X6 kx_X6_isWithin ⟨by decide, by decide, by decide +kernel⟩ (by decide) (by decide) dX5_errorOf_19).r,
  List.forall_mem_cons.mpr ⟨(q_if_eq dX5_errorOf_22 (by decide)).r,
  List.forall_mem_cons.mpr ⟨STP.r mo_il (q_iload dX5_errorOf_25),
  List.forall_mem_cons.mpr ⟨STP.r mo_al (q_aload_n dX5_errorOf_27 rfl),
  List.forall_mem_cons.mpr ⟨STP.r mo_gR (q_gR ⟨by decide, by decide⟩ (by decide) rfl (by decide) kf_X5_24 dX5_errorOf_28),
  List.forall_mem_cons.mpr ⟨STP.r mo_ic (q_iconst dX5_errorOf_31 (by decide)),
  List.forall_mem_cons.mpr ⟨STP.r mo_iald (q_iald dX5_errorOf_32),
  List.forall_mem_cons.mpr ⟨STP.r mo_al (q_aload_n dX5_errorOf_33 rfl),
  List.forall_mem_cons.mpr ⟨STP.r mo_gR (q_gR ⟨by decide, by decide⟩ (by decide) rfl (by decide) kf_X5_24 dX5_errorOf_34),
  List.forall_mem_cons.mpr ⟨STP.r mo_ic (q_iconst dX5_errorOf_37 (by decide)),
  List.forall_mem_cons.mpr ⟨STP.r mo_iald (q_iald dX5_errorOf_38),
  List.forall_mem_cons.mpr ⟨(snd_CSN sm_X6_isWithin km_X5_132 ks_X6_isWithin ki_X6 kx_X6_isWithin ⟨by decide, by decide, by decide +kernel⟩ (by decide) (by decide) dX5_errorOf_39).r,
  List.forall_mem_cons.mpr ⟨(q_if_ne dX5_errorOf_42 (by decide)).r,
  List.forall_mem_cons.mpr ⟨STP.r mo_ic (q_bipush dX5_errorOf_45 (by decide)),
  List.forall_mem_cons.mpr ⟨r_iret dX5_errorOf_47,
  List.forall_mem_cons.mpr ⟨STP.r mo_il (q_iload_n dX5_errorOf_48 rfl),
  List.forall_mem_cons.mpr ⟨(q_if_eq dX5_errorOf_49 (by decide)).r,
  List.forall_mem_cons.mpr ⟨STP.r mo_al (q_aload dX5_errorOf_52),
  List.forall_mem_cons.mpr ⟨STP.r mo_gI (q_gI ⟨by decide, by decide⟩ (by decide) rfl kf_X5_97 dX5_errorOf_54),
  List.forall_mem_cons.mpr ⟨STP.r mo_il (q_iload_n dX5_errorOf_57 rfl),
  List.forall_mem_cons.mpr ⟨STP.r mo_il (q_iload dX5_errorOf_58),
  List.forall_mem_cons.mpr ⟨STP.r mo_b2 (q_imul dX5_errorOf_60),
  List.forall_mem_cons.mpr ⟨(q_ic_lt dX5_errorOf_61 (by decide)).r,
  List.forall_mem_cons.mpr ⟨STP.r mo_ic (q_iconst dX5_errorOf_64 (by decide)),
  List.forall_mem_cons.mpr ⟨STP.r mo_goto (q_goto dX5_errorOf_65 (by decide)),
  List.forall_mem_cons.mpr ⟨STP.r mo_ic (q_iconst dX5_errorOf_68 (by decide)),
  List.forall_mem_cons.mpr ⟨STP.r mo_goto (q_goto dX5_errorOf_69 (by decide)),
  List.forall_mem_cons.mpr ⟨STP.r mo_al (q_aload dX5_errorOf_72),
  List.forall_mem_cons.mpr ⟨STP.r mo_gR (q_gR ⟨by decide, by decide⟩ (by decide) rfl (by decide) kf_X5_87 dX5_errorOf_74),
  List.forall_mem_cons.mpr ⟨STP.r mo_gI (q_gI ⟨by decide, by decide⟩ (by decide) rfl kf_X5_111 dX5_errorOf_77),
  List.forall_mem_cons.mpr ⟨STP.r mo_il (q_iload_n dX5_errorOf_80 rfl),
  List.forall_mem_cons.mpr ⟨(q_ic_lt dX5_errorOf_81 (by decide)).r,
  List.forall_mem_cons.mpr ⟨STP.r mo_ic (q_iconst dX5_errorOf_84 (by decide)),
  List.forall_mem_cons.mpr ⟨STP.r mo_goto (q_goto dX5_errorOf_85 (by decide)),
  List.forall_mem_cons.mpr ⟨STP.r mo_ic (q_iconst dX5_errorOf_88 (by decide)),
  List.forall_mem_cons.mpr ⟨STP.r mo_is (q_istore dX5_errorOf_89),
  List.forall_mem_cons.mpr ⟨STP.r mo_il (q_iload dX5_errorOf_91),
  List.forall_mem_cons.mpr ⟨(q_if_eq dX5_errorOf_93 (by decide)).r,
  List.forall_mem_cons.mpr ⟨STP.r mo_ic (q_iconst dX5_errorOf_96 (by decide)),
  List.forall_mem_cons.mpr ⟨STP.r mo_goto (q_goto dX5_errorOf_97 (by decide)),
  List.forall_mem_cons.mpr ⟨STP.r mo_ic (q_bipush dX5_errorOf_100 (by decide)),
  List.forall_mem_cons.mpr ⟨r_iret dX5_errorOf_102,
  fun _ h => absurd h List.not_mem_nil⟩⟩⟩⟩⟩⟩⟩⟩⟩⟩⟩⟩⟩⟩⟩⟩⟩⟩⟩⟩⟩⟩⟩⟩⟩⟩⟩⟩⟩⟩⟩⟩⟩⟩⟩⟩⟩⟩⟩⟩⟩⟩⟩⟩⟩⟩⟩⟩⟩⟩⟩⟩⟩)
theorem e_X5_errorOf_0 {Q : mQ} {l1 l2 l3 l4 l5 l6 : Value} {st : List Value} {g : mG} {x : Nat} : WP m_X5_errorOf Q 0 [.ref x, l1, l2, l3, l4, l5, l6] st g = WP m_X5_errorOf Q 1 [.ref x, l1, l2, l3, l4, l5, l6] (.ref x :: st) g := E_al (i := 0) (n := 1) lo_X5_errorOf rfl rfl
theorem e_X5_errorOf_1 {Q : mQ} {l0 l1 l3 l4 l5 l6 : Value} {st : List Value} {g : mG} {x : Int32} : WP m_X5_errorOf Q 1 [l0, l1, .int x, l3, l4, l5, l6] st g = WP m_X5_errorOf Q 2 [l0, l1, .int x, l3, l4, l5, l6] (.int x :: st) g := E_il (i := 2) (n := 1) lo_X5_errorOf rfl rfl
theorem e_X5_errorOf_2 {Q : mQ} {ls st : List Value} {g : mG} {b : Nat} {a0 : Value} : WP m_X5_errorOf Q 2 ls (a0 :: .ref b :: st) g = (st.length ≤ 4 ∧ gK g b = 6 ∧ stbs g ls ∧ stbs g st ∧ w_X5_kilnAt [.ref b, a0] g (fun v g' => WP m_X5_errorOf Q 5 ls (v.toList ++ st) g')) := E_CV (ar := [a0, .ref b]) lo_X5_errorOf rfl rfl rfl (by decide)
theorem e_X5_errorOf_5 {Q : mQ} {l0 l1 l2 l3 l4 l5 l6 : Value} {st : List Value} {g : mG} {x : Nat} : WP m_X5_errorOf Q 5 [l0, l1, l2, l3, l4, l5, l6] (.ref x :: st) g = (nl1 l4 ∧ WP m_X5_errorOf Q 7 [l0, l1, l2, l3, l4, .ref x, l6] st g) := E_as (i := 5) (n := 2) lo_X5_errorOf rfl (Nat.le_of_ble_eq_true rfl)
theorem e_X5_errorOf_5n {Q : mQ} {l0 l1 l2 l3 l4 l5 l6 : Value} {st : List Value} {g : mG} : WP m_X5_errorOf Q 5 [l0, l1, l2, l3, l4, l5, l6] (.null :: st) g = (nl1 l4 ∧ WP m_X5_errorOf Q 7 [l0, l1, l2, l3, l4, .null, l6] st g) := E_asn (i := 5) (n := 2) lo_X5_errorOf rfl (Nat.le_of_ble_eq_true rfl)
theorem e_X5_errorOf_7 {Q : mQ} {l0 l1 l2 l3 l4 l6 : Value} {st : List Value} {g : mG} {x : Nat} : WP m_X5_errorOf Q 7 [l0, l1, l2, l3, l4, .ref x, l6] st g = WP m_X5_errorOf Q 9 [l0, l1, l2, l3, l4, .ref x, l6] (.ref x :: st) g := E_al (i := 5) (n := 2) lo_X5_errorOf rfl rfl
theorem e_X5_errorOf_7n {Q : mQ} {l0 l1 l2 l3 l4 l6 : Value} {st : List Value} {g : mG} : WP m_X5_errorOf Q 7 [l0, l1, l2, l3, l4, .null, l6] st g = WP m_X5_errorOf Q 9 [l0, l1, l2, l3, l4, .null, l6] (.null :: st) g := E_aln (i := 5) (n := 2) lo_X5_errorOf rfl rfl
theorem e_X5_errorOf_9 {Q : mQ} {ls st : List Value} {g : mG} {x : Nat} : WP m_X5_errorOf Q 9 ls (.ref x :: st) g = WP m_X5_errorOf Q 14 ls st g := E_nnr lo_X5_errorOf rfl
theorem e_X5_errorOf_9n {Q : mQ} {ls st : List Value} {g : mG} : WP m_X5_errorOf Q 9 ls (.null :: st) g = WP m_X5_errorOf Q 12 ls st g := E_nnn lo_X5_errorOf rfl
theorem e_X5_errorOf_12 {Q : mQ} {ls st : List Value} {g : mG} : WP m_X5_errorOf Q 12 ls st g = WP m_X5_errorOf Q 13 ls (.int ((-1)) :: st) g := E_ic (v := (-1)) (n := 1) lo_X5_errorOf rfl
theorem e_X5_errorOf_13 {Q : mQ} {ls : List Value} {g : mG} {v : Int32} : WP m_X5_errorOf Q 13 ls [.int v] g = Q (some (.int v)) g := E_iret lo_X5_errorOf rfl
theorem e_X5_errorOf_14 {Q : mQ} {l0 l1 l2 l4 l5 l6 : Value} {st : List Value} {g : mG} {x : Int32} : WP m_X5_errorOf Q 14 [l0, l1, l2, .int x, l4, l5, l6] st g = WP m_X5_errorOf Q 15 [l0, l1, l2, .int x, l4, l5, l6] (.int x :: st) g := E_il (i := 3) (n := 1) lo_X5_errorOf rfl rfl
theorem e_X5_errorOf_15 {Q : mQ} {ls st : List Value} {g : mG} : WP m_X5_errorOf Q 15 ls st g = WP m_X5_errorOf Q 16 ls (.int (nI 1) :: st) g := E_ic (v := nI 1) (n := 1) lo_X5_errorOf rfl
theorem e_X5_errorOf_16 {Q : mQ} {ls st : List Value} {g : mG} : WP m_X5_errorOf Q 16 ls st g = WP m_X5_errorOf Q 19 ls (.int (nI 999) :: st) g := E_ic (v := nI 999) (n := 3) lo_X5_errorOf rfl
theorem e_X5_errorOf_19 {Q : mQ} {ls st : List Value} {g : mG} {a0 a1 a2 : Value} : WP m_X5_errorOf Q 19 ls (a2 :: a1 :: a0 :: st) g = (st.length ≤ 4 ∧ stbs g ls ∧ stbs g st ∧ w_X6_isWithin [a0, a1, a2] g (fun v g' => WP m_X5_errorOf Q 22 ls (v.toList ++ st) g')) := E_CS (ar := [a2, a1, a0]) lo_X5_errorOf rfl rfl rfl
theorem e_X5_errorOf_22 {Q : mQ} {ls st : List Value} {g : mG} {x : Int32} : WP m_X5_errorOf Q 22 ls (.int x :: st) g = ((x = 0 → WP m_X5_errorOf Q 45 ls st g) ∧ (¬ (x = 0) → WP m_X5_errorOf Q 25 ls st g)) := E_I1 (c := fun x => x = 0) (t := 45) lo_X5_errorOf rfl
theorem e_X5_errorOf_25 {Q : mQ} {l0 l1 l2 l3 l5 l6 : Value} {st : List Value} {g : mG} {x : Int32} : WP m_X5_errorOf Q 25 [l0, l1, l2, l3, .int x, l5, l6] st g = WP m_X5_errorOf Q 27 [l0, l1, l2, l3, .int x, l5, l6] (.int x :: st) g := E_il (i := 4) (n := 2) lo_X5_errorOf rfl rfl
theorem e_X5_errorOf_27 {Q : mQ} {l1 l2 l3 l4 l5 l6 : Value} {st : List Value} {g : mG} {x : Nat} : WP m_X5_errorOf Q 27 [.ref x, l1, l2, l3, l4, l5, l6] st g = WP m_X5_errorOf Q 28 [.ref x, l1, l2, l3, l4, l5, l6] (.ref x :: st) g := E_al (i := 0) (n := 1) lo_X5_errorOf rfl rfl
theorem e_X5_errorOf_28 {Q : mQ} {ls st : List Value} {g : mG} {a : Nat} : WP m_X5_errorOf Q 28 ls (.ref a :: st) g = ((gK g a = 6 ∧ gR g a 11 ≠ 0) ∧ WP m_X5_errorOf Q 31 ls (.ref (gR g a 11) :: st) g) := E_gR lo_X5_errorOf rfl
theorem e_X5_errorOf_31 {Q : mQ} {ls st : List Value} {g : mG} : WP m_X5_errorOf Q 31 ls st g = WP m_X5_errorOf Q 32 ls (.int (nI 0) :: st) g := E_ic (v := nI 0) (n := 1) lo_X5_errorOf rfl
theorem e_X5_errorOf_32 {Q : mQ} {ls st : List Value} {g : mG} {a : Nat} {i : Int32} : WP m_X5_errorOf Q 32 ls (.int i :: .ref a :: st) g = ((isIA g a ∧ vp_in i (gN g a)) ∧ WP m_X5_errorOf Q 33 ls (.int (gI g a i.toNatClampNeg) :: st) g) := E_iald lo_X5_errorOf rfl
theorem e_X5_errorOf_33 {Q : mQ} {l1 l2 l3 l4 l5 l6 : Value} {st : List Value} {g : mG} {x : Nat} : WP m_X5_errorOf Q 33 [.ref x, l1, l2, l3, l4, l5, l6] st g = WP m_X5_errorOf Q 34 [.ref x, l1, l2, l3, l4, l5, l6] (.ref x :: st) g := E_al (i := 0) (n := 1) lo_X5_errorOf rfl rfl
theorem e_X5_errorOf_34 {Q : mQ} {ls st : List Value} {g : mG} {a : Nat} : WP m_X5_errorOf Q 34 ls (.ref a :: st) g = ((gK g a = 6 ∧ gR g a 11 ≠ 0) ∧ WP m_X5_errorOf Q 37 ls (.ref (gR g a 11) :: st) g) := E_gR lo_X5_errorOf rfl
theorem e_X5_errorOf_37 {Q : mQ} {ls st : List Value} {g : mG} : WP m_X5_errorOf Q 37 ls st g = WP m_X5_errorOf Q 38 ls (.int (nI 1) :: st) g := E_ic (v := nI 1) (n := 1) lo_X5_errorOf rfl
theorem e_X5_errorOf_38 {Q : mQ} {ls st : List Value} {g : mG} {a : Nat} {i : Int32} : WP m_X5_errorOf Q 38 ls (.int i :: .ref a :: st) g = ((isIA g a ∧ vp_in i (gN g a)) ∧ WP m_X5_errorOf Q 39 ls (.int (gI g a i.toNatClampNeg) :: st) g) := E_iald lo_X5_errorOf rfl
theorem e_X5_errorOf_39 {Q : mQ} {ls st : List Value} {g : mG} {a0 a1 a2 : Value} : WP m_X5_errorOf Q 39 ls (a2 :: a1 :: a0 :: st) g = (st.length ≤ 4 ∧ stbs g ls ∧ stbs g st ∧ w_X6_isWithin [a0, a1, a2] g (fun v g' => WP m_X5_errorOf Q 42 ls (v.toList ++ st) g')) := E_CS (ar := [a2, a1, a0]) lo_X5_errorOf rfl rfl rfl
theorem e_X5_errorOf_42 {Q : mQ} {ls st : List Value} {g : mG} {x : Int32} : WP m_X5_errorOf Q 42 ls (.int x :: st) g = ((¬ x = 0 → WP m_X5_errorOf Q 48 ls st g) ∧ (¬ (¬ x = 0) → WP m_X5_errorOf Q 45 ls st g)) := E_I1 (c := fun x => ¬ x = 0) (t := 48) lo_X5_errorOf rfl
theorem e_X5_errorOf_45 {Q : mQ} {ls st : List Value} {g : mG} : WP m_X5_errorOf Q 45 ls st g = WP m_X5_errorOf Q 47 ls (.int ((-2)) :: st) g := E_ic (v := (-2)) (n := 2) lo_X5_errorOf rfl
theorem e_X5_errorOf_47 {Q : mQ} {ls : List Value} {g : mG} {v : Int32} : WP m_X5_errorOf Q 47 ls [.int v] g = Q (some (.int v)) g := E_iret lo_X5_errorOf rfl
theorem e_X5_errorOf_48 {Q : mQ} {l0 l2 l3 l4 l5 l6 : Value} {st : List Value} {g : mG} {x : Int32} : WP m_X5_errorOf Q 48 [l0, .int x, l2, l3, l4, l5, l6] st g = WP m_X5_errorOf Q 49 [l0, .int x, l2, l3, l4, l5, l6] (.int x :: st) g := E_il (i := 1) (n := 1) lo_X5_errorOf rfl rfl
theorem e_X5_errorOf_49 {Q : mQ} {ls st : List Value} {g : mG} {x : Int32} : WP m_X5_errorOf Q 49 ls (.int x :: st) g = ((x = 0 → WP m_X5_errorOf Q 72 ls st g) ∧ (¬ (x = 0) → WP m_X5_errorOf Q 52 ls st g)) := E_I1 (c := fun x => x = 0) (t := 72) lo_X5_errorOf rfl
theorem e_X5_errorOf_52 {Q : mQ} {l0 l1 l2 l3 l4 l6 : Value} {st : List Value} {g : mG} {x : Nat} : WP m_X5_errorOf Q 52 [l0, l1, l2, l3, l4, .ref x, l6] st g = WP m_X5_errorOf Q 54 [l0, l1, l2, l3, l4, .ref x, l6] (.ref x :: st) g := E_al (i := 5) (n := 2) lo_X5_errorOf rfl rfl
theorem e_X5_errorOf_52n {Q : mQ} {l0 l1 l2 l3 l4 l6 : Value} {st : List Value} {g : mG} : WP m_X5_errorOf Q 52 [l0, l1, l2, l3, l4, .null, l6] st g = WP m_X5_errorOf Q 54 [l0, l1, l2, l3, l4, .null, l6] (.null :: st) g := E_aln (i := 5) (n := 2) lo_X5_errorOf rfl rfl
theorem e_X5_errorOf_54 {Q : mQ} {ls st : List Value} {g : mG} {a : Nat} : WP m_X5_errorOf Q 54 ls (.ref a :: st) g = (gK g a = 1 ∧ WP m_X5_errorOf Q 57 ls (.int (gI g a 0) :: st) g) := E_gI lo_X5_errorOf rfl
theorem e_X5_errorOf_57 {Q : mQ} {l0 l1 l2 l4 l5 l6 : Value} {st : List Value} {g : mG} {x : Int32} : WP m_X5_errorOf Q 57 [l0, l1, l2, .int x, l4, l5, l6] st g = WP m_X5_errorOf Q 58 [l0, l1, l2, .int x, l4, l5, l6] (.int x :: st) g := E_il (i := 3) (n := 1) lo_X5_errorOf rfl rfl
theorem e_X5_errorOf_58 {Q : mQ} {l0 l1 l2 l3 l5 l6 : Value} {st : List Value} {g : mG} {x : Int32} : WP m_X5_errorOf Q 58 [l0, l1, l2, l3, .int x, l5, l6] st g = WP m_X5_errorOf Q 60 [l0, l1, l2, l3, .int x, l5, l6] (.int x :: st) g := E_il (i := 4) (n := 2) lo_X5_errorOf rfl rfl
theorem e_X5_errorOf_60 {Q : mQ} {ls st : List Value} {g : mG} {x y : Int32} : WP m_X5_errorOf Q 60 ls (.int y :: .int x :: st) g = WP m_X5_errorOf Q 61 ls (.int (x * y) :: st) g := E_b2 (f := fun x y => x * y) lo_X5_errorOf rfl
theorem e_X5_errorOf_61 {Q : mQ} {ls st : List Value} {g : mG} {x y : Int32} : WP m_X5_errorOf Q 61 ls (.int y :: .int x :: st) g = ((x < y → WP m_X5_errorOf Q 68 ls st g) ∧ (¬ (x < y) → WP m_X5_errorOf Q 64 ls st g)) := E_I2 (c := fun x y => x < y) (t := 68) lo_X5_errorOf rfl
theorem e_X5_errorOf_64 {Q : mQ} {ls st : List Value} {g : mG} : WP m_X5_errorOf Q 64 ls st g = WP m_X5_errorOf Q 65 ls (.int (nI 1) :: st) g := E_ic (v := nI 1) (n := 1) lo_X5_errorOf rfl
theorem e_X5_errorOf_65 {Q : mQ} {ls st : List Value} {g : mG} : WP m_X5_errorOf Q 65 ls st g = WP m_X5_errorOf Q 89 ls st g := E_goto lo_X5_errorOf rfl
theorem e_X5_errorOf_68 {Q : mQ} {ls st : List Value} {g : mG} : WP m_X5_errorOf Q 68 ls st g = WP m_X5_errorOf Q 69 ls (.int (nI 0) :: st) g := E_ic (v := nI 0) (n := 1) lo_X5_errorOf rfl
theorem e_X5_errorOf_69 {Q : mQ} {ls st : List Value} {g : mG} : WP m_X5_errorOf Q 69 ls st g = WP m_X5_errorOf Q 89 ls st g := E_goto lo_X5_errorOf rfl
theorem e_X5_errorOf_72 {Q : mQ} {l0 l1 l2 l3 l4 l6 : Value} {st : List Value} {g : mG} {x : Nat} : WP m_X5_errorOf Q 72 [l0, l1, l2, l3, l4, .ref x, l6] st g = WP m_X5_errorOf Q 74 [l0, l1, l2, l3, l4, .ref x, l6] (.ref x :: st) g := E_al (i := 5) (n := 2) lo_X5_errorOf rfl rfl
theorem e_X5_errorOf_72n {Q : mQ} {l0 l1 l2 l3 l4 l6 : Value} {st : List Value} {g : mG} : WP m_X5_errorOf Q 72 [l0, l1, l2, l3, l4, .null, l6] st g = WP m_X5_errorOf Q 74 [l0, l1, l2, l3, l4, .null, l6] (.null :: st) g := E_aln (i := 5) (n := 2) lo_X5_errorOf rfl rfl
theorem e_X5_errorOf_74 {Q : mQ} {ls st : List Value} {g : mG} {a : Nat} : WP m_X5_errorOf Q 74 ls (.ref a :: st) g = ((gK g a = 1 ∧ gR g a 7 ≠ 0) ∧ WP m_X5_errorOf Q 77 ls (.ref (gR g a 7) :: st) g) := E_gR lo_X5_errorOf rfl
theorem e_X5_errorOf_77 {Q : mQ} {ls st : List Value} {g : mG} {a : Nat} : WP m_X5_errorOf Q 77 ls (.ref a :: st) g = (gK g a = 5 ∧ WP m_X5_errorOf Q 80 ls (.int (gI g a 2) :: st) g) := E_gI lo_X5_errorOf rfl
theorem e_X5_errorOf_80 {Q : mQ} {l0 l1 l2 l4 l5 l6 : Value} {st : List Value} {g : mG} {x : Int32} : WP m_X5_errorOf Q 80 [l0, l1, l2, .int x, l4, l5, l6] st g = WP m_X5_errorOf Q 81 [l0, l1, l2, .int x, l4, l5, l6] (.int x :: st) g := E_il (i := 3) (n := 1) lo_X5_errorOf rfl rfl
theorem e_X5_errorOf_81 {Q : mQ} {ls st : List Value} {g : mG} {x y : Int32} : WP m_X5_errorOf Q 81 ls (.int y :: .int x :: st) g = ((x < y → WP m_X5_errorOf Q 88 ls st g) ∧ (¬ (x < y) → WP m_X5_errorOf Q 84 ls st g)) := E_I2 (c := fun x y => x < y) (t := 88) lo_X5_errorOf rfl
theorem e_X5_errorOf_84 {Q : mQ} {ls st : List Value} {g : mG} : WP m_X5_errorOf Q 84 ls st g = WP m_X5_errorOf Q 85 ls (.int (nI 1) :: st) g := E_ic (v := nI 1) (n := 1) lo_X5_errorOf rfl
theorem e_X5_errorOf_85 {Q : mQ} {ls st : List Value} {g : mG} : WP m_X5_errorOf Q 85 ls st g = WP m_X5_errorOf Q 89 ls st g := E_goto lo_X5_errorOf rfl
theorem e_X5_errorOf_88 {Q : mQ} {ls st : List Value} {g : mG} : WP m_X5_errorOf Q 88 ls st g = WP m_X5_errorOf Q 89 ls (.int (nI 0) :: st) g := E_ic (v := nI 0) (n := 1) lo_X5_errorOf rfl
theorem e_X5_errorOf_89 {Q : mQ} {l0 l1 l2 l3 l4 l5 l6 : Value} {st : List Value} {g : mG} {x : Int32} : WP m_X5_errorOf Q 89 [l0, l1, l2, l3, l4, l5, l6] (.int x :: st) g = (nl1 l5 ∧ WP m_X5_errorOf Q 91 [l0, l1, l2, l3, l4, l5, .int x] st g) := E_is (i := 6) (n := 2) lo_X5_errorOf rfl (Nat.le_of_ble_eq_true rfl)
theorem e_X5_errorOf_91 {Q : mQ} {l0 l1 l2 l3 l4 l5 : Value} {st : List Value} {g : mG} {x : Int32} : WP m_X5_errorOf Q 91 [l0, l1, l2, l3, l4, l5, .int x] st g = WP m_X5_errorOf Q 93 [l0, l1, l2, l3, l4, l5, .int x] (.int x :: st) g := E_il (i := 6) (n := 2) lo_X5_errorOf rfl rfl
theorem e_X5_errorOf_93 {Q : mQ} {ls st : List Value} {g : mG} {x : Int32} : WP m_X5_errorOf Q 93 ls (.int x :: st) g = ((x = 0 → WP m_X5_errorOf Q 100 ls st g) ∧ (¬ (x = 0) → WP m_X5_errorOf Q 96 ls st g)) := E_I1 (c := fun x => x = 0) (t := 100) lo_X5_errorOf rfl
theorem e_X5_errorOf_96 {Q : mQ} {ls st : List Value} {g : mG} : WP m_X5_errorOf Q 96 ls st g = WP m_X5_errorOf Q 97 ls (.int (nI 0) :: st) g := E_ic (v := nI 0) (n := 1) lo_X5_errorOf rfl
theorem e_X5_errorOf_97 {Q : mQ} {ls st : List Value} {g : mG} : WP m_X5_errorOf Q 97 ls st g = WP m_X5_errorOf Q 102 ls st g := E_goto lo_X5_errorOf rfl
theorem e_X5_errorOf_100 {Q : mQ} {ls st : List Value} {g : mG} : WP m_X5_errorOf Q 100 ls st g = WP m_X5_errorOf Q 102 ls (.int ((-3)) :: st) g := E_ic (v := (-3)) (n := 2) lo_X5_errorOf rfl
theorem e_X5_errorOf_102 {Q : mQ} {ls : List Value} {g : mG} {v : Int32} : WP m_X5_errorOf Q 102 ls [.int v] g = Q (some (.int v)) g := E_iret lo_X5_errorOf rfl
/-! KilnPermits$Town.freePlace()LKilnPermits$Order; -/
def m_X5_freePlace : List (Nat × mT) := [(0, tD (f_al 0 1)),
  (1, tD (f_gR 6 13)),
  (4, tD (f_as 1 1)),
  (5, tD (f_al 1 1)),
  (6, tD (f_alen)),
  (7, tD (f_is 2 1)),
  (8, tD (f_ic (nI 0) 1)),
  (9, tD (f_is 3 1)),
  (10, tD (f_il 3 1)),
  (11, tD (f_il 2 1)),
  (12, tI2 (fun x y => y ≤ x) 37),
  (15, tD (f_al 1 1)),
  (16, tD (f_il 3 1)),
  (17, tD (f_aald 15)),
  (18, tD (f_as 4 2)),
  (20, tD (f_al 4 2)),
  (22, tD (f_gI 3 3)),
  (25, tI1 (fun x => ¬ x = 0) 31),
  (28, tD (f_al 4 2)),
  (30, tR f_aret),
  (31, tD (f_inc 3 (nI 1))),
  (34, tD (f_goto 10)),
  (37, tD (f_nul)),
  (38, tR f_aret)]
abbrev w_X5_freePlace : mS := wm m_X5_freePlace 1 4
set_option maxRecDepth 100000 in
theorem lo_X5_freePlace : locs_ok m_X5_freePlace := List.forall_mem_cons.mpr ⟨loc_D mo_al,
  List.forall_mem_cons.mpr ⟨loc_D mo_gR,
  List.forall_mem_cons.mpr ⟨loc_D mo_as,
  List.forall_mem_cons.mpr ⟨loc_D mo_al,
  List.forall_mem_cons.mpr ⟨loc_D mo_alen,
  List.forall_mem_cons.mpr ⟨loc_D mo_is,
  List.forall_mem_cons.mpr ⟨loc_D mo_ic,
  List.forall_mem_cons.mpr ⟨loc_D mo_is,
  List.forall_mem_cons.mpr ⟨loc_D mo_il,
  List.forall_mem_cons.mpr ⟨loc_D mo_il,
  List.forall_mem_cons.mpr ⟨loc_I2,
  List.forall_mem_cons.mpr ⟨loc_D mo_al,
  List.forall_mem_cons.mpr ⟨loc_D mo_il,
  List.forall_mem_cons.mpr ⟨loc_D mo_aald,
  List.forall_mem_cons.mpr ⟨loc_D mo_as,
  List.forall_mem_cons.mpr ⟨loc_D mo_al,
  List.forall_mem_cons.mpr ⟨loc_D mo_gI,
  List.forall_mem_cons.mpr ⟨loc_I1,
  List.forall_mem_cons.mpr ⟨loc_D mo_al,
  List.forall_mem_cons.mpr ⟨loc_R,
  List.forall_mem_cons.mpr ⟨loc_D mo_inc,
  List.forall_mem_cons.mpr ⟨loc_D mo_goto,
  List.forall_mem_cons.mpr ⟨loc_D mo_nul,
  List.forall_mem_cons.mpr ⟨loc_R,
  fun _ h => absurd h List.not_mem_nil⟩⟩⟩⟩⟩⟩⟩⟩⟩⟩⟩⟩⟩⟩⟩⟩⟩⟩⟩⟩⟩⟩⟩⟩
set_option maxRecDepth 100000 in
theorem sm_X5_freePlace : SM yX5_freePlace cX5_freePlace 5 (some (.object "KilnPermits$Order")) 1 w_X5_freePlace := SM_of' RX5 "freePlace" rfl rfl (by decide) (by decide) (by decide) lo_X5_freePlace (List.forall_mem_cons.mpr ⟨STP.r mo_al (q_aload_n dX5_freePlace_0 rfl),
  List.forall_mem_cons.mpr ⟨STP.r mo_gR (q_gR ⟨by decide, by decide⟩ (by decide) rfl (by decide) kf_X5_35 dX5_freePlace_1),
  List.forall_mem_cons.mpr ⟨STP.r mo_as (q_astore_n dX5_freePlace_4 rfl),
  List.forall_mem_cons.mpr ⟨STP.r mo_al (q_aload_n dX5_freePlace_5 rfl),
  List.forall_mem_cons.mpr ⟨STP.r mo_alen (q_alen dX5_freePlace_6),
  List.forall_mem_cons.mpr ⟨STP.r mo_is (q_istore_n dX5_freePlace_7 rfl),
  List.forall_mem_cons.mpr ⟨STP.r mo_ic (q_iconst dX5_freePlace_8 (by decide)),
  List.forall_mem_cons.mpr ⟨STP.r mo_is (q_istore_n dX5_freePlace_9 rfl),
  List.forall_mem_cons.mpr ⟨STP.r mo_il (q_iload_n dX5_freePlace_10 rfl),
  List.forall_mem_cons.mpr ⟨STP.r mo_il (q_iload_n dX5_freePlace_11 rfl),
  List.forall_mem_cons.mpr ⟨(q_ic_ge dX5_freePlace_12 (by decide)).r,
  List.forall_mem_cons.mpr ⟨STP.r mo_al (q_aload_n dX5_freePlace_15 rfl),
  List.forall_mem_cons.mpr ⟨STP.r mo_il (q_iload_n dX5_freePlace_16 rfl),
  List.forall_mem_cons.mpr ⟨STP.r mo_aald (q_aald ⟨by decide, by decide⟩ dX5_freePlace_17),
  List.forall_mem_cons.mpr ⟨STP.r mo_as (q_astore dX5_freePlace_18),
  List.forall_mem_cons.mpr ⟨STP.r mo_al (q_aload dX5_freePlace_20),
  List.forall_mem_cons.mpr ⟨STP.r mo_gI (q_gI ⟨by decide, by decide⟩ (by decide) rfl kf_X5_154 dX5_freePlace_22),
  List.forall_mem_cons.mpr ⟨(q_if_ne dX5_freePlace_25 (by decide)).r,
  List.forall_mem_cons.mpr ⟨STP.r mo_al (q_aload dX5_freePlace_28),
  List.forall_mem_cons.mpr ⟨r_aret (by first | exact Or.inl ⟨_, rfl⟩ | exact Or.inr ⟨_, rfl⟩) dX5_freePlace_30,
  List.forall_mem_cons.mpr ⟨STP.r mo_inc (q_inc dX5_freePlace_31 (by decide)),
  List.forall_mem_cons.mpr ⟨STP.r mo_goto (q_goto dX5_freePlace_34 (by decide)),
  List.forall_mem_cons.mpr ⟨STP.r mo_nul (q_nul dX5_freePlace_37),
  List.forall_mem_cons.mpr ⟨r_aret (by first | exact Or.inl ⟨_, rfl⟩ | exact Or.inr ⟨_, rfl⟩) dX5_freePlace_38,
  fun _ h => absurd h List.not_mem_nil⟩⟩⟩⟩⟩⟩⟩⟩⟩⟩⟩⟩⟩⟩⟩⟩⟩⟩⟩⟩⟩⟩⟩⟩)
theorem e_X5_freePlace_0 {Q : mQ} {l1 l2 l3 l4 : Value} {st : List Value} {g : mG} {x : Nat} : WP m_X5_freePlace Q 0 [.ref x, l1, l2, l3, l4] st g = WP m_X5_freePlace Q 1 [.ref x, l1, l2, l3, l4] (.ref x :: st) g := E_al (i := 0) (n := 1) lo_X5_freePlace rfl rfl
theorem e_X5_freePlace_1 {Q : mQ} {ls st : List Value} {g : mG} {a : Nat} : WP m_X5_freePlace Q 1 ls (.ref a :: st) g = ((gK g a = 6 ∧ gR g a 13 ≠ 0) ∧ WP m_X5_freePlace Q 4 ls (.ref (gR g a 13) :: st) g) := E_gR lo_X5_freePlace rfl
theorem e_X5_freePlace_4 {Q : mQ} {l0 l1 l2 l3 l4 : Value} {st : List Value} {g : mG} {x : Nat} : WP m_X5_freePlace Q 4 [l0, l1, l2, l3, l4] (.ref x :: st) g = (nl1 l0 ∧ WP m_X5_freePlace Q 5 [l0, .ref x, l2, l3, l4] st g) := E_as (i := 1) (n := 1) lo_X5_freePlace rfl (Nat.le_of_ble_eq_true rfl)
theorem e_X5_freePlace_4n {Q : mQ} {l0 l1 l2 l3 l4 : Value} {st : List Value} {g : mG} : WP m_X5_freePlace Q 4 [l0, l1, l2, l3, l4] (.null :: st) g = (nl1 l0 ∧ WP m_X5_freePlace Q 5 [l0, .null, l2, l3, l4] st g) := E_asn (i := 1) (n := 1) lo_X5_freePlace rfl (Nat.le_of_ble_eq_true rfl)
theorem e_X5_freePlace_5 {Q : mQ} {l0 l2 l3 l4 : Value} {st : List Value} {g : mG} {x : Nat} : WP m_X5_freePlace Q 5 [l0, .ref x, l2, l3, l4] st g = WP m_X5_freePlace Q 6 [l0, .ref x, l2, l3, l4] (.ref x :: st) g := E_al (i := 1) (n := 1) lo_X5_freePlace rfl rfl
theorem e_X5_freePlace_5n {Q : mQ} {l0 l2 l3 l4 : Value} {st : List Value} {g : mG} : WP m_X5_freePlace Q 5 [l0, .null, l2, l3, l4] st g = WP m_X5_freePlace Q 6 [l0, .null, l2, l3, l4] (.null :: st) g := E_aln (i := 1) (n := 1) lo_X5_freePlace rfl rfl
theorem e_X5_freePlace_6 {Q : mQ} {ls st : List Value} {g : mG} {a : Nat} : WP m_X5_freePlace Q 6 ls (.ref a :: st) g = ((10 ≤ gK g a ∧ gK g a ≤ 17) ∧ WP m_X5_freePlace Q 7 ls (.int (nI (gN g a)) :: st) g) := E_alen lo_X5_freePlace rfl
theorem e_X5_freePlace_7 {Q : mQ} {l0 l1 l2 l3 l4 : Value} {st : List Value} {g : mG} {x : Int32} : WP m_X5_freePlace Q 7 [l0, l1, l2, l3, l4] (.int x :: st) g = (nl1 l1 ∧ WP m_X5_freePlace Q 8 [l0, l1, .int x, l3, l4] st g) := E_is (i := 2) (n := 1) lo_X5_freePlace rfl (Nat.le_of_ble_eq_true rfl)
theorem e_X5_freePlace_8 {Q : mQ} {ls st : List Value} {g : mG} : WP m_X5_freePlace Q 8 ls st g = WP m_X5_freePlace Q 9 ls (.int (nI 0) :: st) g := E_ic (v := nI 0) (n := 1) lo_X5_freePlace rfl
theorem e_X5_freePlace_9 {Q : mQ} {l0 l1 l2 l3 l4 : Value} {st : List Value} {g : mG} {x : Int32} : WP m_X5_freePlace Q 9 [l0, l1, l2, l3, l4] (.int x :: st) g = (nl1 l2 ∧ WP m_X5_freePlace Q 10 [l0, l1, l2, .int x, l4] st g) := E_is (i := 3) (n := 1) lo_X5_freePlace rfl (Nat.le_of_ble_eq_true rfl)
theorem e_X5_freePlace_10 {Q : mQ} {l0 l1 l2 l4 : Value} {st : List Value} {g : mG} {x : Int32} : WP m_X5_freePlace Q 10 [l0, l1, l2, .int x, l4] st g = WP m_X5_freePlace Q 11 [l0, l1, l2, .int x, l4] (.int x :: st) g := E_il (i := 3) (n := 1) lo_X5_freePlace rfl rfl
theorem e_X5_freePlace_11 {Q : mQ} {l0 l1 l3 l4 : Value} {st : List Value} {g : mG} {x : Int32} : WP m_X5_freePlace Q 11 [l0, l1, .int x, l3, l4] st g = WP m_X5_freePlace Q 12 [l0, l1, .int x, l3, l4] (.int x :: st) g := E_il (i := 2) (n := 1) lo_X5_freePlace rfl rfl
theorem e_X5_freePlace_12 {Q : mQ} {ls st : List Value} {g : mG} {x y : Int32} : WP m_X5_freePlace Q 12 ls (.int y :: .int x :: st) g = ((y ≤ x → WP m_X5_freePlace Q 37 ls st g) ∧ (¬ (y ≤ x) → WP m_X5_freePlace Q 15 ls st g)) := E_I2 (c := fun x y => y ≤ x) (t := 37) lo_X5_freePlace rfl
theorem e_X5_freePlace_15 {Q : mQ} {l0 l2 l3 l4 : Value} {st : List Value} {g : mG} {x : Nat} : WP m_X5_freePlace Q 15 [l0, .ref x, l2, l3, l4] st g = WP m_X5_freePlace Q 16 [l0, .ref x, l2, l3, l4] (.ref x :: st) g := E_al (i := 1) (n := 1) lo_X5_freePlace rfl rfl
theorem e_X5_freePlace_15n {Q : mQ} {l0 l2 l3 l4 : Value} {st : List Value} {g : mG} : WP m_X5_freePlace Q 15 [l0, .null, l2, l3, l4] st g = WP m_X5_freePlace Q 16 [l0, .null, l2, l3, l4] (.null :: st) g := E_aln (i := 1) (n := 1) lo_X5_freePlace rfl rfl
theorem e_X5_freePlace_16 {Q : mQ} {l0 l1 l2 l4 : Value} {st : List Value} {g : mG} {x : Int32} : WP m_X5_freePlace Q 16 [l0, l1, l2, .int x, l4] st g = WP m_X5_freePlace Q 17 [l0, l1, l2, .int x, l4] (.int x :: st) g := E_il (i := 3) (n := 1) lo_X5_freePlace rfl rfl
theorem e_X5_freePlace_17 {Q : mQ} {ls st : List Value} {g : mG} {a : Nat} {i : Int32} : WP m_X5_freePlace Q 17 ls (.int i :: .ref a :: st) g = ((gK g a = 15 ∧ vp_in i (gN g a) ∧ gR g a i.toNatClampNeg ≠ 0) ∧ WP m_X5_freePlace Q 18 ls (.ref (gR g a i.toNatClampNeg) :: st) g) := E_aald lo_X5_freePlace rfl
theorem e_X5_freePlace_18 {Q : mQ} {l0 l1 l2 l3 l4 : Value} {st : List Value} {g : mG} {x : Nat} : WP m_X5_freePlace Q 18 [l0, l1, l2, l3, l4] (.ref x :: st) g = (nl1 l3 ∧ WP m_X5_freePlace Q 20 [l0, l1, l2, l3, .ref x] st g) := E_as (i := 4) (n := 2) lo_X5_freePlace rfl (Nat.le_of_ble_eq_true rfl)
theorem e_X5_freePlace_18n {Q : mQ} {l0 l1 l2 l3 l4 : Value} {st : List Value} {g : mG} : WP m_X5_freePlace Q 18 [l0, l1, l2, l3, l4] (.null :: st) g = (nl1 l3 ∧ WP m_X5_freePlace Q 20 [l0, l1, l2, l3, .null] st g) := E_asn (i := 4) (n := 2) lo_X5_freePlace rfl (Nat.le_of_ble_eq_true rfl)
theorem e_X5_freePlace_20 {Q : mQ} {l0 l1 l2 l3 : Value} {st : List Value} {g : mG} {x : Nat} : WP m_X5_freePlace Q 20 [l0, l1, l2, l3, .ref x] st g = WP m_X5_freePlace Q 22 [l0, l1, l2, l3, .ref x] (.ref x :: st) g := E_al (i := 4) (n := 2) lo_X5_freePlace rfl rfl
theorem e_X5_freePlace_20n {Q : mQ} {l0 l1 l2 l3 : Value} {st : List Value} {g : mG} : WP m_X5_freePlace Q 20 [l0, l1, l2, l3, .null] st g = WP m_X5_freePlace Q 22 [l0, l1, l2, l3, .null] (.null :: st) g := E_aln (i := 4) (n := 2) lo_X5_freePlace rfl rfl
theorem e_X5_freePlace_22 {Q : mQ} {ls st : List Value} {g : mG} {a : Nat} : WP m_X5_freePlace Q 22 ls (.ref a :: st) g = (gK g a = 3 ∧ WP m_X5_freePlace Q 25 ls (.int (gI g a 3) :: st) g) := E_gI lo_X5_freePlace rfl
theorem e_X5_freePlace_25 {Q : mQ} {ls st : List Value} {g : mG} {x : Int32} : WP m_X5_freePlace Q 25 ls (.int x :: st) g = ((¬ x = 0 → WP m_X5_freePlace Q 31 ls st g) ∧ (¬ (¬ x = 0) → WP m_X5_freePlace Q 28 ls st g)) := E_I1 (c := fun x => ¬ x = 0) (t := 31) lo_X5_freePlace rfl
theorem e_X5_freePlace_28 {Q : mQ} {l0 l1 l2 l3 : Value} {st : List Value} {g : mG} {x : Nat} : WP m_X5_freePlace Q 28 [l0, l1, l2, l3, .ref x] st g = WP m_X5_freePlace Q 30 [l0, l1, l2, l3, .ref x] (.ref x :: st) g := E_al (i := 4) (n := 2) lo_X5_freePlace rfl rfl
theorem e_X5_freePlace_28n {Q : mQ} {l0 l1 l2 l3 : Value} {st : List Value} {g : mG} : WP m_X5_freePlace Q 28 [l0, l1, l2, l3, .null] st g = WP m_X5_freePlace Q 30 [l0, l1, l2, l3, .null] (.null :: st) g := E_aln (i := 4) (n := 2) lo_X5_freePlace rfl rfl
theorem e_X5_freePlace_30 {Q : mQ} {ls : List Value} {g : mG} {v : Nat} : WP m_X5_freePlace Q 30 ls [.ref v] g = Q (some (.ref v)) g := E_aret lo_X5_freePlace rfl
theorem e_X5_freePlace_30n {Q : mQ} {ls : List Value} {g : mG} : WP m_X5_freePlace Q 30 ls [.null] g = Q (some .null) g := E_aretn lo_X5_freePlace rfl
theorem e_X5_freePlace_31 {Q : mQ} {l0 l1 l2 l4 : Value} {st : List Value} {g : mG} {x : Int32} : WP m_X5_freePlace Q 31 [l0, l1, l2, .int x, l4] st g = (nl1 l2 ∧ WP m_X5_freePlace Q 34 [l0, l1, l2, .int (x + nI 1), l4] st g) := E_inc (i := 3) (d := nI 1) lo_X5_freePlace rfl rfl
theorem e_X5_freePlace_34 {Q : mQ} {ls st : List Value} {g : mG} : WP m_X5_freePlace Q 34 ls st g = WP m_X5_freePlace Q 10 ls st g := E_goto lo_X5_freePlace rfl
theorem e_X5_freePlace_37 {Q : mQ} {ls st : List Value} {g : mG} : WP m_X5_freePlace Q 37 ls st g = WP m_X5_freePlace Q 38 ls (.null :: st) g := E_nul lo_X5_freePlace rfl
theorem e_X5_freePlace_38 {Q : mQ} {ls : List Value} {g : mG} {v : Nat} : WP m_X5_freePlace Q 38 ls [.ref v] g = Q (some (.ref v)) g := E_aret lo_X5_freePlace rfl
theorem e_X5_freePlace_38n {Q : mQ} {ls : List Value} {g : mG} : WP m_X5_freePlace Q 38 ls [.null] g = Q (some .null) g := E_aretn lo_X5_freePlace rfl
/-! KilnPermits$Town.bestOf(Z)LKilnPermits$Order; -/
def m_X5_bestOf : List (Nat × mT) := [(0, tD (f_nul)),
  (1, tD (f_as 2 1)),
  (2, tD (f_al 0 1)),
  (3, tD (f_gR 6 13)),
  (6, tD (f_as 3 1)),
  (7, tD (f_al 3 1)),
  (8, tD (f_alen)),
  (9, tD (f_is 4 2)),
  (11, tD (f_ic (nI 0) 1)),
  (12, tD (f_is 5 2)),
  (14, tD (f_il 5 2)),
  (16, tD (f_il 4 2)),
  (18, tI2 (fun x y => y ≤ x) 58),
  (21, tD (f_al 3 1)),
  (22, tD (f_il 5 2)),
  (24, tD (f_aald 15)),
  (25, tD (f_as 6 2)),
  (27, tD (f_al 6 2)),
  (29, tD (f_il 1 1)),
  (30, tC w_X2_standsAs 3 2),
  (33, tI1 (fun x => x = 0) 52),
  (36, tD (f_al 2 1)),
  (37, tD (f_ifn 49 true)),
  (40, tD (f_al 6 2)),
  (42, tD (f_al 2 1)),
  (43, tC w_X2_isBetterThan 3 2),
  (46, tI1 (fun x => x = 0) 52),
  (49, tD (f_al 6 2)),
  (51, tD (f_as 2 1)),
  (52, tD (f_inc 5 (nI 1))),
  (55, tD (f_goto 14)),
  (58, tD (f_al 2 1)),
  (59, tR f_aret)]
abbrev w_X5_bestOf : mS := wm m_X5_bestOf 2 5
set_option maxRecDepth 100000 in
theorem lo_X5_bestOf : locs_ok m_X5_bestOf := List.forall_mem_cons.mpr ⟨loc_D mo_nul,
  List.forall_mem_cons.mpr ⟨loc_D mo_as,
  List.forall_mem_cons.mpr ⟨loc_D mo_al,
  List.forall_mem_cons.mpr ⟨loc_D mo_gR,
  List.forall_mem_cons.mpr ⟨loc_D mo_as,
  List.forall_mem_cons.mpr ⟨loc_D mo_al,
  List.forall_mem_cons.mpr ⟨loc_D mo_alen,
  List.forall_mem_cons.mpr ⟨loc_D mo_is,
  List.forall_mem_cons.mpr ⟨loc_D mo_ic,
  List.forall_mem_cons.mpr ⟨loc_D mo_is,
  List.forall_mem_cons.mpr ⟨loc_D mo_il,
  List.forall_mem_cons.mpr ⟨loc_D mo_il,
  List.forall_mem_cons.mpr ⟨loc_I2,
  List.forall_mem_cons.mpr ⟨loc_D mo_al,
  List.forall_mem_cons.mpr ⟨loc_D mo_il,
  List.forall_mem_cons.mpr ⟨loc_D mo_aald,
  List.forall_mem_cons.mpr ⟨loc_D mo_as,
  List.forall_mem_cons.mpr ⟨loc_D mo_al,
  List.forall_mem_cons.mpr ⟨loc_D mo_il,
  List.forall_mem_cons.mpr ⟨loc_C sm_X2_standsAs.1,
  List.forall_mem_cons.mpr ⟨loc_I1,
  List.forall_mem_cons.mpr ⟨loc_D mo_al,
  List.forall_mem_cons.mpr ⟨loc_D mo_ifn,
  List.forall_mem_cons.mpr ⟨loc_D mo_al,
  List.forall_mem_cons.mpr ⟨loc_D mo_al,
  List.forall_mem_cons.mpr ⟨loc_C sm_X2_isBetterThan.1,
  List.forall_mem_cons.mpr ⟨loc_I1,
  List.forall_mem_cons.mpr ⟨loc_D mo_al,
  List.forall_mem_cons.mpr ⟨loc_D mo_as,
  List.forall_mem_cons.mpr ⟨loc_D mo_inc,
  List.forall_mem_cons.mpr ⟨loc_D mo_goto,
  List.forall_mem_cons.mpr ⟨loc_D mo_al,
  List.forall_mem_cons.mpr ⟨loc_R,
  fun _ h => absurd h List.not_mem_nil⟩⟩⟩⟩⟩⟩⟩⟩⟩⟩⟩⟩⟩⟩⟩⟩⟩⟩⟩⟩⟩⟩⟩⟩⟩⟩⟩⟩⟩⟩⟩⟩⟩
set_option maxRecDepth 100000 in
theorem sm_X5_bestOf : SM yX5_bestOf cX5_bestOf 7 (some (.object "KilnPermits$Order")) 2 w_X5_bestOf := SM_of' RX5 "bestOf" rfl rfl (by decide) (by decide) (by decide) lo_X5_bestOf (List.forall_mem_cons.mpr ⟨STP.r mo_nul (q_nul dX5_bestOf_0),
  List.forall_mem_cons.mpr ⟨STP.r mo_as (q_astore_n dX5_bestOf_1 rfl),
  List.forall_mem_cons.mpr ⟨STP.r mo_al (q_aload_n dX5_bestOf_2 rfl),
  List.forall_mem_cons.mpr ⟨STP.r mo_gR (q_gR ⟨by decide, by decide⟩ (by decide) rfl (by decide) kf_X5_35 dX5_bestOf_3),
  List.forall_mem_cons.mpr ⟨STP.r mo_as (q_astore_n dX5_bestOf_6 rfl),
  List.forall_mem_cons.mpr ⟨STP.r mo_al (q_aload_n dX5_bestOf_7 rfl),
  List.forall_mem_cons.mpr ⟨STP.r mo_alen (q_alen dX5_bestOf_8),
  List.forall_mem_cons.mpr ⟨STP.r mo_is (q_istore dX5_bestOf_9),
  List.forall_mem_cons.mpr ⟨STP.r mo_ic (q_iconst dX5_bestOf_11 (by decide)),
  List.forall_mem_cons.mpr ⟨STP.r mo_is (q_istore dX5_bestOf_12),
  List.forall_mem_cons.mpr ⟨STP.r mo_il (q_iload dX5_bestOf_14),
  List.forall_mem_cons.mpr ⟨STP.r mo_il (q_iload dX5_bestOf_16),
  List.forall_mem_cons.mpr ⟨(q_ic_ge dX5_bestOf_18 (by decide)).r,
  List.forall_mem_cons.mpr ⟨STP.r mo_al (q_aload_n dX5_bestOf_21 rfl),
  List.forall_mem_cons.mpr ⟨STP.r mo_il (q_iload dX5_bestOf_22),
  List.forall_mem_cons.mpr ⟨STP.r mo_aald (q_aald ⟨by decide, by decide⟩ dX5_bestOf_24),
  List.forall_mem_cons.mpr ⟨STP.r mo_as (q_astore dX5_bestOf_25),
  List.forall_mem_cons.mpr ⟨STP.r mo_al (q_aload dX5_bestOf_27),
  List.forall_mem_cons.mpr ⟨STP.r mo_il (q_iload_n dX5_bestOf_29 rfl),
  List.forall_mem_cons.mpr ⟨(snd_CV sm_X2_standsAs ⟨by decide, by decide⟩ rfl km_X5_191 kt_X2_standsAs kv_X2_standsAs rfl ki_X2 kx_X2_standsAs ⟨by decide, by decide, by decide +kernel⟩ (by decide) (by decide) dX5_bestOf_30).r,
  List.forall_mem_cons.mpr ⟨(q_if_eq dX5_bestOf_33 (by decide)).r,
  List.forall_mem_cons.mpr ⟨STP.r mo_al (q_aload_n dX5_bestOf_36 rfl),
  List.forall_mem_cons.mpr ⟨STP.r mo_ifn (q_ifnull dX5_bestOf_37 (by decide)),
  List.forall_mem_cons.mpr ⟨STP.r mo_al (q_aload dX5_bestOf_40),
  List.forall_mem_cons.mpr ⟨STP.r mo_al (q_aload_n dX5_bestOf_42 rfl),
  List.forall_mem_cons.mpr ⟨(snd_CV sm_X2_isBetterThan ⟨by decide, by decide⟩ rfl km_X5_195 kt_X2_isBetterThan kv_X2_isBetterThan rfl ki_X2 kx_X2_isBetterThan ⟨by decide, by decide, by decide +kernel⟩ (by decide) (by decide) dX5_bestOf_43).r,
  List.forall_mem_cons.mpr ⟨(q_if_eq dX5_bestOf_46 (by decide)).r,
  List.forall_mem_cons.mpr ⟨STP.r mo_al (q_aload dX5_bestOf_49),
  List.forall_mem_cons.mpr ⟨STP.r mo_as (q_astore_n dX5_bestOf_51 rfl),
  List.forall_mem_cons.mpr ⟨STP.r mo_inc (q_inc dX5_bestOf_52 (by decide)),
  List.forall_mem_cons.mpr ⟨STP.r mo_goto (q_goto dX5_bestOf_55 (by decide)),
  List.forall_mem_cons.mpr ⟨STP.r mo_al (q_aload_n dX5_bestOf_58 rfl),
  List.forall_mem_cons.mpr ⟨r_aret (by first | exact Or.inl ⟨_, rfl⟩ | exact Or.inr ⟨_, rfl⟩) dX5_bestOf_59,
  fun _ h => absurd h List.not_mem_nil⟩⟩⟩⟩⟩⟩⟩⟩⟩⟩⟩⟩⟩⟩⟩⟩⟩⟩⟩⟩⟩⟩⟩⟩⟩⟩⟩⟩⟩⟩⟩⟩⟩)
theorem e_X5_bestOf_0 {Q : mQ} {ls st : List Value} {g : mG} : WP m_X5_bestOf Q 0 ls st g = WP m_X5_bestOf Q 1 ls (.null :: st) g := E_nul lo_X5_bestOf rfl
theorem e_X5_bestOf_1 {Q : mQ} {l0 l1 l2 l3 l4 l5 l6 : Value} {st : List Value} {g : mG} {x : Nat} : WP m_X5_bestOf Q 1 [l0, l1, l2, l3, l4, l5, l6] (.ref x :: st) g = (nl1 l1 ∧ WP m_X5_bestOf Q 2 [l0, l1, .ref x, l3, l4, l5, l6] st g) := E_as (i := 2) (n := 1) lo_X5_bestOf rfl (Nat.le_of_ble_eq_true rfl)
theorem e_X5_bestOf_1n {Q : mQ} {l0 l1 l2 l3 l4 l5 l6 : Value} {st : List Value} {g : mG} : WP m_X5_bestOf Q 1 [l0, l1, l2, l3, l4, l5, l6] (.null :: st) g = (nl1 l1 ∧ WP m_X5_bestOf Q 2 [l0, l1, .null, l3, l4, l5, l6] st g) := E_asn (i := 2) (n := 1) lo_X5_bestOf rfl (Nat.le_of_ble_eq_true rfl)
theorem e_X5_bestOf_2 {Q : mQ} {l1 l2 l3 l4 l5 l6 : Value} {st : List Value} {g : mG} {x : Nat} : WP m_X5_bestOf Q 2 [.ref x, l1, l2, l3, l4, l5, l6] st g = WP m_X5_bestOf Q 3 [.ref x, l1, l2, l3, l4, l5, l6] (.ref x :: st) g := E_al (i := 0) (n := 1) lo_X5_bestOf rfl rfl
theorem e_X5_bestOf_3 {Q : mQ} {ls st : List Value} {g : mG} {a : Nat} : WP m_X5_bestOf Q 3 ls (.ref a :: st) g = ((gK g a = 6 ∧ gR g a 13 ≠ 0) ∧ WP m_X5_bestOf Q 6 ls (.ref (gR g a 13) :: st) g) := E_gR lo_X5_bestOf rfl
theorem e_X5_bestOf_6 {Q : mQ} {l0 l1 l2 l3 l4 l5 l6 : Value} {st : List Value} {g : mG} {x : Nat} : WP m_X5_bestOf Q 6 [l0, l1, l2, l3, l4, l5, l6] (.ref x :: st) g = (nl1 l2 ∧ WP m_X5_bestOf Q 7 [l0, l1, l2, .ref x, l4, l5, l6] st g) := E_as (i := 3) (n := 1) lo_X5_bestOf rfl (Nat.le_of_ble_eq_true rfl)
theorem e_X5_bestOf_6n {Q : mQ} {l0 l1 l2 l3 l4 l5 l6 : Value} {st : List Value} {g : mG} : WP m_X5_bestOf Q 6 [l0, l1, l2, l3, l4, l5, l6] (.null :: st) g = (nl1 l2 ∧ WP m_X5_bestOf Q 7 [l0, l1, l2, .null, l4, l5, l6] st g) := E_asn (i := 3) (n := 1) lo_X5_bestOf rfl (Nat.le_of_ble_eq_true rfl)
theorem e_X5_bestOf_7 {Q : mQ} {l0 l1 l2 l4 l5 l6 : Value} {st : List Value} {g : mG} {x : Nat} : WP m_X5_bestOf Q 7 [l0, l1, l2, .ref x, l4, l5, l6] st g = WP m_X5_bestOf Q 8 [l0, l1, l2, .ref x, l4, l5, l6] (.ref x :: st) g := E_al (i := 3) (n := 1) lo_X5_bestOf rfl rfl
theorem e_X5_bestOf_7n {Q : mQ} {l0 l1 l2 l4 l5 l6 : Value} {st : List Value} {g : mG} : WP m_X5_bestOf Q 7 [l0, l1, l2, .null, l4, l5, l6] st g = WP m_X5_bestOf Q 8 [l0, l1, l2, .null, l4, l5, l6] (.null :: st) g := E_aln (i := 3) (n := 1) lo_X5_bestOf rfl rfl
theorem e_X5_bestOf_8 {Q : mQ} {ls st : List Value} {g : mG} {a : Nat} : WP m_X5_bestOf Q 8 ls (.ref a :: st) g = ((10 ≤ gK g a ∧ gK g a ≤ 17) ∧ WP m_X5_bestOf Q 9 ls (.int (nI (gN g a)) :: st) g) := E_alen lo_X5_bestOf rfl
theorem e_X5_bestOf_9 {Q : mQ} {l0 l1 l2 l3 l4 l5 l6 : Value} {st : List Value} {g : mG} {x : Int32} : WP m_X5_bestOf Q 9 [l0, l1, l2, l3, l4, l5, l6] (.int x :: st) g = (nl1 l3 ∧ WP m_X5_bestOf Q 11 [l0, l1, l2, l3, .int x, l5, l6] st g) := E_is (i := 4) (n := 2) lo_X5_bestOf rfl (Nat.le_of_ble_eq_true rfl)
theorem e_X5_bestOf_11 {Q : mQ} {ls st : List Value} {g : mG} : WP m_X5_bestOf Q 11 ls st g = WP m_X5_bestOf Q 12 ls (.int (nI 0) :: st) g := E_ic (v := nI 0) (n := 1) lo_X5_bestOf rfl
theorem e_X5_bestOf_12 {Q : mQ} {l0 l1 l2 l3 l4 l5 l6 : Value} {st : List Value} {g : mG} {x : Int32} : WP m_X5_bestOf Q 12 [l0, l1, l2, l3, l4, l5, l6] (.int x :: st) g = (nl1 l4 ∧ WP m_X5_bestOf Q 14 [l0, l1, l2, l3, l4, .int x, l6] st g) := E_is (i := 5) (n := 2) lo_X5_bestOf rfl (Nat.le_of_ble_eq_true rfl)
theorem e_X5_bestOf_14 {Q : mQ} {l0 l1 l2 l3 l4 l6 : Value} {st : List Value} {g : mG} {x : Int32} : WP m_X5_bestOf Q 14 [l0, l1, l2, l3, l4, .int x, l6] st g = WP m_X5_bestOf Q 16 [l0, l1, l2, l3, l4, .int x, l6] (.int x :: st) g := E_il (i := 5) (n := 2) lo_X5_bestOf rfl rfl
theorem e_X5_bestOf_16 {Q : mQ} {l0 l1 l2 l3 l5 l6 : Value} {st : List Value} {g : mG} {x : Int32} : WP m_X5_bestOf Q 16 [l0, l1, l2, l3, .int x, l5, l6] st g = WP m_X5_bestOf Q 18 [l0, l1, l2, l3, .int x, l5, l6] (.int x :: st) g := E_il (i := 4) (n := 2) lo_X5_bestOf rfl rfl
theorem e_X5_bestOf_18 {Q : mQ} {ls st : List Value} {g : mG} {x y : Int32} : WP m_X5_bestOf Q 18 ls (.int y :: .int x :: st) g = ((y ≤ x → WP m_X5_bestOf Q 58 ls st g) ∧ (¬ (y ≤ x) → WP m_X5_bestOf Q 21 ls st g)) := E_I2 (c := fun x y => y ≤ x) (t := 58) lo_X5_bestOf rfl
theorem e_X5_bestOf_21 {Q : mQ} {l0 l1 l2 l4 l5 l6 : Value} {st : List Value} {g : mG} {x : Nat} : WP m_X5_bestOf Q 21 [l0, l1, l2, .ref x, l4, l5, l6] st g = WP m_X5_bestOf Q 22 [l0, l1, l2, .ref x, l4, l5, l6] (.ref x :: st) g := E_al (i := 3) (n := 1) lo_X5_bestOf rfl rfl
theorem e_X5_bestOf_21n {Q : mQ} {l0 l1 l2 l4 l5 l6 : Value} {st : List Value} {g : mG} : WP m_X5_bestOf Q 21 [l0, l1, l2, .null, l4, l5, l6] st g = WP m_X5_bestOf Q 22 [l0, l1, l2, .null, l4, l5, l6] (.null :: st) g := E_aln (i := 3) (n := 1) lo_X5_bestOf rfl rfl
theorem e_X5_bestOf_22 {Q : mQ} {l0 l1 l2 l3 l4 l6 : Value} {st : List Value} {g : mG} {x : Int32} : WP m_X5_bestOf Q 22 [l0, l1, l2, l3, l4, .int x, l6] st g = WP m_X5_bestOf Q 24 [l0, l1, l2, l3, l4, .int x, l6] (.int x :: st) g := E_il (i := 5) (n := 2) lo_X5_bestOf rfl rfl
theorem e_X5_bestOf_24 {Q : mQ} {ls st : List Value} {g : mG} {a : Nat} {i : Int32} : WP m_X5_bestOf Q 24 ls (.int i :: .ref a :: st) g = ((gK g a = 15 ∧ vp_in i (gN g a) ∧ gR g a i.toNatClampNeg ≠ 0) ∧ WP m_X5_bestOf Q 25 ls (.ref (gR g a i.toNatClampNeg) :: st) g) := E_aald lo_X5_bestOf rfl
theorem e_X5_bestOf_25 {Q : mQ} {l0 l1 l2 l3 l4 l5 l6 : Value} {st : List Value} {g : mG} {x : Nat} : WP m_X5_bestOf Q 25 [l0, l1, l2, l3, l4, l5, l6] (.ref x :: st) g = (nl1 l5 ∧ WP m_X5_bestOf Q 27 [l0, l1, l2, l3, l4, l5, .ref x] st g) := E_as (i := 6) (n := 2) lo_X5_bestOf rfl (Nat.le_of_ble_eq_true rfl)
theorem e_X5_bestOf_25n {Q : mQ} {l0 l1 l2 l3 l4 l5 l6 : Value} {st : List Value} {g : mG} : WP m_X5_bestOf Q 25 [l0, l1, l2, l3, l4, l5, l6] (.null :: st) g = (nl1 l5 ∧ WP m_X5_bestOf Q 27 [l0, l1, l2, l3, l4, l5, .null] st g) := E_asn (i := 6) (n := 2) lo_X5_bestOf rfl (Nat.le_of_ble_eq_true rfl)
theorem e_X5_bestOf_27 {Q : mQ} {l0 l1 l2 l3 l4 l5 : Value} {st : List Value} {g : mG} {x : Nat} : WP m_X5_bestOf Q 27 [l0, l1, l2, l3, l4, l5, .ref x] st g = WP m_X5_bestOf Q 29 [l0, l1, l2, l3, l4, l5, .ref x] (.ref x :: st) g := E_al (i := 6) (n := 2) lo_X5_bestOf rfl rfl
theorem e_X5_bestOf_27n {Q : mQ} {l0 l1 l2 l3 l4 l5 : Value} {st : List Value} {g : mG} : WP m_X5_bestOf Q 27 [l0, l1, l2, l3, l4, l5, .null] st g = WP m_X5_bestOf Q 29 [l0, l1, l2, l3, l4, l5, .null] (.null :: st) g := E_aln (i := 6) (n := 2) lo_X5_bestOf rfl rfl
theorem e_X5_bestOf_29 {Q : mQ} {l0 l2 l3 l4 l5 l6 : Value} {st : List Value} {g : mG} {x : Int32} : WP m_X5_bestOf Q 29 [l0, .int x, l2, l3, l4, l5, l6] st g = WP m_X5_bestOf Q 30 [l0, .int x, l2, l3, l4, l5, l6] (.int x :: st) g := E_il (i := 1) (n := 1) lo_X5_bestOf rfl rfl
theorem e_X5_bestOf_30 {Q : mQ} {ls st : List Value} {g : mG} {b : Nat} {a0 : Value} : WP m_X5_bestOf Q 30 ls (a0 :: .ref b :: st) g = (st.length ≤ 4 ∧ gK g b = 3 ∧ stbs g ls ∧ stbs g st ∧ w_X2_standsAs [.ref b, a0] g (fun v g' => WP m_X5_bestOf Q 33 ls (v.toList ++ st) g')) := E_CV (ar := [a0, .ref b]) lo_X5_bestOf rfl rfl rfl (by decide)
theorem e_X5_bestOf_33 {Q : mQ} {ls st : List Value} {g : mG} {x : Int32} : WP m_X5_bestOf Q 33 ls (.int x :: st) g = ((x = 0 → WP m_X5_bestOf Q 52 ls st g) ∧ (¬ (x = 0) → WP m_X5_bestOf Q 36 ls st g)) := E_I1 (c := fun x => x = 0) (t := 52) lo_X5_bestOf rfl
theorem e_X5_bestOf_36 {Q : mQ} {l0 l1 l3 l4 l5 l6 : Value} {st : List Value} {g : mG} {x : Nat} : WP m_X5_bestOf Q 36 [l0, l1, .ref x, l3, l4, l5, l6] st g = WP m_X5_bestOf Q 37 [l0, l1, .ref x, l3, l4, l5, l6] (.ref x :: st) g := E_al (i := 2) (n := 1) lo_X5_bestOf rfl rfl
theorem e_X5_bestOf_36n {Q : mQ} {l0 l1 l3 l4 l5 l6 : Value} {st : List Value} {g : mG} : WP m_X5_bestOf Q 36 [l0, l1, .null, l3, l4, l5, l6] st g = WP m_X5_bestOf Q 37 [l0, l1, .null, l3, l4, l5, l6] (.null :: st) g := E_aln (i := 2) (n := 1) lo_X5_bestOf rfl rfl
theorem e_X5_bestOf_37 {Q : mQ} {ls st : List Value} {g : mG} {x : Nat} : WP m_X5_bestOf Q 37 ls (.ref x :: st) g = WP m_X5_bestOf Q 40 ls st g := E_nr lo_X5_bestOf rfl
theorem e_X5_bestOf_37n {Q : mQ} {ls st : List Value} {g : mG} : WP m_X5_bestOf Q 37 ls (.null :: st) g = WP m_X5_bestOf Q 49 ls st g := E_nn lo_X5_bestOf rfl
theorem e_X5_bestOf_40 {Q : mQ} {l0 l1 l2 l3 l4 l5 : Value} {st : List Value} {g : mG} {x : Nat} : WP m_X5_bestOf Q 40 [l0, l1, l2, l3, l4, l5, .ref x] st g = WP m_X5_bestOf Q 42 [l0, l1, l2, l3, l4, l5, .ref x] (.ref x :: st) g := E_al (i := 6) (n := 2) lo_X5_bestOf rfl rfl
theorem e_X5_bestOf_40n {Q : mQ} {l0 l1 l2 l3 l4 l5 : Value} {st : List Value} {g : mG} : WP m_X5_bestOf Q 40 [l0, l1, l2, l3, l4, l5, .null] st g = WP m_X5_bestOf Q 42 [l0, l1, l2, l3, l4, l5, .null] (.null :: st) g := E_aln (i := 6) (n := 2) lo_X5_bestOf rfl rfl
theorem e_X5_bestOf_42 {Q : mQ} {l0 l1 l3 l4 l5 l6 : Value} {st : List Value} {g : mG} {x : Nat} : WP m_X5_bestOf Q 42 [l0, l1, .ref x, l3, l4, l5, l6] st g = WP m_X5_bestOf Q 43 [l0, l1, .ref x, l3, l4, l5, l6] (.ref x :: st) g := E_al (i := 2) (n := 1) lo_X5_bestOf rfl rfl
theorem e_X5_bestOf_42n {Q : mQ} {l0 l1 l3 l4 l5 l6 : Value} {st : List Value} {g : mG} : WP m_X5_bestOf Q 42 [l0, l1, .null, l3, l4, l5, l6] st g = WP m_X5_bestOf Q 43 [l0, l1, .null, l3, l4, l5, l6] (.null :: st) g := E_aln (i := 2) (n := 1) lo_X5_bestOf rfl rfl
theorem e_X5_bestOf_43 {Q : mQ} {ls st : List Value} {g : mG} {b : Nat} {a0 : Value} : WP m_X5_bestOf Q 43 ls (a0 :: .ref b :: st) g = (st.length ≤ 4 ∧ gK g b = 3 ∧ stbs g ls ∧ stbs g st ∧ w_X2_isBetterThan [.ref b, a0] g (fun v g' => WP m_X5_bestOf Q 46 ls (v.toList ++ st) g')) := E_CV (ar := [a0, .ref b]) lo_X5_bestOf rfl rfl rfl (by decide)
theorem e_X5_bestOf_46 {Q : mQ} {ls st : List Value} {g : mG} {x : Int32} : WP m_X5_bestOf Q 46 ls (.int x :: st) g = ((x = 0 → WP m_X5_bestOf Q 52 ls st g) ∧ (¬ (x = 0) → WP m_X5_bestOf Q 49 ls st g)) := E_I1 (c := fun x => x = 0) (t := 52) lo_X5_bestOf rfl
theorem e_X5_bestOf_49 {Q : mQ} {l0 l1 l2 l3 l4 l5 : Value} {st : List Value} {g : mG} {x : Nat} : WP m_X5_bestOf Q 49 [l0, l1, l2, l3, l4, l5, .ref x] st g = WP m_X5_bestOf Q 51 [l0, l1, l2, l3, l4, l5, .ref x] (.ref x :: st) g := E_al (i := 6) (n := 2) lo_X5_bestOf rfl rfl
theorem e_X5_bestOf_49n {Q : mQ} {l0 l1 l2 l3 l4 l5 : Value} {st : List Value} {g : mG} : WP m_X5_bestOf Q 49 [l0, l1, l2, l3, l4, l5, .null] st g = WP m_X5_bestOf Q 51 [l0, l1, l2, l3, l4, l5, .null] (.null :: st) g := E_aln (i := 6) (n := 2) lo_X5_bestOf rfl rfl
theorem e_X5_bestOf_51 {Q : mQ} {l0 l1 l2 l3 l4 l5 l6 : Value} {st : List Value} {g : mG} {x : Nat} : WP m_X5_bestOf Q 51 [l0, l1, l2, l3, l4, l5, l6] (.ref x :: st) g = (nl1 l1 ∧ WP m_X5_bestOf Q 52 [l0, l1, .ref x, l3, l4, l5, l6] st g) := E_as (i := 2) (n := 1) lo_X5_bestOf rfl (Nat.le_of_ble_eq_true rfl)
theorem e_X5_bestOf_51n {Q : mQ} {l0 l1 l2 l3 l4 l5 l6 : Value} {st : List Value} {g : mG} : WP m_X5_bestOf Q 51 [l0, l1, l2, l3, l4, l5, l6] (.null :: st) g = (nl1 l1 ∧ WP m_X5_bestOf Q 52 [l0, l1, .null, l3, l4, l5, l6] st g) := E_asn (i := 2) (n := 1) lo_X5_bestOf rfl (Nat.le_of_ble_eq_true rfl)
theorem e_X5_bestOf_52 {Q : mQ} {l0 l1 l2 l3 l4 l6 : Value} {st : List Value} {g : mG} {x : Int32} : WP m_X5_bestOf Q 52 [l0, l1, l2, l3, l4, .int x, l6] st g = (nl1 l4 ∧ WP m_X5_bestOf Q 55 [l0, l1, l2, l3, l4, .int (x + nI 1), l6] st g) := E_inc (i := 5) (d := nI 1) lo_X5_bestOf rfl rfl
theorem e_X5_bestOf_55 {Q : mQ} {ls st : List Value} {g : mG} : WP m_X5_bestOf Q 55 ls st g = WP m_X5_bestOf Q 14 ls st g := E_goto lo_X5_bestOf rfl
theorem e_X5_bestOf_58 {Q : mQ} {l0 l1 l3 l4 l5 l6 : Value} {st : List Value} {g : mG} {x : Nat} : WP m_X5_bestOf Q 58 [l0, l1, .ref x, l3, l4, l5, l6] st g = WP m_X5_bestOf Q 59 [l0, l1, .ref x, l3, l4, l5, l6] (.ref x :: st) g := E_al (i := 2) (n := 1) lo_X5_bestOf rfl rfl
theorem e_X5_bestOf_58n {Q : mQ} {l0 l1 l3 l4 l5 l6 : Value} {st : List Value} {g : mG} : WP m_X5_bestOf Q 58 [l0, l1, .null, l3, l4, l5, l6] st g = WP m_X5_bestOf Q 59 [l0, l1, .null, l3, l4, l5, l6] (.null :: st) g := E_aln (i := 2) (n := 1) lo_X5_bestOf rfl rfl
theorem e_X5_bestOf_59 {Q : mQ} {ls : List Value} {g : mG} {v : Nat} : WP m_X5_bestOf Q 59 ls [.ref v] g = Q (some (.ref v)) g := E_aret lo_X5_bestOf rfl
theorem e_X5_bestOf_59n {Q : mQ} {ls : List Value} {g : mG} : WP m_X5_bestOf Q 59 ls [.null] g = Q (some .null) g := E_aretn lo_X5_bestOf rfl
/-! KilnPermits$Town.trade(LKilnPermits$Order;LKilnPermits$Order;I)V -/
def m_X5_trade : List (Nat × mT) := [(0, tD (f_al 0 1)),
  (1, tD (f_al 1 1)),
  (2, tD (f_gI 3 2)),
  (5, tC w_X5_kilnAt 6 2),
  (8, tD (f_as 4 2)),
  (10, tD (f_al 0 1)),
  (11, tD (f_al 2 1)),
  (12, tD (f_gI 3 2)),
  (15, tC w_X5_kilnAt 6 2),
  (18, tD (f_as 5 2)),
  (20, tD (f_al 4 2)),
  (22, tD (f_ifn 30 true)),
  (25, tD (f_al 5 2)),
  (27, tD (f_ifn 31 false)),
  (30, tR f_ret),
  (31, tD (f_al 1 1)),
  (32, tD (f_gI 3 3)),
  (35, tD (f_al 2 1)),
  (36, tD (f_gI 3 3)),
  (39, tD (f_min)),
  (42, tD (f_is 6 2)),
  (44, tD (f_al 1 1)),
  (45, tD (f_dup)),
  (46, tD (f_gI 3 3)),
  (49, tD (f_il 6 2)),
  (51, tD (f_b2 fun x y => x - y)),
  (52, tD (f_pI 3 3)),
  (55, tD (f_al 2 1)),
  (56, tD (f_dup)),
  (57, tD (f_gI 3 3)),
  (60, tD (f_il 6 2)),
  (62, tD (f_b2 fun x y => x - y)),
  (63, tD (f_pI 3 3)),
  (66, tD (f_al 2 1)),
  (67, tD (f_gR 3 5)),
  (70, tD (f_il 6 2)),
  (72, tD (f_al 4 2)),
  (74, tD (f_gR 1 7)),
  (77, tC w_X4_giveOldest 5 3),
  (80, tD (f_al 5 2)),
  (82, tD (f_dup)),
  (83, tD (f_gI 1 0)),
  (86, tD (f_il 6 2)),
  (88, tD (f_il 3 1)),
  (89, tD (f_b2 fun x y => x * y)),
  (90, tD (f_b2 fun x y => x + y)),
  (91, tD (f_pI 1 0)),
  (94, tD (f_al 4 2)),
  (96, tD (f_dup)),
  (97, tD (f_gI 1 0)),
  (100, tD (f_il 6 2)),
  (102, tD (f_al 1 1)),
  (103, tD (f_gI 3 4)),
  (106, tD (f_il 3 1)),
  (107, tD (f_b2 fun x y => x - y)),
  (108, tD (f_b2 fun x y => x * y)),
  (109, tD (f_b2 fun x y => x + y)),
  (110, tD (f_pI 1 0)),
  (113, tD (f_al 0 1)),
  (114, tD (f_dup)),
  (115, tD (f_gI 6 7)),
  (118, tD (f_il 6 2)),
  (120, tD (f_b2 fun x y => x + y)),
  (121, tD (f_pI 6 7)),
  (124, tD (f_al 0 1)),
  (125, tD (f_il 3 1)),
  (126, tD (f_pI 6 8)),
  (129, tR f_ret)]
abbrev w_X5_trade : mS := wm m_X5_trade 4 3
set_option maxRecDepth 100000 in
theorem lo_X5_trade : locs_ok m_X5_trade := List.forall_mem_cons.mpr ⟨loc_D mo_al,
  List.forall_mem_cons.mpr ⟨loc_D mo_al,
  List.forall_mem_cons.mpr ⟨loc_D mo_gI,
  List.forall_mem_cons.mpr ⟨loc_C sm_X5_kilnAt.1,
  List.forall_mem_cons.mpr ⟨loc_D mo_as,
  List.forall_mem_cons.mpr ⟨loc_D mo_al,
  List.forall_mem_cons.mpr ⟨loc_D mo_al,
  List.forall_mem_cons.mpr ⟨loc_D mo_gI,
  List.forall_mem_cons.mpr ⟨loc_C sm_X5_kilnAt.1,
  List.forall_mem_cons.mpr ⟨loc_D mo_as,
  List.forall_mem_cons.mpr ⟨loc_D mo_al,
  List.forall_mem_cons.mpr ⟨loc_D mo_ifn,
  List.forall_mem_cons.mpr ⟨loc_D mo_al,
  List.forall_mem_cons.mpr ⟨loc_D mo_ifn,
  List.forall_mem_cons.mpr ⟨loc_R,
  List.forall_mem_cons.mpr ⟨loc_D mo_al,
  List.forall_mem_cons.mpr ⟨loc_D mo_gI,
  List.forall_mem_cons.mpr ⟨loc_D mo_al,
  List.forall_mem_cons.mpr ⟨loc_D mo_gI,
  List.forall_mem_cons.mpr ⟨loc_D mo_min,
  List.forall_mem_cons.mpr ⟨loc_D mo_is,
  List.forall_mem_cons.mpr ⟨loc_D mo_al,
  List.forall_mem_cons.mpr ⟨loc_D mo_dup,
  List.forall_mem_cons.mpr ⟨loc_D mo_gI,
  List.forall_mem_cons.mpr ⟨loc_D mo_il,
  List.forall_mem_cons.mpr ⟨loc_D mo_b2,
  List.forall_mem_cons.mpr ⟨loc_D mo_pI,
  List.forall_mem_cons.mpr ⟨loc_D mo_al,
  List.forall_mem_cons.mpr ⟨loc_D mo_dup,
  List.forall_mem_cons.mpr ⟨loc_D mo_gI,
  List.forall_mem_cons.mpr ⟨loc_D mo_il,
  List.forall_mem_cons.mpr ⟨loc_D mo_b2,
  List.forall_mem_cons.mpr ⟨loc_D mo_pI,
  List.forall_mem_cons.mpr ⟨loc_D mo_al,
  List.forall_mem_cons.mpr ⟨loc_D mo_gR,
  List.forall_mem_cons.mpr ⟨loc_D mo_il,
  List.forall_mem_cons.mpr ⟨loc_D mo_al,
  List.forall_mem_cons.mpr ⟨loc_D mo_gR,
  List.forall_mem_cons.mpr ⟨loc_C sm_X4_giveOldest.1,
  List.forall_mem_cons.mpr ⟨loc_D mo_al,
  List.forall_mem_cons.mpr ⟨loc_D mo_dup,
  List.forall_mem_cons.mpr ⟨loc_D mo_gI,
  List.forall_mem_cons.mpr ⟨loc_D mo_il,
  List.forall_mem_cons.mpr ⟨loc_D mo_il,
  List.forall_mem_cons.mpr ⟨loc_D mo_b2,
  List.forall_mem_cons.mpr ⟨loc_D mo_b2,
  List.forall_mem_cons.mpr ⟨loc_D mo_pI,
  List.forall_mem_cons.mpr ⟨loc_D mo_al,
  List.forall_mem_cons.mpr ⟨loc_D mo_dup,
  List.forall_mem_cons.mpr ⟨loc_D mo_gI,
  List.forall_mem_cons.mpr ⟨loc_D mo_il,
  List.forall_mem_cons.mpr ⟨loc_D mo_al,
  List.forall_mem_cons.mpr ⟨loc_D mo_gI,
  List.forall_mem_cons.mpr ⟨loc_D mo_il,
  List.forall_mem_cons.mpr ⟨loc_D mo_b2,
  List.forall_mem_cons.mpr ⟨loc_D mo_b2,
  List.forall_mem_cons.mpr ⟨loc_D mo_b2,
  List.forall_mem_cons.mpr ⟨loc_D mo_pI,
  List.forall_mem_cons.mpr ⟨loc_D mo_al,
  List.forall_mem_cons.mpr ⟨loc_D mo_dup,
  List.forall_mem_cons.mpr ⟨loc_D mo_gI,
  List.forall_mem_cons.mpr ⟨loc_D mo_il,
  List.forall_mem_cons.mpr ⟨loc_D mo_b2,
  List.forall_mem_cons.mpr ⟨loc_D mo_pI,
  List.forall_mem_cons.mpr ⟨loc_D mo_al,
  List.forall_mem_cons.mpr ⟨loc_D mo_il,
  List.forall_mem_cons.mpr ⟨loc_D mo_pI,
  List.forall_mem_cons.mpr ⟨loc_R,
  fun _ h => absurd h List.not_mem_nil⟩⟩⟩⟩⟩⟩⟩⟩⟩⟩⟩⟩⟩⟩⟩⟩⟩⟩⟩⟩⟩⟩⟩⟩⟩⟩⟩⟩⟩⟩⟩⟩⟩⟩⟩⟩⟩⟩⟩⟩⟩⟩⟩⟩⟩⟩⟩⟩⟩⟩⟩⟩⟩⟩⟩⟩⟩⟩⟩⟩⟩⟩⟩⟩⟩⟩⟩⟩
set_option maxRecDepth 100000 in
theorem sm_X5_trade : SM yX5_trade cX5_trade 7 none 4 w_X5_trade := SM_of' RX5 "trade" rfl rfl (by decide) (by decide) (by decide) lo_X5_trade (List.forall_mem_cons.mpr ⟨STP.r mo_al (q_aload_n dX5_trade_0 rfl),
  List.forall_mem_cons.mpr ⟨STP.r mo_al (q_aload_n dX5_trade_1 rfl),
  List.forall_mem_cons.mpr ⟨STP.r mo_gI (q_gI ⟨by decide, by decide⟩ (by decide) rfl kf_X5_182 dX5_trade_2),
  List.forall_mem_cons.mpr ⟨(snd_CV sm_X5_kilnAt ⟨by decide, by decide⟩ rfl km_X5_128 kt_X5_kilnAt kv_X5_kilnAt rfl ki_X5 kx_X5_kilnAt ⟨by decide, by decide, by decide +kernel⟩ (by decide) (by decide) dX5_trade_5).r,
  List.forall_mem_cons.mpr ⟨STP.r mo_as (q_astore dX5_trade_8),
  List.forall_mem_cons.mpr ⟨STP.r mo_al (q_aload_n dX5_trade_10 rfl),
  List.forall_mem_cons.mpr ⟨STP.r mo_al (q_aload_n dX5_trade_11 rfl),
  List.forall_mem_cons.mpr ⟨STP.r mo_gI (q_gI ⟨by decide, by decide⟩ (by decide) rfl kf_X5_182 dX5_trade_12),
  List.forall_mem_cons.mpr ⟨(snd_CV sm_X5_kilnAt ⟨by decide, by decide⟩ rfl km_X5_128 kt_X5_kilnAt kv_X5_kilnAt rfl ki_X5 kx_X5_kilnAt ⟨by decide, by decide, by decide +kernel⟩ (by decide) (by decide) dX5_trade_15).r,
  List.forall_mem_cons.mpr ⟨STP.r mo_as (q_astore dX5_trade_18),
  List.forall_mem_cons.mpr ⟨STP.r mo_al (q_aload dX5_trade_20),
  List.forall_mem_cons.mpr ⟨STP.r mo_ifn (q_ifnull dX5_trade_22 (by decide)),
  List.forall_mem_cons.mpr ⟨STP.r mo_al (q_aload dX5_trade_25),
  List.forall_mem_cons.mpr ⟨STP.r mo_ifn (q_ifnonnull dX5_trade_27 (by decide)),
  List.forall_mem_cons.mpr ⟨r_ret dX5_trade_30,
  List.forall_mem_cons.mpr ⟨STP.r mo_al (q_aload_n dX5_trade_31 rfl),
  List.forall_mem_cons.mpr ⟨STP.r mo_gI (q_gI ⟨by decide, by decide⟩ (by decide) rfl kf_X5_154 dX5_trade_32),
  List.forall_mem_cons.mpr ⟨STP.r mo_al (q_aload_n dX5_trade_35 rfl),
  List.forall_mem_cons.mpr ⟨STP.r mo_gI (q_gI ⟨by decide, by decide⟩ (by decide) rfl kf_X5_154 dX5_trade_36),
  List.forall_mem_cons.mpr ⟨STP.r mo_min (q_min km_X5_81 kz_mins kz_mi kz_minc dX5_trade_39),
  List.forall_mem_cons.mpr ⟨STP.r mo_is (q_istore dX5_trade_42),
  List.forall_mem_cons.mpr ⟨STP.r mo_al (q_aload_n dX5_trade_44 rfl),
  List.forall_mem_cons.mpr ⟨STP.r mo_dup (q_dup dX5_trade_45),
  List.forall_mem_cons.mpr ⟨STP.r mo_gI (q_gI ⟨by decide, by decide⟩ (by decide) rfl kf_X5_154 dX5_trade_46),
  List.forall_mem_cons.mpr ⟨STP.r mo_il (q_iload dX5_trade_49),
  List.forall_mem_cons.mpr ⟨STP.r mo_b2 (q_isub dX5_trade_51),
  List.forall_mem_cons.mpr ⟨STP.r mo_pI (q_pI ⟨by decide, by decide⟩ (by decide) rfl rfl kf_X5_154 dX5_trade_52),
  List.forall_mem_cons.mpr ⟨STP.r mo_al (q_aload_n dX5_trade_55 rfl),
  List.forall_mem_cons.mpr ⟨STP.r mo_dup (q_dup dX5_trade_56),
  List.forall_mem_cons.mpr ⟨STP.r mo_gI (q_gI ⟨by decide, by decide⟩ (by decide) rfl kf_X5_154 dX5_trade_57),
  List.forall_mem_cons.mpr ⟨STP.r mo_il (q_iload dX5_trade_60),
  List.forall_mem_cons.mpr ⟨STP.r mo_b2 (q_isub dX5_trade_62),
  List.forall_mem_cons.mpr ⟨STP.r mo_pI (q_pI ⟨by decide, by decide⟩ (by decide) rfl rfl kf_X5_154 dX5_trade_63),
  List.forall_mem_cons.mpr ⟨STP.r mo_al (q_aload_n dX5_trade_66 rfl),
  List.forall_mem_cons.mpr ⟨STP.r mo_gR (q_gR ⟨by decide, by decide⟩ (by decide) rfl (by decide) kf_X5_144 dX5_trade_67),
  List.forall_mem_cons.mpr ⟨STP.r mo_il (q_iload dX5_trade_70),
  List.forall_mem_cons.mpr ⟨STP.r mo_al (q_aload dX5_trade_72),
  List.forall_mem_cons.mpr ⟨STP.r mo_gR (q_gR ⟨by decide, by decide⟩ (by decide) rfl (by decide) kf_X5_87 dX5_trade_74),
  List.forall_mem_cons.mpr ⟨(snd_CV sm_X4_giveOldest ⟨by decide, by decide⟩ rfl km_X5_147 kt_X4_giveOldest kv_X4_giveOldest rfl ki_X4 kx_X4_giveOldest ⟨by decide, by decide, by decide +kernel⟩ (by decide) (by decide) dX5_trade_77).r,
  List.forall_mem_cons.mpr ⟨STP.r mo_al (q_aload dX5_trade_80),
  List.forall_mem_cons.mpr ⟨STP.r mo_dup (q_dup dX5_trade_82),
  List.forall_mem_cons.mpr ⟨STP.r mo_gI (q_gI ⟨by decide, by decide⟩ (by decide) rfl kf_X5_97 dX5_trade_83),
  List.forall_mem_cons.mpr ⟨STP.r mo_il (q_iload dX5_trade_86),
  List.forall_mem_cons.mpr ⟨STP.r mo_il (q_iload_n dX5_trade_88 rfl),
  List.forall_mem_cons.mpr ⟨STP.r mo_b2 (q_imul dX5_trade_89),
  List.forall_mem_cons.mpr ⟨STP.r mo_b2 (q_iadd dX5_trade_90),
  List.forall_mem_cons.mpr ⟨STP.r mo_pI (q_pI ⟨by decide, by decide⟩ (by decide) rfl rfl kf_X5_97 dX5_trade_91),
  List.forall_mem_cons.mpr ⟨STP.r mo_al (q_aload dX5_trade_94),
  List.forall_mem_cons.mpr ⟨STP.r mo_dup (q_dup dX5_trade_96),
  List.forall_mem_cons.mpr ⟨STP.r mo_gI (q_gI ⟨by decide, by decide⟩ (by decide) rfl kf_X5_97 dX5_trade_97),
  List.forall_mem_cons.mpr ⟨STP.r mo_il (q_iload dX5_trade_100),
  List.forall_mem_cons.mpr ⟨STP.r mo_al (q_aload_n dX5_trade_102 rfl),
  List.forall_mem_cons.mpr ⟨STP.r mo_gI (q_gI ⟨by decide, by decide⟩ (by decide) rfl kf_X5_171 dX5_trade_103),
  List.forall_mem_cons.mpr ⟨STP.r mo_il (q_iload_n dX5_trade_106 rfl),
  List.forall_mem_cons.mpr ⟨STP.r mo_b2 (q_isub dX5_trade_107),
  List.forall_mem_cons.mpr ⟨STP.r mo_b2 (q_imul dX5_trade_108),
  List.forall_mem_cons.mpr ⟨STP.r mo_b2 (q_iadd dX5_trade_109),
  List.forall_mem_cons.mpr ⟨STP.r mo_pI (q_pI ⟨by decide, by decide⟩ (by decide) rfl rfl kf_X5_97 dX5_trade_110),
  List.forall_mem_cons.mpr ⟨STP.r mo_al (q_aload_n dX5_trade_113 rfl),
  List.forall_mem_cons.mpr ⟨STP.r mo_dup (q_dup dX5_trade_114),
  List.forall_mem_cons.mpr ⟨STP.r mo_gI (q_gI ⟨by decide, by decide⟩ (by decide) rfl kf_X5_59 dX5_trade_115),
  List.forall_mem_cons.mpr ⟨STP.r mo_il (q_iload dX5_trade_118),
  List.forall_mem_cons.mpr ⟨STP.r mo_b2 (q_iadd dX5_trade_120),
  List.forall_mem_cons.mpr ⟨STP.r mo_pI (q_pI ⟨by decide, by decide⟩ (by decide) rfl rfl kf_X5_59 dX5_trade_121),
  List.forall_mem_cons.mpr ⟨STP.r mo_al (q_aload_n dX5_trade_124 rfl),
  List.forall_mem_cons.mpr ⟨STP.r mo_il (q_iload_n dX5_trade_125 rfl),
  List.forall_mem_cons.mpr ⟨STP.r mo_pI (q_pI ⟨by decide, by decide⟩ (by decide) rfl rfl kf_X5_62 dX5_trade_126),
  List.forall_mem_cons.mpr ⟨r_ret dX5_trade_129,
  fun _ h => absurd h List.not_mem_nil⟩⟩⟩⟩⟩⟩⟩⟩⟩⟩⟩⟩⟩⟩⟩⟩⟩⟩⟩⟩⟩⟩⟩⟩⟩⟩⟩⟩⟩⟩⟩⟩⟩⟩⟩⟩⟩⟩⟩⟩⟩⟩⟩⟩⟩⟩⟩⟩⟩⟩⟩⟩⟩⟩⟩⟩⟩⟩⟩⟩⟩⟩⟩⟩⟩⟩⟩⟩)
theorem e_X5_trade_0 {Q : mQ} {l1 l2 l3 l4 l5 l6 : Value} {st : List Value} {g : mG} {x : Nat} : WP m_X5_trade Q 0 [.ref x, l1, l2, l3, l4, l5, l6] st g = WP m_X5_trade Q 1 [.ref x, l1, l2, l3, l4, l5, l6] (.ref x :: st) g := E_al (i := 0) (n := 1) lo_X5_trade rfl rfl
theorem e_X5_trade_1 {Q : mQ} {l0 l2 l3 l4 l5 l6 : Value} {st : List Value} {g : mG} {x : Nat} : WP m_X5_trade Q 1 [l0, .ref x, l2, l3, l4, l5, l6] st g = WP m_X5_trade Q 2 [l0, .ref x, l2, l3, l4, l5, l6] (.ref x :: st) g := E_al (i := 1) (n := 1) lo_X5_trade rfl rfl
theorem e_X5_trade_1n {Q : mQ} {l0 l2 l3 l4 l5 l6 : Value} {st : List Value} {g : mG} : WP m_X5_trade Q 1 [l0, .null, l2, l3, l4, l5, l6] st g = WP m_X5_trade Q 2 [l0, .null, l2, l3, l4, l5, l6] (.null :: st) g := E_aln (i := 1) (n := 1) lo_X5_trade rfl rfl
theorem e_X5_trade_2 {Q : mQ} {ls st : List Value} {g : mG} {a : Nat} : WP m_X5_trade Q 2 ls (.ref a :: st) g = (gK g a = 3 ∧ WP m_X5_trade Q 5 ls (.int (gI g a 2) :: st) g) := E_gI lo_X5_trade rfl
theorem e_X5_trade_5 {Q : mQ} {ls st : List Value} {g : mG} {b : Nat} {a0 : Value} : WP m_X5_trade Q 5 ls (a0 :: .ref b :: st) g = (st.length ≤ 4 ∧ gK g b = 6 ∧ stbs g ls ∧ stbs g st ∧ w_X5_kilnAt [.ref b, a0] g (fun v g' => WP m_X5_trade Q 8 ls (v.toList ++ st) g')) := E_CV (ar := [a0, .ref b]) lo_X5_trade rfl rfl rfl (by decide)
theorem e_X5_trade_8 {Q : mQ} {l0 l1 l2 l3 l4 l5 l6 : Value} {st : List Value} {g : mG} {x : Nat} : WP m_X5_trade Q 8 [l0, l1, l2, l3, l4, l5, l6] (.ref x :: st) g = (nl1 l3 ∧ WP m_X5_trade Q 10 [l0, l1, l2, l3, .ref x, l5, l6] st g) := E_as (i := 4) (n := 2) lo_X5_trade rfl (Nat.le_of_ble_eq_true rfl)
theorem e_X5_trade_8n {Q : mQ} {l0 l1 l2 l3 l4 l5 l6 : Value} {st : List Value} {g : mG} : WP m_X5_trade Q 8 [l0, l1, l2, l3, l4, l5, l6] (.null :: st) g = (nl1 l3 ∧ WP m_X5_trade Q 10 [l0, l1, l2, l3, .null, l5, l6] st g) := E_asn (i := 4) (n := 2) lo_X5_trade rfl (Nat.le_of_ble_eq_true rfl)
theorem e_X5_trade_10 {Q : mQ} {l1 l2 l3 l4 l5 l6 : Value} {st : List Value} {g : mG} {x : Nat} : WP m_X5_trade Q 10 [.ref x, l1, l2, l3, l4, l5, l6] st g = WP m_X5_trade Q 11 [.ref x, l1, l2, l3, l4, l5, l6] (.ref x :: st) g := E_al (i := 0) (n := 1) lo_X5_trade rfl rfl
theorem e_X5_trade_11 {Q : mQ} {l0 l1 l3 l4 l5 l6 : Value} {st : List Value} {g : mG} {x : Nat} : WP m_X5_trade Q 11 [l0, l1, .ref x, l3, l4, l5, l6] st g = WP m_X5_trade Q 12 [l0, l1, .ref x, l3, l4, l5, l6] (.ref x :: st) g := E_al (i := 2) (n := 1) lo_X5_trade rfl rfl
theorem e_X5_trade_11n {Q : mQ} {l0 l1 l3 l4 l5 l6 : Value} {st : List Value} {g : mG} : WP m_X5_trade Q 11 [l0, l1, .null, l3, l4, l5, l6] st g = WP m_X5_trade Q 12 [l0, l1, .null, l3, l4, l5, l6] (.null :: st) g := E_aln (i := 2) (n := 1) lo_X5_trade rfl rfl
theorem e_X5_trade_12 {Q : mQ} {ls st : List Value} {g : mG} {a : Nat} : WP m_X5_trade Q 12 ls (.ref a :: st) g = (gK g a = 3 ∧ WP m_X5_trade Q 15 ls (.int (gI g a 2) :: st) g) := E_gI lo_X5_trade rfl
theorem e_X5_trade_15 {Q : mQ} {ls st : List Value} {g : mG} {b : Nat} {a0 : Value} : WP m_X5_trade Q 15 ls (a0 :: .ref b :: st) g = (st.length ≤ 4 ∧ gK g b = 6 ∧ stbs g ls ∧ stbs g st ∧ w_X5_kilnAt [.ref b, a0] g (fun v g' => WP m_X5_trade Q 18 ls (v.toList ++ st) g')) := E_CV (ar := [a0, .ref b]) lo_X5_trade rfl rfl rfl (by decide)
theorem e_X5_trade_18 {Q : mQ} {l0 l1 l2 l3 l4 l5 l6 : Value} {st : List Value} {g : mG} {x : Nat} : WP m_X5_trade Q 18 [l0, l1, l2, l3, l4, l5, l6] (.ref x :: st) g = (nl1 l4 ∧ WP m_X5_trade Q 20 [l0, l1, l2, l3, l4, .ref x, l6] st g) := E_as (i := 5) (n := 2) lo_X5_trade rfl (Nat.le_of_ble_eq_true rfl)
theorem e_X5_trade_18n {Q : mQ} {l0 l1 l2 l3 l4 l5 l6 : Value} {st : List Value} {g : mG} : WP m_X5_trade Q 18 [l0, l1, l2, l3, l4, l5, l6] (.null :: st) g = (nl1 l4 ∧ WP m_X5_trade Q 20 [l0, l1, l2, l3, l4, .null, l6] st g) := E_asn (i := 5) (n := 2) lo_X5_trade rfl (Nat.le_of_ble_eq_true rfl)
theorem e_X5_trade_20 {Q : mQ} {l0 l1 l2 l3 l5 l6 : Value} {st : List Value} {g : mG} {x : Nat} : WP m_X5_trade Q 20 [l0, l1, l2, l3, .ref x, l5, l6] st g = WP m_X5_trade Q 22 [l0, l1, l2, l3, .ref x, l5, l6] (.ref x :: st) g := E_al (i := 4) (n := 2) lo_X5_trade rfl rfl
theorem e_X5_trade_20n {Q : mQ} {l0 l1 l2 l3 l5 l6 : Value} {st : List Value} {g : mG} : WP m_X5_trade Q 20 [l0, l1, l2, l3, .null, l5, l6] st g = WP m_X5_trade Q 22 [l0, l1, l2, l3, .null, l5, l6] (.null :: st) g := E_aln (i := 4) (n := 2) lo_X5_trade rfl rfl
theorem e_X5_trade_22 {Q : mQ} {ls st : List Value} {g : mG} {x : Nat} : WP m_X5_trade Q 22 ls (.ref x :: st) g = WP m_X5_trade Q 25 ls st g := E_nr lo_X5_trade rfl
theorem e_X5_trade_22n {Q : mQ} {ls st : List Value} {g : mG} : WP m_X5_trade Q 22 ls (.null :: st) g = WP m_X5_trade Q 30 ls st g := E_nn lo_X5_trade rfl
theorem e_X5_trade_25 {Q : mQ} {l0 l1 l2 l3 l4 l6 : Value} {st : List Value} {g : mG} {x : Nat} : WP m_X5_trade Q 25 [l0, l1, l2, l3, l4, .ref x, l6] st g = WP m_X5_trade Q 27 [l0, l1, l2, l3, l4, .ref x, l6] (.ref x :: st) g := E_al (i := 5) (n := 2) lo_X5_trade rfl rfl
theorem e_X5_trade_25n {Q : mQ} {l0 l1 l2 l3 l4 l6 : Value} {st : List Value} {g : mG} : WP m_X5_trade Q 25 [l0, l1, l2, l3, l4, .null, l6] st g = WP m_X5_trade Q 27 [l0, l1, l2, l3, l4, .null, l6] (.null :: st) g := E_aln (i := 5) (n := 2) lo_X5_trade rfl rfl
theorem e_X5_trade_27 {Q : mQ} {ls st : List Value} {g : mG} {x : Nat} : WP m_X5_trade Q 27 ls (.ref x :: st) g = WP m_X5_trade Q 31 ls st g := E_nnr lo_X5_trade rfl
theorem e_X5_trade_27n {Q : mQ} {ls st : List Value} {g : mG} : WP m_X5_trade Q 27 ls (.null :: st) g = WP m_X5_trade Q 30 ls st g := E_nnn lo_X5_trade rfl
theorem e_X5_trade_30 {Q : mQ} {ls : List Value} {g : mG} : WP m_X5_trade Q 30 ls [] g = Q none g := E_ret lo_X5_trade rfl
theorem e_X5_trade_31 {Q : mQ} {l0 l2 l3 l4 l5 l6 : Value} {st : List Value} {g : mG} {x : Nat} : WP m_X5_trade Q 31 [l0, .ref x, l2, l3, l4, l5, l6] st g = WP m_X5_trade Q 32 [l0, .ref x, l2, l3, l4, l5, l6] (.ref x :: st) g := E_al (i := 1) (n := 1) lo_X5_trade rfl rfl
theorem e_X5_trade_31n {Q : mQ} {l0 l2 l3 l4 l5 l6 : Value} {st : List Value} {g : mG} : WP m_X5_trade Q 31 [l0, .null, l2, l3, l4, l5, l6] st g = WP m_X5_trade Q 32 [l0, .null, l2, l3, l4, l5, l6] (.null :: st) g := E_aln (i := 1) (n := 1) lo_X5_trade rfl rfl
theorem e_X5_trade_32 {Q : mQ} {ls st : List Value} {g : mG} {a : Nat} : WP m_X5_trade Q 32 ls (.ref a :: st) g = (gK g a = 3 ∧ WP m_X5_trade Q 35 ls (.int (gI g a 3) :: st) g) := E_gI lo_X5_trade rfl
theorem e_X5_trade_35 {Q : mQ} {l0 l1 l3 l4 l5 l6 : Value} {st : List Value} {g : mG} {x : Nat} : WP m_X5_trade Q 35 [l0, l1, .ref x, l3, l4, l5, l6] st g = WP m_X5_trade Q 36 [l0, l1, .ref x, l3, l4, l5, l6] (.ref x :: st) g := E_al (i := 2) (n := 1) lo_X5_trade rfl rfl
theorem e_X5_trade_35n {Q : mQ} {l0 l1 l3 l4 l5 l6 : Value} {st : List Value} {g : mG} : WP m_X5_trade Q 35 [l0, l1, .null, l3, l4, l5, l6] st g = WP m_X5_trade Q 36 [l0, l1, .null, l3, l4, l5, l6] (.null :: st) g := E_aln (i := 2) (n := 1) lo_X5_trade rfl rfl
theorem e_X5_trade_36 {Q : mQ} {ls st : List Value} {g : mG} {a : Nat} : WP m_X5_trade Q 36 ls (.ref a :: st) g = (gK g a = 3 ∧ WP m_X5_trade Q 39 ls (.int (gI g a 3) :: st) g) := E_gI lo_X5_trade rfl
theorem e_X5_trade_39 {Q : mQ} {ls st : List Value} {g : mG} {x y : Int32} : WP m_X5_trade Q 39 ls (.int y :: .int x :: st) g = (st.length ≤ 4 ∧ WP m_X5_trade Q 42 ls (.int (if y < x then y else x) :: st) g) := E_min lo_X5_trade rfl
theorem e_X5_trade_42 {Q : mQ} {l0 l1 l2 l3 l4 l5 l6 : Value} {st : List Value} {g : mG} {x : Int32} : WP m_X5_trade Q 42 [l0, l1, l2, l3, l4, l5, l6] (.int x :: st) g = (nl1 l5 ∧ WP m_X5_trade Q 44 [l0, l1, l2, l3, l4, l5, .int x] st g) := E_is (i := 6) (n := 2) lo_X5_trade rfl (Nat.le_of_ble_eq_true rfl)
theorem e_X5_trade_44 {Q : mQ} {l0 l2 l3 l4 l5 l6 : Value} {st : List Value} {g : mG} {x : Nat} : WP m_X5_trade Q 44 [l0, .ref x, l2, l3, l4, l5, l6] st g = WP m_X5_trade Q 45 [l0, .ref x, l2, l3, l4, l5, l6] (.ref x :: st) g := E_al (i := 1) (n := 1) lo_X5_trade rfl rfl
theorem e_X5_trade_44n {Q : mQ} {l0 l2 l3 l4 l5 l6 : Value} {st : List Value} {g : mG} : WP m_X5_trade Q 44 [l0, .null, l2, l3, l4, l5, l6] st g = WP m_X5_trade Q 45 [l0, .null, l2, l3, l4, l5, l6] (.null :: st) g := E_aln (i := 1) (n := 1) lo_X5_trade rfl rfl
theorem e_X5_trade_45 {Q : mQ} {ls st : List Value} {g : mG} {x : Value} : WP m_X5_trade Q 45 ls (x :: st) g = (cat1 x ∧ WP m_X5_trade Q 46 ls (x :: x :: st) g) := E_dup lo_X5_trade rfl
theorem e_X5_trade_46 {Q : mQ} {ls st : List Value} {g : mG} {a : Nat} : WP m_X5_trade Q 46 ls (.ref a :: st) g = (gK g a = 3 ∧ WP m_X5_trade Q 49 ls (.int (gI g a 3) :: st) g) := E_gI lo_X5_trade rfl
theorem e_X5_trade_49 {Q : mQ} {l0 l1 l2 l3 l4 l5 : Value} {st : List Value} {g : mG} {x : Int32} : WP m_X5_trade Q 49 [l0, l1, l2, l3, l4, l5, .int x] st g = WP m_X5_trade Q 51 [l0, l1, l2, l3, l4, l5, .int x] (.int x :: st) g := E_il (i := 6) (n := 2) lo_X5_trade rfl rfl
theorem e_X5_trade_51 {Q : mQ} {ls st : List Value} {g : mG} {x y : Int32} : WP m_X5_trade Q 51 ls (.int y :: .int x :: st) g = WP m_X5_trade Q 52 ls (.int (x - y) :: st) g := E_b2 (f := fun x y => x - y) lo_X5_trade rfl
theorem e_X5_trade_52 {Q : mQ} {ls st : List Value} {g : mG} {a : Nat} {v : Int32} : WP m_X5_trade Q 52 ls (.int v :: .ref a :: st) g = (gK g a = 3 ∧ WP m_X5_trade Q 55 ls st (pI g a 3 v)) := E_pI lo_X5_trade rfl
theorem e_X5_trade_55 {Q : mQ} {l0 l1 l3 l4 l5 l6 : Value} {st : List Value} {g : mG} {x : Nat} : WP m_X5_trade Q 55 [l0, l1, .ref x, l3, l4, l5, l6] st g = WP m_X5_trade Q 56 [l0, l1, .ref x, l3, l4, l5, l6] (.ref x :: st) g := E_al (i := 2) (n := 1) lo_X5_trade rfl rfl
theorem e_X5_trade_55n {Q : mQ} {l0 l1 l3 l4 l5 l6 : Value} {st : List Value} {g : mG} : WP m_X5_trade Q 55 [l0, l1, .null, l3, l4, l5, l6] st g = WP m_X5_trade Q 56 [l0, l1, .null, l3, l4, l5, l6] (.null :: st) g := E_aln (i := 2) (n := 1) lo_X5_trade rfl rfl
theorem e_X5_trade_56 {Q : mQ} {ls st : List Value} {g : mG} {x : Value} : WP m_X5_trade Q 56 ls (x :: st) g = (cat1 x ∧ WP m_X5_trade Q 57 ls (x :: x :: st) g) := E_dup lo_X5_trade rfl
theorem e_X5_trade_57 {Q : mQ} {ls st : List Value} {g : mG} {a : Nat} : WP m_X5_trade Q 57 ls (.ref a :: st) g = (gK g a = 3 ∧ WP m_X5_trade Q 60 ls (.int (gI g a 3) :: st) g) := E_gI lo_X5_trade rfl
theorem e_X5_trade_60 {Q : mQ} {l0 l1 l2 l3 l4 l5 : Value} {st : List Value} {g : mG} {x : Int32} : WP m_X5_trade Q 60 [l0, l1, l2, l3, l4, l5, .int x] st g = WP m_X5_trade Q 62 [l0, l1, l2, l3, l4, l5, .int x] (.int x :: st) g := E_il (i := 6) (n := 2) lo_X5_trade rfl rfl
theorem e_X5_trade_62 {Q : mQ} {ls st : List Value} {g : mG} {x y : Int32} : WP m_X5_trade Q 62 ls (.int y :: .int x :: st) g = WP m_X5_trade Q 63 ls (.int (x - y) :: st) g := E_b2 (f := fun x y => x - y) lo_X5_trade rfl
theorem e_X5_trade_63 {Q : mQ} {ls st : List Value} {g : mG} {a : Nat} {v : Int32} : WP m_X5_trade Q 63 ls (.int v :: .ref a :: st) g = (gK g a = 3 ∧ WP m_X5_trade Q 66 ls st (pI g a 3 v)) := E_pI lo_X5_trade rfl
theorem e_X5_trade_66 {Q : mQ} {l0 l1 l3 l4 l5 l6 : Value} {st : List Value} {g : mG} {x : Nat} : WP m_X5_trade Q 66 [l0, l1, .ref x, l3, l4, l5, l6] st g = WP m_X5_trade Q 67 [l0, l1, .ref x, l3, l4, l5, l6] (.ref x :: st) g := E_al (i := 2) (n := 1) lo_X5_trade rfl rfl
theorem e_X5_trade_66n {Q : mQ} {l0 l1 l3 l4 l5 l6 : Value} {st : List Value} {g : mG} : WP m_X5_trade Q 66 [l0, l1, .null, l3, l4, l5, l6] st g = WP m_X5_trade Q 67 [l0, l1, .null, l3, l4, l5, l6] (.null :: st) g := E_aln (i := 2) (n := 1) lo_X5_trade rfl rfl
theorem e_X5_trade_67 {Q : mQ} {ls st : List Value} {g : mG} {a : Nat} : WP m_X5_trade Q 67 ls (.ref a :: st) g = ((gK g a = 3 ∧ gR g a 5 ≠ 0) ∧ WP m_X5_trade Q 70 ls (.ref (gR g a 5) :: st) g) := E_gR lo_X5_trade rfl
theorem e_X5_trade_70 {Q : mQ} {l0 l1 l2 l3 l4 l5 : Value} {st : List Value} {g : mG} {x : Int32} : WP m_X5_trade Q 70 [l0, l1, l2, l3, l4, l5, .int x] st g = WP m_X5_trade Q 72 [l0, l1, l2, l3, l4, l5, .int x] (.int x :: st) g := E_il (i := 6) (n := 2) lo_X5_trade rfl rfl
theorem e_X5_trade_72 {Q : mQ} {l0 l1 l2 l3 l5 l6 : Value} {st : List Value} {g : mG} {x : Nat} : WP m_X5_trade Q 72 [l0, l1, l2, l3, .ref x, l5, l6] st g = WP m_X5_trade Q 74 [l0, l1, l2, l3, .ref x, l5, l6] (.ref x :: st) g := E_al (i := 4) (n := 2) lo_X5_trade rfl rfl
theorem e_X5_trade_72n {Q : mQ} {l0 l1 l2 l3 l5 l6 : Value} {st : List Value} {g : mG} : WP m_X5_trade Q 72 [l0, l1, l2, l3, .null, l5, l6] st g = WP m_X5_trade Q 74 [l0, l1, l2, l3, .null, l5, l6] (.null :: st) g := E_aln (i := 4) (n := 2) lo_X5_trade rfl rfl
theorem e_X5_trade_74 {Q : mQ} {ls st : List Value} {g : mG} {a : Nat} : WP m_X5_trade Q 74 ls (.ref a :: st) g = ((gK g a = 1 ∧ gR g a 7 ≠ 0) ∧ WP m_X5_trade Q 77 ls (.ref (gR g a 7) :: st) g) := E_gR lo_X5_trade rfl
theorem e_X5_trade_77 {Q : mQ} {ls st : List Value} {g : mG} {b : Nat} {a0 a1 : Value} : WP m_X5_trade Q 77 ls (a1 :: a0 :: .ref b :: st) g = (st.length ≤ 4 ∧ gK g b = 5 ∧ stbs g ls ∧ stbs g st ∧ w_X4_giveOldest [.ref b, a0, a1] g (fun v g' => WP m_X5_trade Q 80 ls (v.toList ++ st) g')) := E_CV (ar := [a1, a0, .ref b]) lo_X5_trade rfl rfl rfl (by decide)
theorem e_X5_trade_80 {Q : mQ} {l0 l1 l2 l3 l4 l6 : Value} {st : List Value} {g : mG} {x : Nat} : WP m_X5_trade Q 80 [l0, l1, l2, l3, l4, .ref x, l6] st g = WP m_X5_trade Q 82 [l0, l1, l2, l3, l4, .ref x, l6] (.ref x :: st) g := E_al (i := 5) (n := 2) lo_X5_trade rfl rfl
theorem e_X5_trade_80n {Q : mQ} {l0 l1 l2 l3 l4 l6 : Value} {st : List Value} {g : mG} : WP m_X5_trade Q 80 [l0, l1, l2, l3, l4, .null, l6] st g = WP m_X5_trade Q 82 [l0, l1, l2, l3, l4, .null, l6] (.null :: st) g := E_aln (i := 5) (n := 2) lo_X5_trade rfl rfl
theorem e_X5_trade_82 {Q : mQ} {ls st : List Value} {g : mG} {x : Value} : WP m_X5_trade Q 82 ls (x :: st) g = (cat1 x ∧ WP m_X5_trade Q 83 ls (x :: x :: st) g) := E_dup lo_X5_trade rfl
theorem e_X5_trade_83 {Q : mQ} {ls st : List Value} {g : mG} {a : Nat} : WP m_X5_trade Q 83 ls (.ref a :: st) g = (gK g a = 1 ∧ WP m_X5_trade Q 86 ls (.int (gI g a 0) :: st) g) := E_gI lo_X5_trade rfl
theorem e_X5_trade_86 {Q : mQ} {l0 l1 l2 l3 l4 l5 : Value} {st : List Value} {g : mG} {x : Int32} : WP m_X5_trade Q 86 [l0, l1, l2, l3, l4, l5, .int x] st g = WP m_X5_trade Q 88 [l0, l1, l2, l3, l4, l5, .int x] (.int x :: st) g := E_il (i := 6) (n := 2) lo_X5_trade rfl rfl
theorem e_X5_trade_88 {Q : mQ} {l0 l1 l2 l4 l5 l6 : Value} {st : List Value} {g : mG} {x : Int32} : WP m_X5_trade Q 88 [l0, l1, l2, .int x, l4, l5, l6] st g = WP m_X5_trade Q 89 [l0, l1, l2, .int x, l4, l5, l6] (.int x :: st) g := E_il (i := 3) (n := 1) lo_X5_trade rfl rfl
theorem e_X5_trade_89 {Q : mQ} {ls st : List Value} {g : mG} {x y : Int32} : WP m_X5_trade Q 89 ls (.int y :: .int x :: st) g = WP m_X5_trade Q 90 ls (.int (x * y) :: st) g := E_b2 (f := fun x y => x * y) lo_X5_trade rfl
theorem e_X5_trade_90 {Q : mQ} {ls st : List Value} {g : mG} {x y : Int32} : WP m_X5_trade Q 90 ls (.int y :: .int x :: st) g = WP m_X5_trade Q 91 ls (.int (x + y) :: st) g := E_b2 (f := fun x y => x + y) lo_X5_trade rfl
theorem e_X5_trade_91 {Q : mQ} {ls st : List Value} {g : mG} {a : Nat} {v : Int32} : WP m_X5_trade Q 91 ls (.int v :: .ref a :: st) g = (gK g a = 1 ∧ WP m_X5_trade Q 94 ls st (pI g a 0 v)) := E_pI lo_X5_trade rfl
theorem e_X5_trade_94 {Q : mQ} {l0 l1 l2 l3 l5 l6 : Value} {st : List Value} {g : mG} {x : Nat} : WP m_X5_trade Q 94 [l0, l1, l2, l3, .ref x, l5, l6] st g = WP m_X5_trade Q 96 [l0, l1, l2, l3, .ref x, l5, l6] (.ref x :: st) g := E_al (i := 4) (n := 2) lo_X5_trade rfl rfl
theorem e_X5_trade_94n {Q : mQ} {l0 l1 l2 l3 l5 l6 : Value} {st : List Value} {g : mG} : WP m_X5_trade Q 94 [l0, l1, l2, l3, .null, l5, l6] st g = WP m_X5_trade Q 96 [l0, l1, l2, l3, .null, l5, l6] (.null :: st) g := E_aln (i := 4) (n := 2) lo_X5_trade rfl rfl
theorem e_X5_trade_96 {Q : mQ} {ls st : List Value} {g : mG} {x : Value} : WP m_X5_trade Q 96 ls (x :: st) g = (cat1 x ∧ WP m_X5_trade Q 97 ls (x :: x :: st) g) := E_dup lo_X5_trade rfl
theorem e_X5_trade_97 {Q : mQ} {ls st : List Value} {g : mG} {a : Nat} : WP m_X5_trade Q 97 ls (.ref a :: st) g = (gK g a = 1 ∧ WP m_X5_trade Q 100 ls (.int (gI g a 0) :: st) g) := E_gI lo_X5_trade rfl
theorem e_X5_trade_100 {Q : mQ} {l0 l1 l2 l3 l4 l5 : Value} {st : List Value} {g : mG} {x : Int32} : WP m_X5_trade Q 100 [l0, l1, l2, l3, l4, l5, .int x] st g = WP m_X5_trade Q 102 [l0, l1, l2, l3, l4, l5, .int x] (.int x :: st) g := E_il (i := 6) (n := 2) lo_X5_trade rfl rfl
theorem e_X5_trade_102 {Q : mQ} {l0 l2 l3 l4 l5 l6 : Value} {st : List Value} {g : mG} {x : Nat} : WP m_X5_trade Q 102 [l0, .ref x, l2, l3, l4, l5, l6] st g = WP m_X5_trade Q 103 [l0, .ref x, l2, l3, l4, l5, l6] (.ref x :: st) g := E_al (i := 1) (n := 1) lo_X5_trade rfl rfl
theorem e_X5_trade_102n {Q : mQ} {l0 l2 l3 l4 l5 l6 : Value} {st : List Value} {g : mG} : WP m_X5_trade Q 102 [l0, .null, l2, l3, l4, l5, l6] st g = WP m_X5_trade Q 103 [l0, .null, l2, l3, l4, l5, l6] (.null :: st) g := E_aln (i := 1) (n := 1) lo_X5_trade rfl rfl
theorem e_X5_trade_103 {Q : mQ} {ls st : List Value} {g : mG} {a : Nat} : WP m_X5_trade Q 103 ls (.ref a :: st) g = (gK g a = 3 ∧ WP m_X5_trade Q 106 ls (.int (gI g a 4) :: st) g) := E_gI lo_X5_trade rfl
theorem e_X5_trade_106 {Q : mQ} {l0 l1 l2 l4 l5 l6 : Value} {st : List Value} {g : mG} {x : Int32} : WP m_X5_trade Q 106 [l0, l1, l2, .int x, l4, l5, l6] st g = WP m_X5_trade Q 107 [l0, l1, l2, .int x, l4, l5, l6] (.int x :: st) g := E_il (i := 3) (n := 1) lo_X5_trade rfl rfl
theorem e_X5_trade_107 {Q : mQ} {ls st : List Value} {g : mG} {x y : Int32} : WP m_X5_trade Q 107 ls (.int y :: .int x :: st) g = WP m_X5_trade Q 108 ls (.int (x - y) :: st) g := E_b2 (f := fun x y => x - y) lo_X5_trade rfl
theorem e_X5_trade_108 {Q : mQ} {ls st : List Value} {g : mG} {x y : Int32} : WP m_X5_trade Q 108 ls (.int y :: .int x :: st) g = WP m_X5_trade Q 109 ls (.int (x * y) :: st) g := E_b2 (f := fun x y => x * y) lo_X5_trade rfl
theorem e_X5_trade_109 {Q : mQ} {ls st : List Value} {g : mG} {x y : Int32} : WP m_X5_trade Q 109 ls (.int y :: .int x :: st) g = WP m_X5_trade Q 110 ls (.int (x + y) :: st) g := E_b2 (f := fun x y => x + y) lo_X5_trade rfl
theorem e_X5_trade_110 {Q : mQ} {ls st : List Value} {g : mG} {a : Nat} {v : Int32} : WP m_X5_trade Q 110 ls (.int v :: .ref a :: st) g = (gK g a = 1 ∧ WP m_X5_trade Q 113 ls st (pI g a 0 v)) := E_pI lo_X5_trade rfl
theorem e_X5_trade_113 {Q : mQ} {l1 l2 l3 l4 l5 l6 : Value} {st : List Value} {g : mG} {x : Nat} : WP m_X5_trade Q 113 [.ref x, l1, l2, l3, l4, l5, l6] st g = WP m_X5_trade Q 114 [.ref x, l1, l2, l3, l4, l5, l6] (.ref x :: st) g := E_al (i := 0) (n := 1) lo_X5_trade rfl rfl
theorem e_X5_trade_114 {Q : mQ} {ls st : List Value} {g : mG} {x : Value} : WP m_X5_trade Q 114 ls (x :: st) g = (cat1 x ∧ WP m_X5_trade Q 115 ls (x :: x :: st) g) := E_dup lo_X5_trade rfl
theorem e_X5_trade_115 {Q : mQ} {ls st : List Value} {g : mG} {a : Nat} : WP m_X5_trade Q 115 ls (.ref a :: st) g = (gK g a = 6 ∧ WP m_X5_trade Q 118 ls (.int (gI g a 7) :: st) g) := E_gI lo_X5_trade rfl
theorem e_X5_trade_118 {Q : mQ} {l0 l1 l2 l3 l4 l5 : Value} {st : List Value} {g : mG} {x : Int32} : WP m_X5_trade Q 118 [l0, l1, l2, l3, l4, l5, .int x] st g = WP m_X5_trade Q 120 [l0, l1, l2, l3, l4, l5, .int x] (.int x :: st) g := E_il (i := 6) (n := 2) lo_X5_trade rfl rfl
theorem e_X5_trade_120 {Q : mQ} {ls st : List Value} {g : mG} {x y : Int32} : WP m_X5_trade Q 120 ls (.int y :: .int x :: st) g = WP m_X5_trade Q 121 ls (.int (x + y) :: st) g := E_b2 (f := fun x y => x + y) lo_X5_trade rfl
theorem e_X5_trade_121 {Q : mQ} {ls st : List Value} {g : mG} {a : Nat} {v : Int32} : WP m_X5_trade Q 121 ls (.int v :: .ref a :: st) g = (gK g a = 6 ∧ WP m_X5_trade Q 124 ls st (pI g a 7 v)) := E_pI lo_X5_trade rfl
theorem e_X5_trade_124 {Q : mQ} {l1 l2 l3 l4 l5 l6 : Value} {st : List Value} {g : mG} {x : Nat} : WP m_X5_trade Q 124 [.ref x, l1, l2, l3, l4, l5, l6] st g = WP m_X5_trade Q 125 [.ref x, l1, l2, l3, l4, l5, l6] (.ref x :: st) g := E_al (i := 0) (n := 1) lo_X5_trade rfl rfl
theorem e_X5_trade_125 {Q : mQ} {l0 l1 l2 l4 l5 l6 : Value} {st : List Value} {g : mG} {x : Int32} : WP m_X5_trade Q 125 [l0, l1, l2, .int x, l4, l5, l6] st g = WP m_X5_trade Q 126 [l0, l1, l2, .int x, l4, l5, l6] (.int x :: st) g := E_il (i := 3) (n := 1) lo_X5_trade rfl rfl
theorem e_X5_trade_126 {Q : mQ} {ls st : List Value} {g : mG} {a : Nat} {v : Int32} : WP m_X5_trade Q 126 ls (.int v :: .ref a :: st) g = (gK g a = 6 ∧ WP m_X5_trade Q 129 ls st (pI g a 8 v)) := E_pI lo_X5_trade rfl
theorem e_X5_trade_129 {Q : mQ} {ls : List Value} {g : mG} : WP m_X5_trade Q 129 ls [] g = Q none g := E_ret lo_X5_trade rfl
/-! KilnPermits$Town.meetOthers(LKilnPermits$Order;)V -/
def m_X5_meetOthers : List (Nat × mT) := [(0, tD (f_ic (nI 0) 1)),
  (1, tD (f_is 2 1)),
  (2, tD (f_il 2 1)),
  (3, tD (f_al 0 1)),
  (4, tD (f_gR 6 13)),
  (7, tD (f_alen)),
  (8, tI2 (fun x y => y ≤ x) 87),
  (11, tD (f_al 1 1)),
  (12, tD (f_gI 3 3)),
  (15, tI1 (fun x => x ≤ 0) 87),
  (18, tD (f_al 0 1)),
  (19, tD (f_al 1 1)),
  (20, tD (f_gI 3 1)),
  (23, tI1 (fun x => ¬ x = 0) 30),
  (26, tD (f_ic (nI 1) 1)),
  (27, tD (f_goto 31)),
  (30, tD (f_ic (nI 0) 1)),
  (31, tC w_X5_bestOf 6 2),
  (34, tD (f_as 3 1)),
  (35, tD (f_al 3 1)),
  (36, tD (f_ifn 50 true)),
  (39, tD (f_al 3 1)),
  (40, tD (f_al 1 1)),
  (41, tD (f_gI 3 4)),
  (44, tC w_X2_isMetAt 3 2),
  (47, tI1 (fun x => ¬ x = 0) 51),
  (50, tR f_ret),
  (51, tD (f_al 1 1)),
  (52, tD (f_gI 3 1)),
  (55, tI1 (fun x => x = 0) 71),
  (58, tD (f_al 0 1)),
  (59, tD (f_al 1 1)),
  (60, tD (f_al 3 1)),
  (61, tD (f_al 3 1)),
  (62, tD (f_gI 3 4)),
  (65, tC w_X5_trade 6 4),
  (68, tD (f_goto 81)),
  (71, tD (f_al 0 1)),
  (72, tD (f_al 3 1)),
  (73, tD (f_al 1 1)),
  (74, tD (f_al 3 1)),
  (75, tD (f_gI 3 4)),
  (78, tC w_X5_trade 6 4),
  (81, tD (f_inc 2 (nI 1))),
  (84, tD (f_goto 2)),
  (87, tR f_ret)]
abbrev w_X5_meetOthers : mS := wm m_X5_meetOthers 2 2
set_option maxRecDepth 100000 in
theorem lo_X5_meetOthers : locs_ok m_X5_meetOthers := List.forall_mem_cons.mpr ⟨loc_D mo_ic,
  List.forall_mem_cons.mpr ⟨loc_D mo_is,
  List.forall_mem_cons.mpr ⟨loc_D mo_il,
  List.forall_mem_cons.mpr ⟨loc_D mo_al,
  List.forall_mem_cons.mpr ⟨loc_D mo_gR,
  List.forall_mem_cons.mpr ⟨loc_D mo_alen,
  List.forall_mem_cons.mpr ⟨loc_I2,
  List.forall_mem_cons.mpr ⟨loc_D mo_al,
  List.forall_mem_cons.mpr ⟨loc_D mo_gI,
  List.forall_mem_cons.mpr ⟨loc_I1,
  List.forall_mem_cons.mpr ⟨loc_D mo_al,
  List.forall_mem_cons.mpr ⟨loc_D mo_al,
  List.forall_mem_cons.mpr ⟨loc_D mo_gI,
  List.forall_mem_cons.mpr ⟨loc_I1,
  List.forall_mem_cons.mpr ⟨loc_D mo_ic,
  List.forall_mem_cons.mpr ⟨loc_D mo_goto,
  List.forall_mem_cons.mpr ⟨loc_D mo_ic,
  List.forall_mem_cons.mpr ⟨loc_C sm_X5_bestOf.1,
  List.forall_mem_cons.mpr ⟨loc_D mo_as,
  List.forall_mem_cons.mpr ⟨loc_D mo_al,
  List.forall_mem_cons.mpr ⟨loc_D mo_ifn,
  List.forall_mem_cons.mpr ⟨loc_D mo_al,
  List.forall_mem_cons.mpr ⟨loc_D mo_al,
  List.forall_mem_cons.mpr ⟨loc_D mo_gI,
  List.forall_mem_cons.mpr ⟨loc_C sm_X2_isMetAt.1,
  List.forall_mem_cons.mpr ⟨loc_I1,
  List.forall_mem_cons.mpr ⟨loc_R,
  List.forall_mem_cons.mpr ⟨loc_D mo_al,
  List.forall_mem_cons.mpr ⟨loc_D mo_gI,
  List.forall_mem_cons.mpr ⟨loc_I1,
  List.forall_mem_cons.mpr ⟨loc_D mo_al,
  List.forall_mem_cons.mpr ⟨loc_D mo_al,
  List.forall_mem_cons.mpr ⟨loc_D mo_al,
  List.forall_mem_cons.mpr ⟨loc_D mo_al,
  List.forall_mem_cons.mpr ⟨loc_D mo_gI,
  List.forall_mem_cons.mpr ⟨loc_C sm_X5_trade.1,
  List.forall_mem_cons.mpr ⟨loc_D mo_goto,
  List.forall_mem_cons.mpr ⟨loc_D mo_al,
  List.forall_mem_cons.mpr ⟨loc_D mo_al,
  List.forall_mem_cons.mpr ⟨loc_D mo_al,
  List.forall_mem_cons.mpr ⟨loc_D mo_al,
  List.forall_mem_cons.mpr ⟨loc_D mo_gI,
  List.forall_mem_cons.mpr ⟨loc_C sm_X5_trade.1,
  List.forall_mem_cons.mpr ⟨loc_D mo_inc,
  List.forall_mem_cons.mpr ⟨loc_D mo_goto,
  List.forall_mem_cons.mpr ⟨loc_R,
  fun _ h => absurd h List.not_mem_nil⟩⟩⟩⟩⟩⟩⟩⟩⟩⟩⟩⟩⟩⟩⟩⟩⟩⟩⟩⟩⟩⟩⟩⟩⟩⟩⟩⟩⟩⟩⟩⟩⟩⟩⟩⟩⟩⟩⟩⟩⟩⟩⟩⟩⟩⟩
set_option maxRecDepth 100000 in
theorem sm_X5_meetOthers : SM yX5_meetOthers cX5_meetOthers 4 none 5 w_X5_meetOthers := SM_of' RX5 "meetOthers" rfl rfl (by decide) (by decide) (by decide) lo_X5_meetOthers (List.forall_mem_cons.mpr ⟨STP.r mo_ic (q_iconst dX5_meetOthers_0 (by decide)),
  List.forall_mem_cons.mpr ⟨STP.r mo_is (q_istore_n dX5_meetOthers_1 rfl),
  List.forall_mem_cons.mpr ⟨STP.r mo_il (q_iload_n dX5_meetOthers_2 rfl),
  List.forall_mem_cons.mpr ⟨STP.r mo_al (q_aload_n dX5_meetOthers_3 rfl),
  List.forall_mem_cons.mpr ⟨STP.r mo_gR (q_gR ⟨by decide, by decide⟩ (by decide) rfl (by decide) kf_X5_35 dX5_meetOthers_4),
  List.forall_mem_cons.mpr ⟨STP.r mo_alen (q_alen dX5_meetOthers_7),
  List.forall_mem_cons.mpr ⟨(q_ic_ge dX5_meetOthers_8 (by decide)).r,
  List.forall_mem_cons.mpr ⟨STP.r mo_al (q_aload_n dX5_meetOthers_11 rfl),
  List.forall_mem_cons.mpr ⟨STP.r mo_gI (q_gI ⟨by decide, by decide⟩ (by decide) rfl kf_X5_154 dX5_meetOthers_12),
  List.forall_mem_cons.mpr ⟨(q_if_le dX5_meetOthers_15 (by decide)).r,
  List.forall_mem_cons.mpr ⟨STP.r mo_al (q_aload_n dX5_meetOthers_18 rfl),
  List.forall_mem_cons.mpr ⟨STP.r mo_al (q_aload_n dX5_meetOthers_19 rfl),
  List.forall_mem_cons.mpr ⟨STP.r mo_gI (q_gI ⟨by decide, by decide⟩ (by decide) rfl kf_X5_163 dX5_meetOthers_20),
  List.forall_mem_cons.mpr ⟨(q_if_ne dX5_meetOthers_23 (by decide)).r,
  List.forall_mem_cons.mpr ⟨STP.r mo_ic (q_iconst dX5_meetOthers_26 (by decide)),
  List.forall_mem_cons.mpr ⟨STP.r mo_goto (q_goto dX5_meetOthers_27 (by decide)),
  List.forall_mem_cons.mpr ⟨STP.r mo_ic (q_iconst dX5_meetOthers_30 (by decide)),
  List.forall_mem_cons.mpr ⟨(snd_CV sm_X5_bestOf ⟨by decide, by decide⟩ rfl km_X5_167 kt_X5_bestOf kv_X5_bestOf rfl ki_X5 kx_X5_bestOf ⟨by decide, by decide, by decide +kernel⟩ (by decide) (by decide) dX5_meetOthers_31).r,
  List.forall_mem_cons.mpr ⟨STP.r mo_as (q_astore_n dX5_meetOthers_34 rfl),
  List.forall_mem_cons.mpr ⟨STP.r mo_al (q_aload_n dX5_meetOthers_35 rfl),
  List.forall_mem_cons.mpr ⟨STP.r mo_ifn (q_ifnull dX5_meetOthers_36 (by decide)),
  List.forall_mem_cons.mpr ⟨STP.r mo_al (q_aload_n dX5_meetOthers_39 rfl),
  List.forall_mem_cons.mpr ⟨STP.r mo_al (q_aload_n dX5_meetOthers_40 rfl),
  List.forall_mem_cons.mpr ⟨STP.r mo_gI (q_gI ⟨by decide, by decide⟩ (by decide) rfl kf_X5_171 dX5_meetOthers_41),
  List.forall_mem_cons.mpr ⟨(snd_CV sm_X2_isMetAt ⟨by decide, by decide⟩ rfl km_X5_174 kt_X2_isMetAt kv_X2_isMetAt rfl ki_X2 kx_X2_isMetAt ⟨by decide, by decide, by decide +kernel⟩ (by decide) (by decide) dX5_meetOthers_44).r,
  List.forall_mem_cons.mpr ⟨(q_if_ne dX5_meetOthers_47 (by decide)).r,
  List.forall_mem_cons.mpr ⟨r_ret dX5_meetOthers_50,
  List.forall_mem_cons.mpr ⟨STP.r mo_al (q_aload_n dX5_meetOthers_51 rfl),
  List.forall_mem_cons.mpr ⟨STP.r mo_gI (q_gI ⟨by decide, by decide⟩ (by decide) rfl kf_X5_163 dX5_meetOthers_52),
  List.forall_mem_cons.mpr ⟨(q_if_eq dX5_meetOthers_55 (by decide)).r,
  List.forall_mem_cons.mpr ⟨STP.r mo_al (q_aload_n dX5_meetOthers_58 rfl),
  List.forall_mem_cons.mpr ⟨STP.r mo_al (q_aload_n dX5_meetOthers_59 rfl),
  List.forall_mem_cons.mpr ⟨STP.r mo_al (q_aload_n dX5_meetOthers_60 rfl),
  List.forall_mem_cons.mpr ⟨STP.r mo_al (q_aload_n dX5_meetOthers_61 rfl),
  List.forall_mem_cons.mpr ⟨STP.r mo_gI (q_gI ⟨by decide, by decide⟩ (by decide) rfl kf_X5_171 dX5_meetOthers_62),
  List.forall_mem_cons.mpr ⟨(snd_CV sm_X5_trade ⟨by decide, by decide⟩ rfl km_X5_178 kt_X5_trade kv_X5_trade rfl ki_X5 kx_X5_trade ⟨by decide, by decide, by decide +kernel⟩ (by decide) (by decide) dX5_meetOthers_65).r,
  List.forall_mem_cons.mpr ⟨STP.r mo_goto (q_goto dX5_meetOthers_68 (by decide)),
  List.forall_mem_cons.mpr ⟨STP.r mo_al (q_aload_n dX5_meetOthers_71 rfl),
  List.forall_mem_cons.mpr ⟨STP.r mo_al (q_aload_n dX5_meetOthers_72 rfl),
  List.forall_mem_cons.mpr ⟨STP.r mo_al (q_aload_n dX5_meetOthers_73 rfl),
  List.forall_mem_cons.mpr ⟨STP.r mo_al (q_aload_n dX5_meetOthers_74 rfl),
  List.forall_mem_cons.mpr ⟨STP.r mo_gI (q_gI ⟨by decide, by decide⟩ (by decide) rfl kf_X5_171 dX5_meetOthers_75),
  List.forall_mem_cons.mpr ⟨(snd_CV sm_X5_trade ⟨by decide, by decide⟩ rfl km_X5_178 kt_X5_trade kv_X5_trade rfl ki_X5 kx_X5_trade ⟨by decide, by decide, by decide +kernel⟩ (by decide) (by decide) dX5_meetOthers_78).r,
  List.forall_mem_cons.mpr ⟨STP.r mo_inc (q_inc dX5_meetOthers_81 (by decide)),
  List.forall_mem_cons.mpr ⟨STP.r mo_goto (q_goto dX5_meetOthers_84 (by decide)),
  List.forall_mem_cons.mpr ⟨r_ret dX5_meetOthers_87,
  fun _ h => absurd h List.not_mem_nil⟩⟩⟩⟩⟩⟩⟩⟩⟩⟩⟩⟩⟩⟩⟩⟩⟩⟩⟩⟩⟩⟩⟩⟩⟩⟩⟩⟩⟩⟩⟩⟩⟩⟩⟩⟩⟩⟩⟩⟩⟩⟩⟩⟩⟩⟩)
theorem e_X5_meetOthers_0 {Q : mQ} {ls st : List Value} {g : mG} : WP m_X5_meetOthers Q 0 ls st g = WP m_X5_meetOthers Q 1 ls (.int (nI 0) :: st) g := E_ic (v := nI 0) (n := 1) lo_X5_meetOthers rfl
theorem e_X5_meetOthers_1 {Q : mQ} {l0 l1 l2 l3 : Value} {st : List Value} {g : mG} {x : Int32} : WP m_X5_meetOthers Q 1 [l0, l1, l2, l3] (.int x :: st) g = (nl1 l1 ∧ WP m_X5_meetOthers Q 2 [l0, l1, .int x, l3] st g) := E_is (i := 2) (n := 1) lo_X5_meetOthers rfl (Nat.le_of_ble_eq_true rfl)
theorem e_X5_meetOthers_2 {Q : mQ} {l0 l1 l3 : Value} {st : List Value} {g : mG} {x : Int32} : WP m_X5_meetOthers Q 2 [l0, l1, .int x, l3] st g = WP m_X5_meetOthers Q 3 [l0, l1, .int x, l3] (.int x :: st) g := E_il (i := 2) (n := 1) lo_X5_meetOthers rfl rfl
theorem e_X5_meetOthers_3 {Q : mQ} {l1 l2 l3 : Value} {st : List Value} {g : mG} {x : Nat} : WP m_X5_meetOthers Q 3 [.ref x, l1, l2, l3] st g = WP m_X5_meetOthers Q 4 [.ref x, l1, l2, l3] (.ref x :: st) g := E_al (i := 0) (n := 1) lo_X5_meetOthers rfl rfl
theorem e_X5_meetOthers_4 {Q : mQ} {ls st : List Value} {g : mG} {a : Nat} : WP m_X5_meetOthers Q 4 ls (.ref a :: st) g = ((gK g a = 6 ∧ gR g a 13 ≠ 0) ∧ WP m_X5_meetOthers Q 7 ls (.ref (gR g a 13) :: st) g) := E_gR lo_X5_meetOthers rfl
theorem e_X5_meetOthers_7 {Q : mQ} {ls st : List Value} {g : mG} {a : Nat} : WP m_X5_meetOthers Q 7 ls (.ref a :: st) g = ((10 ≤ gK g a ∧ gK g a ≤ 17) ∧ WP m_X5_meetOthers Q 8 ls (.int (nI (gN g a)) :: st) g) := E_alen lo_X5_meetOthers rfl
theorem e_X5_meetOthers_8 {Q : mQ} {ls st : List Value} {g : mG} {x y : Int32} : WP m_X5_meetOthers Q 8 ls (.int y :: .int x :: st) g = ((y ≤ x → WP m_X5_meetOthers Q 87 ls st g) ∧ (¬ (y ≤ x) → WP m_X5_meetOthers Q 11 ls st g)) := E_I2 (c := fun x y => y ≤ x) (t := 87) lo_X5_meetOthers rfl
theorem e_X5_meetOthers_11 {Q : mQ} {l0 l2 l3 : Value} {st : List Value} {g : mG} {x : Nat} : WP m_X5_meetOthers Q 11 [l0, .ref x, l2, l3] st g = WP m_X5_meetOthers Q 12 [l0, .ref x, l2, l3] (.ref x :: st) g := E_al (i := 1) (n := 1) lo_X5_meetOthers rfl rfl
theorem e_X5_meetOthers_11n {Q : mQ} {l0 l2 l3 : Value} {st : List Value} {g : mG} : WP m_X5_meetOthers Q 11 [l0, .null, l2, l3] st g = WP m_X5_meetOthers Q 12 [l0, .null, l2, l3] (.null :: st) g := E_aln (i := 1) (n := 1) lo_X5_meetOthers rfl rfl
theorem e_X5_meetOthers_12 {Q : mQ} {ls st : List Value} {g : mG} {a : Nat} : WP m_X5_meetOthers Q 12 ls (.ref a :: st) g = (gK g a = 3 ∧ WP m_X5_meetOthers Q 15 ls (.int (gI g a 3) :: st) g) := E_gI lo_X5_meetOthers rfl
theorem e_X5_meetOthers_15 {Q : mQ} {ls st : List Value} {g : mG} {x : Int32} : WP m_X5_meetOthers Q 15 ls (.int x :: st) g = ((x ≤ 0 → WP m_X5_meetOthers Q 87 ls st g) ∧ (¬ (x ≤ 0) → WP m_X5_meetOthers Q 18 ls st g)) := E_I1 (c := fun x => x ≤ 0) (t := 87) lo_X5_meetOthers rfl
theorem e_X5_meetOthers_18 {Q : mQ} {l1 l2 l3 : Value} {st : List Value} {g : mG} {x : Nat} : WP m_X5_meetOthers Q 18 [.ref x, l1, l2, l3] st g = WP m_X5_meetOthers Q 19 [.ref x, l1, l2, l3] (.ref x :: st) g := E_al (i := 0) (n := 1) lo_X5_meetOthers rfl rfl
theorem e_X5_meetOthers_19 {Q : mQ} {l0 l2 l3 : Value} {st : List Value} {g : mG} {x : Nat} : WP m_X5_meetOthers Q 19 [l0, .ref x, l2, l3] st g = WP m_X5_meetOthers Q 20 [l0, .ref x, l2, l3] (.ref x :: st) g := E_al (i := 1) (n := 1) lo_X5_meetOthers rfl rfl
theorem e_X5_meetOthers_19n {Q : mQ} {l0 l2 l3 : Value} {st : List Value} {g : mG} : WP m_X5_meetOthers Q 19 [l0, .null, l2, l3] st g = WP m_X5_meetOthers Q 20 [l0, .null, l2, l3] (.null :: st) g := E_aln (i := 1) (n := 1) lo_X5_meetOthers rfl rfl
theorem e_X5_meetOthers_20 {Q : mQ} {ls st : List Value} {g : mG} {a : Nat} : WP m_X5_meetOthers Q 20 ls (.ref a :: st) g = (gK g a = 3 ∧ WP m_X5_meetOthers Q 23 ls (.int (gI g a 1) :: st) g) := E_gI lo_X5_meetOthers rfl
theorem e_X5_meetOthers_23 {Q : mQ} {ls st : List Value} {g : mG} {x : Int32} : WP m_X5_meetOthers Q 23 ls (.int x :: st) g = ((¬ x = 0 → WP m_X5_meetOthers Q 30 ls st g) ∧ (¬ (¬ x = 0) → WP m_X5_meetOthers Q 26 ls st g)) := E_I1 (c := fun x => ¬ x = 0) (t := 30) lo_X5_meetOthers rfl
theorem e_X5_meetOthers_26 {Q : mQ} {ls st : List Value} {g : mG} : WP m_X5_meetOthers Q 26 ls st g = WP m_X5_meetOthers Q 27 ls (.int (nI 1) :: st) g := E_ic (v := nI 1) (n := 1) lo_X5_meetOthers rfl
theorem e_X5_meetOthers_27 {Q : mQ} {ls st : List Value} {g : mG} : WP m_X5_meetOthers Q 27 ls st g = WP m_X5_meetOthers Q 31 ls st g := E_goto lo_X5_meetOthers rfl
theorem e_X5_meetOthers_30 {Q : mQ} {ls st : List Value} {g : mG} : WP m_X5_meetOthers Q 30 ls st g = WP m_X5_meetOthers Q 31 ls (.int (nI 0) :: st) g := E_ic (v := nI 0) (n := 1) lo_X5_meetOthers rfl
theorem e_X5_meetOthers_31 {Q : mQ} {ls st : List Value} {g : mG} {b : Nat} {a0 : Value} : WP m_X5_meetOthers Q 31 ls (a0 :: .ref b :: st) g = (st.length ≤ 4 ∧ gK g b = 6 ∧ stbs g ls ∧ stbs g st ∧ w_X5_bestOf [.ref b, a0] g (fun v g' => WP m_X5_meetOthers Q 34 ls (v.toList ++ st) g')) := E_CV (ar := [a0, .ref b]) lo_X5_meetOthers rfl rfl rfl (by decide)
theorem e_X5_meetOthers_34 {Q : mQ} {l0 l1 l2 l3 : Value} {st : List Value} {g : mG} {x : Nat} : WP m_X5_meetOthers Q 34 [l0, l1, l2, l3] (.ref x :: st) g = (nl1 l2 ∧ WP m_X5_meetOthers Q 35 [l0, l1, l2, .ref x] st g) := E_as (i := 3) (n := 1) lo_X5_meetOthers rfl (Nat.le_of_ble_eq_true rfl)
theorem e_X5_meetOthers_34n {Q : mQ} {l0 l1 l2 l3 : Value} {st : List Value} {g : mG} : WP m_X5_meetOthers Q 34 [l0, l1, l2, l3] (.null :: st) g = (nl1 l2 ∧ WP m_X5_meetOthers Q 35 [l0, l1, l2, .null] st g) := E_asn (i := 3) (n := 1) lo_X5_meetOthers rfl (Nat.le_of_ble_eq_true rfl)
theorem e_X5_meetOthers_35 {Q : mQ} {l0 l1 l2 : Value} {st : List Value} {g : mG} {x : Nat} : WP m_X5_meetOthers Q 35 [l0, l1, l2, .ref x] st g = WP m_X5_meetOthers Q 36 [l0, l1, l2, .ref x] (.ref x :: st) g := E_al (i := 3) (n := 1) lo_X5_meetOthers rfl rfl
theorem e_X5_meetOthers_35n {Q : mQ} {l0 l1 l2 : Value} {st : List Value} {g : mG} : WP m_X5_meetOthers Q 35 [l0, l1, l2, .null] st g = WP m_X5_meetOthers Q 36 [l0, l1, l2, .null] (.null :: st) g := E_aln (i := 3) (n := 1) lo_X5_meetOthers rfl rfl
theorem e_X5_meetOthers_36 {Q : mQ} {ls st : List Value} {g : mG} {x : Nat} : WP m_X5_meetOthers Q 36 ls (.ref x :: st) g = WP m_X5_meetOthers Q 39 ls st g := E_nr lo_X5_meetOthers rfl
theorem e_X5_meetOthers_36n {Q : mQ} {ls st : List Value} {g : mG} : WP m_X5_meetOthers Q 36 ls (.null :: st) g = WP m_X5_meetOthers Q 50 ls st g := E_nn lo_X5_meetOthers rfl
theorem e_X5_meetOthers_39 {Q : mQ} {l0 l1 l2 : Value} {st : List Value} {g : mG} {x : Nat} : WP m_X5_meetOthers Q 39 [l0, l1, l2, .ref x] st g = WP m_X5_meetOthers Q 40 [l0, l1, l2, .ref x] (.ref x :: st) g := E_al (i := 3) (n := 1) lo_X5_meetOthers rfl rfl
theorem e_X5_meetOthers_39n {Q : mQ} {l0 l1 l2 : Value} {st : List Value} {g : mG} : WP m_X5_meetOthers Q 39 [l0, l1, l2, .null] st g = WP m_X5_meetOthers Q 40 [l0, l1, l2, .null] (.null :: st) g := E_aln (i := 3) (n := 1) lo_X5_meetOthers rfl rfl
theorem e_X5_meetOthers_40 {Q : mQ} {l0 l2 l3 : Value} {st : List Value} {g : mG} {x : Nat} : WP m_X5_meetOthers Q 40 [l0, .ref x, l2, l3] st g = WP m_X5_meetOthers Q 41 [l0, .ref x, l2, l3] (.ref x :: st) g := E_al (i := 1) (n := 1) lo_X5_meetOthers rfl rfl
theorem e_X5_meetOthers_40n {Q : mQ} {l0 l2 l3 : Value} {st : List Value} {g : mG} : WP m_X5_meetOthers Q 40 [l0, .null, l2, l3] st g = WP m_X5_meetOthers Q 41 [l0, .null, l2, l3] (.null :: st) g := E_aln (i := 1) (n := 1) lo_X5_meetOthers rfl rfl
theorem e_X5_meetOthers_41 {Q : mQ} {ls st : List Value} {g : mG} {a : Nat} : WP m_X5_meetOthers Q 41 ls (.ref a :: st) g = (gK g a = 3 ∧ WP m_X5_meetOthers Q 44 ls (.int (gI g a 4) :: st) g) := E_gI lo_X5_meetOthers rfl
theorem e_X5_meetOthers_44 {Q : mQ} {ls st : List Value} {g : mG} {b : Nat} {a0 : Value} : WP m_X5_meetOthers Q 44 ls (a0 :: .ref b :: st) g = (st.length ≤ 4 ∧ gK g b = 3 ∧ stbs g ls ∧ stbs g st ∧ w_X2_isMetAt [.ref b, a0] g (fun v g' => WP m_X5_meetOthers Q 47 ls (v.toList ++ st) g')) := E_CV (ar := [a0, .ref b]) lo_X5_meetOthers rfl rfl rfl (by decide)
theorem e_X5_meetOthers_47 {Q : mQ} {ls st : List Value} {g : mG} {x : Int32} : WP m_X5_meetOthers Q 47 ls (.int x :: st) g = ((¬ x = 0 → WP m_X5_meetOthers Q 51 ls st g) ∧ (¬ (¬ x = 0) → WP m_X5_meetOthers Q 50 ls st g)) := E_I1 (c := fun x => ¬ x = 0) (t := 51) lo_X5_meetOthers rfl
theorem e_X5_meetOthers_50 {Q : mQ} {ls : List Value} {g : mG} : WP m_X5_meetOthers Q 50 ls [] g = Q none g := E_ret lo_X5_meetOthers rfl
theorem e_X5_meetOthers_51 {Q : mQ} {l0 l2 l3 : Value} {st : List Value} {g : mG} {x : Nat} : WP m_X5_meetOthers Q 51 [l0, .ref x, l2, l3] st g = WP m_X5_meetOthers Q 52 [l0, .ref x, l2, l3] (.ref x :: st) g := E_al (i := 1) (n := 1) lo_X5_meetOthers rfl rfl
theorem e_X5_meetOthers_51n {Q : mQ} {l0 l2 l3 : Value} {st : List Value} {g : mG} : WP m_X5_meetOthers Q 51 [l0, .null, l2, l3] st g = WP m_X5_meetOthers Q 52 [l0, .null, l2, l3] (.null :: st) g := E_aln (i := 1) (n := 1) lo_X5_meetOthers rfl rfl
theorem e_X5_meetOthers_52 {Q : mQ} {ls st : List Value} {g : mG} {a : Nat} : WP m_X5_meetOthers Q 52 ls (.ref a :: st) g = (gK g a = 3 ∧ WP m_X5_meetOthers Q 55 ls (.int (gI g a 1) :: st) g) := E_gI lo_X5_meetOthers rfl
theorem e_X5_meetOthers_55 {Q : mQ} {ls st : List Value} {g : mG} {x : Int32} : WP m_X5_meetOthers Q 55 ls (.int x :: st) g = ((x = 0 → WP m_X5_meetOthers Q 71 ls st g) ∧ (¬ (x = 0) → WP m_X5_meetOthers Q 58 ls st g)) := E_I1 (c := fun x => x = 0) (t := 71) lo_X5_meetOthers rfl
theorem e_X5_meetOthers_58 {Q : mQ} {l1 l2 l3 : Value} {st : List Value} {g : mG} {x : Nat} : WP m_X5_meetOthers Q 58 [.ref x, l1, l2, l3] st g = WP m_X5_meetOthers Q 59 [.ref x, l1, l2, l3] (.ref x :: st) g := E_al (i := 0) (n := 1) lo_X5_meetOthers rfl rfl
theorem e_X5_meetOthers_59 {Q : mQ} {l0 l2 l3 : Value} {st : List Value} {g : mG} {x : Nat} : WP m_X5_meetOthers Q 59 [l0, .ref x, l2, l3] st g = WP m_X5_meetOthers Q 60 [l0, .ref x, l2, l3] (.ref x :: st) g := E_al (i := 1) (n := 1) lo_X5_meetOthers rfl rfl
theorem e_X5_meetOthers_59n {Q : mQ} {l0 l2 l3 : Value} {st : List Value} {g : mG} : WP m_X5_meetOthers Q 59 [l0, .null, l2, l3] st g = WP m_X5_meetOthers Q 60 [l0, .null, l2, l3] (.null :: st) g := E_aln (i := 1) (n := 1) lo_X5_meetOthers rfl rfl
theorem e_X5_meetOthers_60 {Q : mQ} {l0 l1 l2 : Value} {st : List Value} {g : mG} {x : Nat} : WP m_X5_meetOthers Q 60 [l0, l1, l2, .ref x] st g = WP m_X5_meetOthers Q 61 [l0, l1, l2, .ref x] (.ref x :: st) g := E_al (i := 3) (n := 1) lo_X5_meetOthers rfl rfl
theorem e_X5_meetOthers_60n {Q : mQ} {l0 l1 l2 : Value} {st : List Value} {g : mG} : WP m_X5_meetOthers Q 60 [l0, l1, l2, .null] st g = WP m_X5_meetOthers Q 61 [l0, l1, l2, .null] (.null :: st) g := E_aln (i := 3) (n := 1) lo_X5_meetOthers rfl rfl
theorem e_X5_meetOthers_61 {Q : mQ} {l0 l1 l2 : Value} {st : List Value} {g : mG} {x : Nat} : WP m_X5_meetOthers Q 61 [l0, l1, l2, .ref x] st g = WP m_X5_meetOthers Q 62 [l0, l1, l2, .ref x] (.ref x :: st) g := E_al (i := 3) (n := 1) lo_X5_meetOthers rfl rfl
theorem e_X5_meetOthers_61n {Q : mQ} {l0 l1 l2 : Value} {st : List Value} {g : mG} : WP m_X5_meetOthers Q 61 [l0, l1, l2, .null] st g = WP m_X5_meetOthers Q 62 [l0, l1, l2, .null] (.null :: st) g := E_aln (i := 3) (n := 1) lo_X5_meetOthers rfl rfl
theorem e_X5_meetOthers_62 {Q : mQ} {ls st : List Value} {g : mG} {a : Nat} : WP m_X5_meetOthers Q 62 ls (.ref a :: st) g = (gK g a = 3 ∧ WP m_X5_meetOthers Q 65 ls (.int (gI g a 4) :: st) g) := E_gI lo_X5_meetOthers rfl
theorem e_X5_meetOthers_65 {Q : mQ} {ls st : List Value} {g : mG} {b : Nat} {a0 a1 a2 : Value} : WP m_X5_meetOthers Q 65 ls (a2 :: a1 :: a0 :: .ref b :: st) g = (st.length ≤ 4 ∧ gK g b = 6 ∧ stbs g ls ∧ stbs g st ∧ w_X5_trade [.ref b, a0, a1, a2] g (fun v g' => WP m_X5_meetOthers Q 68 ls (v.toList ++ st) g')) := E_CV (ar := [a2, a1, a0, .ref b]) lo_X5_meetOthers rfl rfl rfl (by decide)
theorem e_X5_meetOthers_68 {Q : mQ} {ls st : List Value} {g : mG} : WP m_X5_meetOthers Q 68 ls st g = WP m_X5_meetOthers Q 81 ls st g := E_goto lo_X5_meetOthers rfl
theorem e_X5_meetOthers_71 {Q : mQ} {l1 l2 l3 : Value} {st : List Value} {g : mG} {x : Nat} : WP m_X5_meetOthers Q 71 [.ref x, l1, l2, l3] st g = WP m_X5_meetOthers Q 72 [.ref x, l1, l2, l3] (.ref x :: st) g := E_al (i := 0) (n := 1) lo_X5_meetOthers rfl rfl
theorem e_X5_meetOthers_72 {Q : mQ} {l0 l1 l2 : Value} {st : List Value} {g : mG} {x : Nat} : WP m_X5_meetOthers Q 72 [l0, l1, l2, .ref x] st g = WP m_X5_meetOthers Q 73 [l0, l1, l2, .ref x] (.ref x :: st) g := E_al (i := 3) (n := 1) lo_X5_meetOthers rfl rfl
theorem e_X5_meetOthers_72n {Q : mQ} {l0 l1 l2 : Value} {st : List Value} {g : mG} : WP m_X5_meetOthers Q 72 [l0, l1, l2, .null] st g = WP m_X5_meetOthers Q 73 [l0, l1, l2, .null] (.null :: st) g := E_aln (i := 3) (n := 1) lo_X5_meetOthers rfl rfl
theorem e_X5_meetOthers_73 {Q : mQ} {l0 l2 l3 : Value} {st : List Value} {g : mG} {x : Nat} : WP m_X5_meetOthers Q 73 [l0, .ref x, l2, l3] st g = WP m_X5_meetOthers Q 74 [l0, .ref x, l2, l3] (.ref x :: st) g := E_al (i := 1) (n := 1) lo_X5_meetOthers rfl rfl
theorem e_X5_meetOthers_73n {Q : mQ} {l0 l2 l3 : Value} {st : List Value} {g : mG} : WP m_X5_meetOthers Q 73 [l0, .null, l2, l3] st g = WP m_X5_meetOthers Q 74 [l0, .null, l2, l3] (.null :: st) g := E_aln (i := 1) (n := 1) lo_X5_meetOthers rfl rfl
theorem e_X5_meetOthers_74 {Q : mQ} {l0 l1 l2 : Value} {st : List Value} {g : mG} {x : Nat} : WP m_X5_meetOthers Q 74 [l0, l1, l2, .ref x] st g = WP m_X5_meetOthers Q 75 [l0, l1, l2, .ref x] (.ref x :: st) g := E_al (i := 3) (n := 1) lo_X5_meetOthers rfl rfl
theorem e_X5_meetOthers_74n {Q : mQ} {l0 l1 l2 : Value} {st : List Value} {g : mG} : WP m_X5_meetOthers Q 74 [l0, l1, l2, .null] st g = WP m_X5_meetOthers Q 75 [l0, l1, l2, .null] (.null :: st) g := E_aln (i := 3) (n := 1) lo_X5_meetOthers rfl rfl
theorem e_X5_meetOthers_75 {Q : mQ} {ls st : List Value} {g : mG} {a : Nat} : WP m_X5_meetOthers Q 75 ls (.ref a :: st) g = (gK g a = 3 ∧ WP m_X5_meetOthers Q 78 ls (.int (gI g a 4) :: st) g) := E_gI lo_X5_meetOthers rfl
theorem e_X5_meetOthers_78 {Q : mQ} {ls st : List Value} {g : mG} {b : Nat} {a0 a1 a2 : Value} : WP m_X5_meetOthers Q 78 ls (a2 :: a1 :: a0 :: .ref b :: st) g = (st.length ≤ 4 ∧ gK g b = 6 ∧ stbs g ls ∧ stbs g st ∧ w_X5_trade [.ref b, a0, a1, a2] g (fun v g' => WP m_X5_meetOthers Q 81 ls (v.toList ++ st) g')) := E_CV (ar := [a2, a1, a0, .ref b]) lo_X5_meetOthers rfl rfl rfl (by decide)
theorem e_X5_meetOthers_81 {Q : mQ} {l0 l1 l3 : Value} {st : List Value} {g : mG} {x : Int32} : WP m_X5_meetOthers Q 81 [l0, l1, .int x, l3] st g = (nl1 l1 ∧ WP m_X5_meetOthers Q 84 [l0, l1, .int (x + nI 1), l3] st g) := E_inc (i := 2) (d := nI 1) lo_X5_meetOthers rfl rfl
theorem e_X5_meetOthers_84 {Q : mQ} {ls st : List Value} {g : mG} : WP m_X5_meetOthers Q 84 ls st g = WP m_X5_meetOthers Q 2 ls st g := E_goto lo_X5_meetOthers rfl
theorem e_X5_meetOthers_87 {Q : mQ} {ls : List Value} {g : mG} : WP m_X5_meetOthers Q 87 ls [] g = Q none g := E_ret lo_X5_meetOthers rfl
/-! KilnPermits$Town.comes(ZIII)I -/
def m_X5_comes : List (Nat × mT) := [(0, tD (f_al 0 1)),
  (1, tC w_X5_freePlace 6 1),
  (4, tD (f_as 5 2)),
  (6, tD (f_al 0 1)),
  (7, tD (f_il 2 1)),
  (8, tC w_X5_kilnAt 6 2),
  (11, tD (f_as 6 2)),
  (13, tD (f_al 5 2)),
  (15, tD (f_ifn 23 true)),
  (18, tD (f_al 6 2)),
  (20, tD (f_ifn 25 false)),
  (23, tD (f_ic (nI 0) 1)),
  (24, tR f_iret),
  (25, tD (f_al 5 2)),
  (27, tD (f_al 0 1)),
  (28, tD (f_gI 6 6)),
  (31, tD (f_il 1 1)),
  (32, tD (f_il 2 1)),
  (33, tD (f_il 3 1)),
  (34, tD (f_il 4 2)),
  (36, tC w_X2_start 3 6),
  (39, tD (f_al 0 1)),
  (40, tD (f_dup)),
  (41, tD (f_gI 6 6)),
  (44, tD (f_ic (nI 1) 1)),
  (45, tD (f_b2 fun x y => x + y)),
  (46, tD (f_pI 6 6)),
  (49, tD (f_il 1 1)),
  (50, tI1 (fun x => x = 0) 70),
  (53, tD (f_al 6 2)),
  (55, tD (f_dup)),
  (56, tD (f_gI 1 0)),
  (59, tD (f_il 3 1)),
  (60, tD (f_il 4 2)),
  (62, tD (f_b2 fun x y => x * y)),
  (63, tD (f_b2 fun x y => x - y)),
  (64, tD (f_pI 1 0)),
  (67, tD (f_goto 84)),
  (70, tD (f_al 6 2)),
  (72, tD (f_gR 1 7)),
  (75, tD (f_il 3 1)),
  (76, tD (f_al 5 2)),
  (78, tD (f_gR 3 5)),
  (81, tC w_X4_giveOldest 5 3),
  (84, tD (f_al 0 1)),
  (85, tD (f_al 5 2)),
  (87, tC w_X5_meetOthers 6 2),
  (90, tD (f_il 3 1)),
  (91, tD (f_al 5 2)),
  (93, tD (f_gI 3 3)),
  (96, tD (f_b2 fun x y => x - y)),
  (97, tD (f_is 7 2)),
  (99, tD (f_al 5 2)),
  (101, tD (f_gI 3 3)),
  (104, tI1 (fun x => x ≤ 0) 122),
  (107, tD (f_al 0 1)),
  (108, tC w_X5_standingCount 6 1),
  (111, tD (f_ic (nI 16) 2)),
  (113, tI2 (fun x y => x ≤ y) 122),
  (116, tD (f_al 0 1)),
  (117, tD (f_al 5 2)),
  (119, tC w_X5_giveBack 6 2),
  (122, tD (f_il 7 2)),
  (124, tR f_iret)]
abbrev w_X5_comes : mS := wm m_X5_comes 5 3
set_option maxRecDepth 100000 in
theorem lo_X5_comes : locs_ok m_X5_comes := List.forall_mem_cons.mpr ⟨loc_D mo_al,
  List.forall_mem_cons.mpr ⟨loc_C sm_X5_freePlace.1,
  List.forall_mem_cons.mpr ⟨loc_D mo_as,
  List.forall_mem_cons.mpr ⟨loc_D mo_al,
  List.forall_mem_cons.mpr ⟨loc_D mo_il,
  List.forall_mem_cons.mpr ⟨loc_C sm_X5_kilnAt.1,
  List.forall_mem_cons.mpr ⟨loc_D mo_as,
  List.forall_mem_cons.mpr ⟨loc_D mo_al,
  List.forall_mem_cons.mpr ⟨loc_D mo_ifn,
  List.forall_mem_cons.mpr ⟨loc_D mo_al,
  List.forall_mem_cons.mpr ⟨loc_D mo_ifn,
  List.forall_mem_cons.mpr ⟨loc_D mo_ic,
  List.forall_mem_cons.mpr ⟨loc_R,
  List.forall_mem_cons.mpr ⟨loc_D mo_al,
  List.forall_mem_cons.mpr ⟨loc_D mo_al,
  List.forall_mem_cons.mpr ⟨loc_D mo_gI,
  List.forall_mem_cons.mpr ⟨loc_D mo_il,
  List.forall_mem_cons.mpr ⟨loc_D mo_il,
  List.forall_mem_cons.mpr ⟨loc_D mo_il,
  List.forall_mem_cons.mpr ⟨loc_D mo_il,
  List.forall_mem_cons.mpr ⟨loc_C sm_X2_start.1,
  List.forall_mem_cons.mpr ⟨loc_D mo_al,
  List.forall_mem_cons.mpr ⟨loc_D mo_dup,
  List.forall_mem_cons.mpr ⟨loc_D mo_gI,
  List.forall_mem_cons.mpr ⟨loc_D mo_ic,
  List.forall_mem_cons.mpr ⟨loc_D mo_b2,
  List.forall_mem_cons.mpr ⟨loc_D mo_pI,
  List.forall_mem_cons.mpr ⟨loc_D mo_il,
  List.forall_mem_cons.mpr ⟨loc_I1,
  List.forall_mem_cons.mpr ⟨loc_D mo_al,
  List.forall_mem_cons.mpr ⟨loc_D mo_dup,
  List.forall_mem_cons.mpr ⟨loc_D mo_gI,
  List.forall_mem_cons.mpr ⟨loc_D mo_il,
  List.forall_mem_cons.mpr ⟨loc_D mo_il,
  List.forall_mem_cons.mpr ⟨loc_D mo_b2,
  List.forall_mem_cons.mpr ⟨loc_D mo_b2,
  List.forall_mem_cons.mpr ⟨loc_D mo_pI,
  List.forall_mem_cons.mpr ⟨loc_D mo_goto,
  List.forall_mem_cons.mpr ⟨loc_D mo_al,
  List.forall_mem_cons.mpr ⟨loc_D mo_gR,
  List.forall_mem_cons.mpr ⟨loc_D mo_il,
  List.forall_mem_cons.mpr ⟨loc_D mo_al,
  List.forall_mem_cons.mpr ⟨loc_D mo_gR,
  List.forall_mem_cons.mpr ⟨loc_C sm_X4_giveOldest.1,
  List.forall_mem_cons.mpr ⟨loc_D mo_al,
  List.forall_mem_cons.mpr ⟨loc_D mo_al,
  List.forall_mem_cons.mpr ⟨loc_C sm_X5_meetOthers.1,
  List.forall_mem_cons.mpr ⟨loc_D mo_il,
  List.forall_mem_cons.mpr ⟨loc_D mo_al,
  List.forall_mem_cons.mpr ⟨loc_D mo_gI,
  List.forall_mem_cons.mpr ⟨loc_D mo_b2,
  List.forall_mem_cons.mpr ⟨loc_D mo_is,
  List.forall_mem_cons.mpr ⟨loc_D mo_al,
  List.forall_mem_cons.mpr ⟨loc_D mo_gI,
  List.forall_mem_cons.mpr ⟨loc_I1,
  List.forall_mem_cons.mpr ⟨loc_D mo_al,
  List.forall_mem_cons.mpr ⟨loc_C sm_X5_standingCount.1,
  List.forall_mem_cons.mpr ⟨loc_D mo_ic,
  List.forall_mem_cons.mpr ⟨loc_I2,
  List.forall_mem_cons.mpr ⟨loc_D mo_al,
  List.forall_mem_cons.mpr ⟨loc_D mo_al,
  List.forall_mem_cons.mpr ⟨loc_C sm_X5_giveBack.1,
  List.forall_mem_cons.mpr ⟨loc_D mo_il,
  List.forall_mem_cons.mpr ⟨loc_R,
  fun _ h => absurd h List.not_mem_nil⟩⟩⟩⟩⟩⟩⟩⟩⟩⟩⟩⟩⟩⟩⟩⟩⟩⟩⟩⟩⟩⟩⟩⟩⟩⟩⟩⟩⟩⟩⟩⟩⟩⟩⟩⟩⟩⟩⟩⟩⟩⟩⟩⟩⟩⟩⟩⟩⟩⟩⟩⟩⟩⟩⟩⟩⟩⟩⟩⟩⟩⟩⟩⟩
set_option maxRecDepth 100000 in
theorem sm_X5_comes : SM yX5_comes cX5_comes 8 (some .int) 6 w_X5_comes := SM_of' RX5 "comes" rfl rfl (by decide) (by decide) (by decide) lo_X5_comes (List.forall_mem_cons.mpr ⟨STP.r mo_al (q_aload_n dX5_comes_0 rfl),
  List.forall_mem_cons.mpr ⟨(snd_CV sm_X5_freePlace ⟨by decide, by decide⟩ rfl km_X5_136 kt_X5_freePlace kv_X5_freePlace rfl ki_X5 kx_X5_freePlace ⟨by decide, by decide, by decide +kernel⟩ (by decide) (by decide) dX5_comes_1).r,
  List.forall_mem_cons.mpr ⟨STP.r mo_as (q_astore dX5_comes_4),
  List.forall_mem_cons.mpr ⟨STP.r mo_al (q_aload_n dX5_comes_6 rfl),
  List.forall_mem_cons.mpr ⟨STP.r mo_il (q_iload_n dX5_comes_7 rfl),
  List.forall_mem_cons.mpr ⟨(snd_CV sm_X5_kilnAt ⟨by decide, by decide⟩ rfl km_X5_128 kt_X5_kilnAt kv_X5_kilnAt rfl ki_X5 kx_X5_kilnAt ⟨by decide, by decide, by decide +kernel⟩ (by decide) (by decide) dX5_comes_8).r,
  List.forall_mem_cons.mpr ⟨STP.r mo_as (q_astore dX5_comes_11),
  List.forall_mem_cons.mpr ⟨STP.r mo_al (q_aload dX5_comes_13),
  List.forall_mem_cons.mpr ⟨STP.r mo_ifn (q_ifnull dX5_comes_15 (by decide)),
  List.forall_mem_cons.mpr ⟨STP.r mo_al (q_aload dX5_comes_18),
  List.forall_mem_cons.mpr ⟨STP.r mo_ifn (q_ifnonnull dX5_comes_20 (by decide)),
  List.forall_mem_cons.mpr ⟨STP.r mo_ic (q_iconst dX5_comes_23 (by decide)),
  List.forall_mem_cons.mpr ⟨r_iret dX5_comes_24,
  List.forall_mem_cons.mpr ⟨STP.r mo_al (q_aload dX5_comes_25),
  List.forall_mem_cons.mpr ⟨STP.r mo_al (q_aload_n dX5_comes_27 rfl),
  List.forall_mem_cons.mpr ⟨STP.r mo_gI (q_gI ⟨by decide, by decide⟩ (by decide) rfl kf_X5_56 dX5_comes_28),
  List.forall_mem_cons.mpr ⟨STP.r mo_il (q_iload_n dX5_comes_31 rfl),
  List.forall_mem_cons.mpr ⟨STP.r mo_il (q_iload_n dX5_comes_32 rfl),
  List.forall_mem_cons.mpr ⟨STP.r mo_il (q_iload_n dX5_comes_33 rfl),
  List.forall_mem_cons.mpr ⟨STP.r mo_il (q_iload dX5_comes_34),
  List.forall_mem_cons.mpr ⟨(snd_CV sm_X2_start ⟨by decide, by decide⟩ rfl km_X5_140 kt_X2_start kv_X2_start rfl ki_X2 kx_X2_start ⟨by decide, by decide, by decide +kernel⟩ (by decide) (by decide) dX5_comes_36).r,
  List.forall_mem_cons.mpr ⟨STP.r mo_al (q_aload_n dX5_comes_39 rfl),
  List.forall_mem_cons.mpr ⟨STP.r mo_dup (q_dup dX5_comes_40),
  List.forall_mem_cons.mpr ⟨STP.r mo_gI (q_gI ⟨by decide, by decide⟩ (by decide) rfl kf_X5_56 dX5_comes_41),
  List.forall_mem_cons.mpr ⟨STP.r mo_ic (q_iconst dX5_comes_44 (by decide)),
  List.forall_mem_cons.mpr ⟨STP.r mo_b2 (q_iadd dX5_comes_45),
  List.forall_mem_cons.mpr ⟨STP.r mo_pI (q_pI ⟨by decide, by decide⟩ (by decide) rfl rfl kf_X5_56 dX5_comes_46),
  List.forall_mem_cons.mpr ⟨STP.r mo_il (q_iload_n dX5_comes_49 rfl),
  List.forall_mem_cons.mpr ⟨(q_if_eq dX5_comes_50 (by decide)).r,
  List.forall_mem_cons.mpr ⟨STP.r mo_al (q_aload dX5_comes_53),
  List.forall_mem_cons.mpr ⟨STP.r mo_dup (q_dup dX5_comes_55),
  List.forall_mem_cons.mpr ⟨STP.r mo_gI (q_gI ⟨by decide, by decide⟩ (by decide) rfl kf_X5_97 dX5_comes_56),
  List.forall_mem_cons.mpr ⟨STP.r mo_il (q_iload_n dX5_comes_59 rfl),
  List.forall_mem_cons.mpr ⟨STP.r mo_il (q_iload dX5_comes_60),
  List.forall_mem_cons.mpr ⟨STP.r mo_b2 (q_imul dX5_comes_62),
  List.forall_mem_cons.mpr ⟨STP.r mo_b2 (q_isub dX5_comes_63),
  List.forall_mem_cons.mpr ⟨STP.r mo_pI (q_pI ⟨by decide, by decide⟩ (by decide) rfl rfl kf_X5_97 dX5_comes_64),
  List.forall_mem_cons.mpr ⟨STP.r mo_goto (q_goto dX5_comes_67 (by decide)),
  List.forall_mem_cons.mpr ⟨STP.r mo_al (q_aload dX5_comes_70),
  List.forall_mem_cons.mpr ⟨STP.r mo_gR (q_gR ⟨by decide, by decide⟩ (by decide) rfl (by decide) kf_X5_87 dX5_comes_72),
  List.forall_mem_cons.mpr ⟨STP.r mo_il (q_iload_n dX5_comes_75 rfl),
  List.forall_mem_cons.mpr ⟨STP.r mo_al (q_aload dX5_comes_76),
  List.forall_mem_cons.mpr ⟨STP.r mo_gR (q_gR ⟨by decide, by decide⟩ (by decide) rfl (by decide) kf_X5_144 dX5_comes_78),
  List.forall_mem_cons.mpr ⟨(snd_CV sm_X4_giveOldest ⟨by decide, by decide⟩ rfl km_X5_147 kt_X4_giveOldest kv_X4_giveOldest rfl ki_X4 kx_X4_giveOldest ⟨by decide, by decide, by decide +kernel⟩ (by decide) (by decide) dX5_comes_81).r,
  List.forall_mem_cons.mpr ⟨STP.r mo_al (q_aload_n dX5_comes_84 rfl),
  List.forall_mem_cons.mpr ⟨STP.r mo_al (q_aload dX5_comes_85),
  List.forall_mem_cons.mpr ⟨(snd_CV sm_X5_meetOthers ⟨by decide, by decide⟩ rfl km_X5_151 kt_X5_meetOthers kv_X5_meetOthers rfl ki_X5 kx_X5_meetOthers ⟨by decide, by decide, by decide +kernel⟩ (by decide) (by decide) dX5_comes_87).r,
  List.forall_mem_cons.mpr ⟨STP.r mo_il (q_iload_n dX5_comes_90 rfl),
  List.forall_mem_cons.mpr ⟨STP.r mo_al (q_aload dX5_comes_91),
  List.forall_mem_cons.mpr ⟨STP.r mo_gI (q_gI ⟨by decide, by decide⟩ (by decide) rfl kf_X5_154 dX5_comes_93),
  List.forall_mem_cons.mpr ⟨STP.r mo_b2 (q_isub dX5_comes_96),
  List.forall_mem_cons.mpr ⟨STP.r mo_is (q_istore dX5_comes_97),
  List.forall_mem_cons.mpr ⟨STP.r mo_al (q_aload dX5_comes_99),
  List.forall_mem_cons.mpr ⟨STP.r mo_gI (q_gI ⟨by decide, by decide⟩ (by decide) rfl kf_X5_154 dX5_comes_101),
  List.forall_mem_cons.mpr ⟨(q_if_le dX5_comes_104 (by decide)).r,
  List.forall_mem_cons.mpr ⟨STP.r mo_al (q_aload_n dX5_comes_107 rfl),
  List.forall_mem_cons.mpr ⟨(snd_CV sm_X5_standingCount ⟨by decide, by decide⟩ rfl km_X5_157 kt_X5_standingCount kv_X5_standingCount rfl ki_X5 kx_X5_standingCount ⟨by decide, by decide, by decide +kernel⟩ (by decide) (by decide) dX5_comes_108).r,
  List.forall_mem_cons.mpr ⟨STP.r mo_ic (q_bipush dX5_comes_111 (by decide)),
  List.forall_mem_cons.mpr ⟨(q_ic_le dX5_comes_113 (by decide)).r,
  List.forall_mem_cons.mpr ⟨STP.r mo_al (q_aload_n dX5_comes_116 rfl),
  List.forall_mem_cons.mpr ⟨STP.r mo_al (q_aload dX5_comes_117),
  List.forall_mem_cons.mpr ⟨(snd_CV sm_X5_giveBack ⟨by decide, by decide⟩ rfl km_X5_160 kt_X5_giveBack kv_X5_giveBack rfl ki_X5 kx_X5_giveBack ⟨by decide, by decide, by decide +kernel⟩ (by decide) (by decide) dX5_comes_119).r,
  List.forall_mem_cons.mpr ⟨STP.r mo_il (q_iload dX5_comes_122),
  List.forall_mem_cons.mpr ⟨r_iret dX5_comes_124,
  fun _ h => absurd h List.not_mem_nil⟩⟩⟩⟩⟩⟩⟩⟩⟩⟩⟩⟩⟩⟩⟩⟩⟩⟩⟩⟩⟩⟩⟩⟩⟩⟩⟩⟩⟩⟩⟩⟩⟩⟩⟩⟩⟩⟩⟩⟩⟩⟩⟩⟩⟩⟩⟩⟩⟩⟩⟩⟩⟩⟩⟩⟩⟩⟩⟩⟩⟩⟩⟩⟩)
theorem e_X5_comes_0 {Q : mQ} {l1 l2 l3 l4 l5 l6 l7 : Value} {st : List Value} {g : mG} {x : Nat} : WP m_X5_comes Q 0 [.ref x, l1, l2, l3, l4, l5, l6, l7] st g = WP m_X5_comes Q 1 [.ref x, l1, l2, l3, l4, l5, l6, l7] (.ref x :: st) g := E_al (i := 0) (n := 1) lo_X5_comes rfl rfl
theorem e_X5_comes_1 {Q : mQ} {ls st : List Value} {g : mG} {b : Nat} : WP m_X5_comes Q 1 ls (.ref b :: st) g = (st.length ≤ 4 ∧ gK g b = 6 ∧ stbs g ls ∧ stbs g st ∧ w_X5_freePlace [.ref b] g (fun v g' => WP m_X5_comes Q 4 ls (v.toList ++ st) g')) := E_CV (ar := [.ref b]) lo_X5_comes rfl rfl rfl (by decide)
theorem e_X5_comes_4 {Q : mQ} {l0 l1 l2 l3 l4 l5 l6 l7 : Value} {st : List Value} {g : mG} {x : Nat} : WP m_X5_comes Q 4 [l0, l1, l2, l3, l4, l5, l6, l7] (.ref x :: st) g = (nl1 l4 ∧ WP m_X5_comes Q 6 [l0, l1, l2, l3, l4, .ref x, l6, l7] st g) := E_as (i := 5) (n := 2) lo_X5_comes rfl (Nat.le_of_ble_eq_true rfl)
theorem e_X5_comes_4n {Q : mQ} {l0 l1 l2 l3 l4 l5 l6 l7 : Value} {st : List Value} {g : mG} : WP m_X5_comes Q 4 [l0, l1, l2, l3, l4, l5, l6, l7] (.null :: st) g = (nl1 l4 ∧ WP m_X5_comes Q 6 [l0, l1, l2, l3, l4, .null, l6, l7] st g) := E_asn (i := 5) (n := 2) lo_X5_comes rfl (Nat.le_of_ble_eq_true rfl)
theorem e_X5_comes_6 {Q : mQ} {l1 l2 l3 l4 l5 l6 l7 : Value} {st : List Value} {g : mG} {x : Nat} : WP m_X5_comes Q 6 [.ref x, l1, l2, l3, l4, l5, l6, l7] st g = WP m_X5_comes Q 7 [.ref x, l1, l2, l3, l4, l5, l6, l7] (.ref x :: st) g := E_al (i := 0) (n := 1) lo_X5_comes rfl rfl
theorem e_X5_comes_7 {Q : mQ} {l0 l1 l3 l4 l5 l6 l7 : Value} {st : List Value} {g : mG} {x : Int32} : WP m_X5_comes Q 7 [l0, l1, .int x, l3, l4, l5, l6, l7] st g = WP m_X5_comes Q 8 [l0, l1, .int x, l3, l4, l5, l6, l7] (.int x :: st) g := E_il (i := 2) (n := 1) lo_X5_comes rfl rfl
theorem e_X5_comes_8 {Q : mQ} {ls st : List Value} {g : mG} {b : Nat} {a0 : Value} : WP m_X5_comes Q 8 ls (a0 :: .ref b :: st) g = (st.length ≤ 4 ∧ gK g b = 6 ∧ stbs g ls ∧ stbs g st ∧ w_X5_kilnAt [.ref b, a0] g (fun v g' => WP m_X5_comes Q 11 ls (v.toList ++ st) g')) := E_CV (ar := [a0, .ref b]) lo_X5_comes rfl rfl rfl (by decide)
theorem e_X5_comes_11 {Q : mQ} {l0 l1 l2 l3 l4 l5 l6 l7 : Value} {st : List Value} {g : mG} {x : Nat} : WP m_X5_comes Q 11 [l0, l1, l2, l3, l4, l5, l6, l7] (.ref x :: st) g = (nl1 l5 ∧ WP m_X5_comes Q 13 [l0, l1, l2, l3, l4, l5, .ref x, l7] st g) := E_as (i := 6) (n := 2) lo_X5_comes rfl (Nat.le_of_ble_eq_true rfl)
theorem e_X5_comes_11n {Q : mQ} {l0 l1 l2 l3 l4 l5 l6 l7 : Value} {st : List Value} {g : mG} : WP m_X5_comes Q 11 [l0, l1, l2, l3, l4, l5, l6, l7] (.null :: st) g = (nl1 l5 ∧ WP m_X5_comes Q 13 [l0, l1, l2, l3, l4, l5, .null, l7] st g) := E_asn (i := 6) (n := 2) lo_X5_comes rfl (Nat.le_of_ble_eq_true rfl)
theorem e_X5_comes_13 {Q : mQ} {l0 l1 l2 l3 l4 l6 l7 : Value} {st : List Value} {g : mG} {x : Nat} : WP m_X5_comes Q 13 [l0, l1, l2, l3, l4, .ref x, l6, l7] st g = WP m_X5_comes Q 15 [l0, l1, l2, l3, l4, .ref x, l6, l7] (.ref x :: st) g := E_al (i := 5) (n := 2) lo_X5_comes rfl rfl
theorem e_X5_comes_13n {Q : mQ} {l0 l1 l2 l3 l4 l6 l7 : Value} {st : List Value} {g : mG} : WP m_X5_comes Q 13 [l0, l1, l2, l3, l4, .null, l6, l7] st g = WP m_X5_comes Q 15 [l0, l1, l2, l3, l4, .null, l6, l7] (.null :: st) g := E_aln (i := 5) (n := 2) lo_X5_comes rfl rfl
theorem e_X5_comes_15 {Q : mQ} {ls st : List Value} {g : mG} {x : Nat} : WP m_X5_comes Q 15 ls (.ref x :: st) g = WP m_X5_comes Q 18 ls st g := E_nr lo_X5_comes rfl
theorem e_X5_comes_15n {Q : mQ} {ls st : List Value} {g : mG} : WP m_X5_comes Q 15 ls (.null :: st) g = WP m_X5_comes Q 23 ls st g := E_nn lo_X5_comes rfl
theorem e_X5_comes_18 {Q : mQ} {l0 l1 l2 l3 l4 l5 l7 : Value} {st : List Value} {g : mG} {x : Nat} : WP m_X5_comes Q 18 [l0, l1, l2, l3, l4, l5, .ref x, l7] st g = WP m_X5_comes Q 20 [l0, l1, l2, l3, l4, l5, .ref x, l7] (.ref x :: st) g := E_al (i := 6) (n := 2) lo_X5_comes rfl rfl
theorem e_X5_comes_18n {Q : mQ} {l0 l1 l2 l3 l4 l5 l7 : Value} {st : List Value} {g : mG} : WP m_X5_comes Q 18 [l0, l1, l2, l3, l4, l5, .null, l7] st g = WP m_X5_comes Q 20 [l0, l1, l2, l3, l4, l5, .null, l7] (.null :: st) g := E_aln (i := 6) (n := 2) lo_X5_comes rfl rfl
theorem e_X5_comes_20 {Q : mQ} {ls st : List Value} {g : mG} {x : Nat} : WP m_X5_comes Q 20 ls (.ref x :: st) g = WP m_X5_comes Q 25 ls st g := E_nnr lo_X5_comes rfl
theorem e_X5_comes_20n {Q : mQ} {ls st : List Value} {g : mG} : WP m_X5_comes Q 20 ls (.null :: st) g = WP m_X5_comes Q 23 ls st g := E_nnn lo_X5_comes rfl
theorem e_X5_comes_23 {Q : mQ} {ls st : List Value} {g : mG} : WP m_X5_comes Q 23 ls st g = WP m_X5_comes Q 24 ls (.int (nI 0) :: st) g := E_ic (v := nI 0) (n := 1) lo_X5_comes rfl
theorem e_X5_comes_24 {Q : mQ} {ls : List Value} {g : mG} {v : Int32} : WP m_X5_comes Q 24 ls [.int v] g = Q (some (.int v)) g := E_iret lo_X5_comes rfl
theorem e_X5_comes_25 {Q : mQ} {l0 l1 l2 l3 l4 l6 l7 : Value} {st : List Value} {g : mG} {x : Nat} : WP m_X5_comes Q 25 [l0, l1, l2, l3, l4, .ref x, l6, l7] st g = WP m_X5_comes Q 27 [l0, l1, l2, l3, l4, .ref x, l6, l7] (.ref x :: st) g := E_al (i := 5) (n := 2) lo_X5_comes rfl rfl
theorem e_X5_comes_25n {Q : mQ} {l0 l1 l2 l3 l4 l6 l7 : Value} {st : List Value} {g : mG} : WP m_X5_comes Q 25 [l0, l1, l2, l3, l4, .null, l6, l7] st g = WP m_X5_comes Q 27 [l0, l1, l2, l3, l4, .null, l6, l7] (.null :: st) g := E_aln (i := 5) (n := 2) lo_X5_comes rfl rfl
theorem e_X5_comes_27 {Q : mQ} {l1 l2 l3 l4 l5 l6 l7 : Value} {st : List Value} {g : mG} {x : Nat} : WP m_X5_comes Q 27 [.ref x, l1, l2, l3, l4, l5, l6, l7] st g = WP m_X5_comes Q 28 [.ref x, l1, l2, l3, l4, l5, l6, l7] (.ref x :: st) g := E_al (i := 0) (n := 1) lo_X5_comes rfl rfl
theorem e_X5_comes_28 {Q : mQ} {ls st : List Value} {g : mG} {a : Nat} : WP m_X5_comes Q 28 ls (.ref a :: st) g = (gK g a = 6 ∧ WP m_X5_comes Q 31 ls (.int (gI g a 6) :: st) g) := E_gI lo_X5_comes rfl
theorem e_X5_comes_31 {Q : mQ} {l0 l2 l3 l4 l5 l6 l7 : Value} {st : List Value} {g : mG} {x : Int32} : WP m_X5_comes Q 31 [l0, .int x, l2, l3, l4, l5, l6, l7] st g = WP m_X5_comes Q 32 [l0, .int x, l2, l3, l4, l5, l6, l7] (.int x :: st) g := E_il (i := 1) (n := 1) lo_X5_comes rfl rfl
theorem e_X5_comes_32 {Q : mQ} {l0 l1 l3 l4 l5 l6 l7 : Value} {st : List Value} {g : mG} {x : Int32} : WP m_X5_comes Q 32 [l0, l1, .int x, l3, l4, l5, l6, l7] st g = WP m_X5_comes Q 33 [l0, l1, .int x, l3, l4, l5, l6, l7] (.int x :: st) g := E_il (i := 2) (n := 1) lo_X5_comes rfl rfl
theorem e_X5_comes_33 {Q : mQ} {l0 l1 l2 l4 l5 l6 l7 : Value} {st : List Value} {g : mG} {x : Int32} : WP m_X5_comes Q 33 [l0, l1, l2, .int x, l4, l5, l6, l7] st g = WP m_X5_comes Q 34 [l0, l1, l2, .int x, l4, l5, l6, l7] (.int x :: st) g := E_il (i := 3) (n := 1) lo_X5_comes rfl rfl
theorem e_X5_comes_34 {Q : mQ} {l0 l1 l2 l3 l5 l6 l7 : Value} {st : List Value} {g : mG} {x : Int32} : WP m_X5_comes Q 34 [l0, l1, l2, l3, .int x, l5, l6, l7] st g = WP m_X5_comes Q 36 [l0, l1, l2, l3, .int x, l5, l6, l7] (.int x :: st) g := E_il (i := 4) (n := 2) lo_X5_comes rfl rfl
theorem e_X5_comes_36 {Q : mQ} {ls st : List Value} {g : mG} {b : Nat} {a0 a1 a2 a3 a4 : Value} : WP m_X5_comes Q 36 ls (a4 :: a3 :: a2 :: a1 :: a0 :: .ref b :: st) g = (st.length ≤ 4 ∧ gK g b = 3 ∧ stbs g ls ∧ stbs g st ∧ w_X2_start [.ref b, a0, a1, a2, a3, a4] g (fun v g' => WP m_X5_comes Q 39 ls (v.toList ++ st) g')) := E_CV (ar := [a4, a3, a2, a1, a0, .ref b]) lo_X5_comes rfl rfl rfl (by decide)
theorem e_X5_comes_39 {Q : mQ} {l1 l2 l3 l4 l5 l6 l7 : Value} {st : List Value} {g : mG} {x : Nat} : WP m_X5_comes Q 39 [.ref x, l1, l2, l3, l4, l5, l6, l7] st g = WP m_X5_comes Q 40 [.ref x, l1, l2, l3, l4, l5, l6, l7] (.ref x :: st) g := E_al (i := 0) (n := 1) lo_X5_comes rfl rfl
theorem e_X5_comes_40 {Q : mQ} {ls st : List Value} {g : mG} {x : Value} : WP m_X5_comes Q 40 ls (x :: st) g = (cat1 x ∧ WP m_X5_comes Q 41 ls (x :: x :: st) g) := E_dup lo_X5_comes rfl
theorem e_X5_comes_41 {Q : mQ} {ls st : List Value} {g : mG} {a : Nat} : WP m_X5_comes Q 41 ls (.ref a :: st) g = (gK g a = 6 ∧ WP m_X5_comes Q 44 ls (.int (gI g a 6) :: st) g) := E_gI lo_X5_comes rfl
theorem e_X5_comes_44 {Q : mQ} {ls st : List Value} {g : mG} : WP m_X5_comes Q 44 ls st g = WP m_X5_comes Q 45 ls (.int (nI 1) :: st) g := E_ic (v := nI 1) (n := 1) lo_X5_comes rfl
theorem e_X5_comes_45 {Q : mQ} {ls st : List Value} {g : mG} {x y : Int32} : WP m_X5_comes Q 45 ls (.int y :: .int x :: st) g = WP m_X5_comes Q 46 ls (.int (x + y) :: st) g := E_b2 (f := fun x y => x + y) lo_X5_comes rfl
theorem e_X5_comes_46 {Q : mQ} {ls st : List Value} {g : mG} {a : Nat} {v : Int32} : WP m_X5_comes Q 46 ls (.int v :: .ref a :: st) g = (gK g a = 6 ∧ WP m_X5_comes Q 49 ls st (pI g a 6 v)) := E_pI lo_X5_comes rfl
theorem e_X5_comes_49 {Q : mQ} {l0 l2 l3 l4 l5 l6 l7 : Value} {st : List Value} {g : mG} {x : Int32} : WP m_X5_comes Q 49 [l0, .int x, l2, l3, l4, l5, l6, l7] st g = WP m_X5_comes Q 50 [l0, .int x, l2, l3, l4, l5, l6, l7] (.int x :: st) g := E_il (i := 1) (n := 1) lo_X5_comes rfl rfl
theorem e_X5_comes_50 {Q : mQ} {ls st : List Value} {g : mG} {x : Int32} : WP m_X5_comes Q 50 ls (.int x :: st) g = ((x = 0 → WP m_X5_comes Q 70 ls st g) ∧ (¬ (x = 0) → WP m_X5_comes Q 53 ls st g)) := E_I1 (c := fun x => x = 0) (t := 70) lo_X5_comes rfl
theorem e_X5_comes_53 {Q : mQ} {l0 l1 l2 l3 l4 l5 l7 : Value} {st : List Value} {g : mG} {x : Nat} : WP m_X5_comes Q 53 [l0, l1, l2, l3, l4, l5, .ref x, l7] st g = WP m_X5_comes Q 55 [l0, l1, l2, l3, l4, l5, .ref x, l7] (.ref x :: st) g := E_al (i := 6) (n := 2) lo_X5_comes rfl rfl
theorem e_X5_comes_53n {Q : mQ} {l0 l1 l2 l3 l4 l5 l7 : Value} {st : List Value} {g : mG} : WP m_X5_comes Q 53 [l0, l1, l2, l3, l4, l5, .null, l7] st g = WP m_X5_comes Q 55 [l0, l1, l2, l3, l4, l5, .null, l7] (.null :: st) g := E_aln (i := 6) (n := 2) lo_X5_comes rfl rfl
theorem e_X5_comes_55 {Q : mQ} {ls st : List Value} {g : mG} {x : Value} : WP m_X5_comes Q 55 ls (x :: st) g = (cat1 x ∧ WP m_X5_comes Q 56 ls (x :: x :: st) g) := E_dup lo_X5_comes rfl
theorem e_X5_comes_56 {Q : mQ} {ls st : List Value} {g : mG} {a : Nat} : WP m_X5_comes Q 56 ls (.ref a :: st) g = (gK g a = 1 ∧ WP m_X5_comes Q 59 ls (.int (gI g a 0) :: st) g) := E_gI lo_X5_comes rfl
theorem e_X5_comes_59 {Q : mQ} {l0 l1 l2 l4 l5 l6 l7 : Value} {st : List Value} {g : mG} {x : Int32} : WP m_X5_comes Q 59 [l0, l1, l2, .int x, l4, l5, l6, l7] st g = WP m_X5_comes Q 60 [l0, l1, l2, .int x, l4, l5, l6, l7] (.int x :: st) g := E_il (i := 3) (n := 1) lo_X5_comes rfl rfl
theorem e_X5_comes_60 {Q : mQ} {l0 l1 l2 l3 l5 l6 l7 : Value} {st : List Value} {g : mG} {x : Int32} : WP m_X5_comes Q 60 [l0, l1, l2, l3, .int x, l5, l6, l7] st g = WP m_X5_comes Q 62 [l0, l1, l2, l3, .int x, l5, l6, l7] (.int x :: st) g := E_il (i := 4) (n := 2) lo_X5_comes rfl rfl
theorem e_X5_comes_62 {Q : mQ} {ls st : List Value} {g : mG} {x y : Int32} : WP m_X5_comes Q 62 ls (.int y :: .int x :: st) g = WP m_X5_comes Q 63 ls (.int (x * y) :: st) g := E_b2 (f := fun x y => x * y) lo_X5_comes rfl
theorem e_X5_comes_63 {Q : mQ} {ls st : List Value} {g : mG} {x y : Int32} : WP m_X5_comes Q 63 ls (.int y :: .int x :: st) g = WP m_X5_comes Q 64 ls (.int (x - y) :: st) g := E_b2 (f := fun x y => x - y) lo_X5_comes rfl
theorem e_X5_comes_64 {Q : mQ} {ls st : List Value} {g : mG} {a : Nat} {v : Int32} : WP m_X5_comes Q 64 ls (.int v :: .ref a :: st) g = (gK g a = 1 ∧ WP m_X5_comes Q 67 ls st (pI g a 0 v)) := E_pI lo_X5_comes rfl
theorem e_X5_comes_67 {Q : mQ} {ls st : List Value} {g : mG} : WP m_X5_comes Q 67 ls st g = WP m_X5_comes Q 84 ls st g := E_goto lo_X5_comes rfl
theorem e_X5_comes_70 {Q : mQ} {l0 l1 l2 l3 l4 l5 l7 : Value} {st : List Value} {g : mG} {x : Nat} : WP m_X5_comes Q 70 [l0, l1, l2, l3, l4, l5, .ref x, l7] st g = WP m_X5_comes Q 72 [l0, l1, l2, l3, l4, l5, .ref x, l7] (.ref x :: st) g := E_al (i := 6) (n := 2) lo_X5_comes rfl rfl
theorem e_X5_comes_70n {Q : mQ} {l0 l1 l2 l3 l4 l5 l7 : Value} {st : List Value} {g : mG} : WP m_X5_comes Q 70 [l0, l1, l2, l3, l4, l5, .null, l7] st g = WP m_X5_comes Q 72 [l0, l1, l2, l3, l4, l5, .null, l7] (.null :: st) g := E_aln (i := 6) (n := 2) lo_X5_comes rfl rfl
theorem e_X5_comes_72 {Q : mQ} {ls st : List Value} {g : mG} {a : Nat} : WP m_X5_comes Q 72 ls (.ref a :: st) g = ((gK g a = 1 ∧ gR g a 7 ≠ 0) ∧ WP m_X5_comes Q 75 ls (.ref (gR g a 7) :: st) g) := E_gR lo_X5_comes rfl
theorem e_X5_comes_75 {Q : mQ} {l0 l1 l2 l4 l5 l6 l7 : Value} {st : List Value} {g : mG} {x : Int32} : WP m_X5_comes Q 75 [l0, l1, l2, .int x, l4, l5, l6, l7] st g = WP m_X5_comes Q 76 [l0, l1, l2, .int x, l4, l5, l6, l7] (.int x :: st) g := E_il (i := 3) (n := 1) lo_X5_comes rfl rfl
theorem e_X5_comes_76 {Q : mQ} {l0 l1 l2 l3 l4 l6 l7 : Value} {st : List Value} {g : mG} {x : Nat} : WP m_X5_comes Q 76 [l0, l1, l2, l3, l4, .ref x, l6, l7] st g = WP m_X5_comes Q 78 [l0, l1, l2, l3, l4, .ref x, l6, l7] (.ref x :: st) g := E_al (i := 5) (n := 2) lo_X5_comes rfl rfl
theorem e_X5_comes_76n {Q : mQ} {l0 l1 l2 l3 l4 l6 l7 : Value} {st : List Value} {g : mG} : WP m_X5_comes Q 76 [l0, l1, l2, l3, l4, .null, l6, l7] st g = WP m_X5_comes Q 78 [l0, l1, l2, l3, l4, .null, l6, l7] (.null :: st) g := E_aln (i := 5) (n := 2) lo_X5_comes rfl rfl
theorem e_X5_comes_78 {Q : mQ} {ls st : List Value} {g : mG} {a : Nat} : WP m_X5_comes Q 78 ls (.ref a :: st) g = ((gK g a = 3 ∧ gR g a 5 ≠ 0) ∧ WP m_X5_comes Q 81 ls (.ref (gR g a 5) :: st) g) := E_gR lo_X5_comes rfl
theorem e_X5_comes_81 {Q : mQ} {ls st : List Value} {g : mG} {b : Nat} {a0 a1 : Value} : WP m_X5_comes Q 81 ls (a1 :: a0 :: .ref b :: st) g = (st.length ≤ 4 ∧ gK g b = 5 ∧ stbs g ls ∧ stbs g st ∧ w_X4_giveOldest [.ref b, a0, a1] g (fun v g' => WP m_X5_comes Q 84 ls (v.toList ++ st) g')) := E_CV (ar := [a1, a0, .ref b]) lo_X5_comes rfl rfl rfl (by decide)
theorem e_X5_comes_84 {Q : mQ} {l1 l2 l3 l4 l5 l6 l7 : Value} {st : List Value} {g : mG} {x : Nat} : WP m_X5_comes Q 84 [.ref x, l1, l2, l3, l4, l5, l6, l7] st g = WP m_X5_comes Q 85 [.ref x, l1, l2, l3, l4, l5, l6, l7] (.ref x :: st) g := E_al (i := 0) (n := 1) lo_X5_comes rfl rfl
theorem e_X5_comes_85 {Q : mQ} {l0 l1 l2 l3 l4 l6 l7 : Value} {st : List Value} {g : mG} {x : Nat} : WP m_X5_comes Q 85 [l0, l1, l2, l3, l4, .ref x, l6, l7] st g = WP m_X5_comes Q 87 [l0, l1, l2, l3, l4, .ref x, l6, l7] (.ref x :: st) g := E_al (i := 5) (n := 2) lo_X5_comes rfl rfl
theorem e_X5_comes_85n {Q : mQ} {l0 l1 l2 l3 l4 l6 l7 : Value} {st : List Value} {g : mG} : WP m_X5_comes Q 85 [l0, l1, l2, l3, l4, .null, l6, l7] st g = WP m_X5_comes Q 87 [l0, l1, l2, l3, l4, .null, l6, l7] (.null :: st) g := E_aln (i := 5) (n := 2) lo_X5_comes rfl rfl
theorem e_X5_comes_87 {Q : mQ} {ls st : List Value} {g : mG} {b : Nat} {a0 : Value} : WP m_X5_comes Q 87 ls (a0 :: .ref b :: st) g = (st.length ≤ 4 ∧ gK g b = 6 ∧ stbs g ls ∧ stbs g st ∧ w_X5_meetOthers [.ref b, a0] g (fun v g' => WP m_X5_comes Q 90 ls (v.toList ++ st) g')) := E_CV (ar := [a0, .ref b]) lo_X5_comes rfl rfl rfl (by decide)
theorem e_X5_comes_90 {Q : mQ} {l0 l1 l2 l4 l5 l6 l7 : Value} {st : List Value} {g : mG} {x : Int32} : WP m_X5_comes Q 90 [l0, l1, l2, .int x, l4, l5, l6, l7] st g = WP m_X5_comes Q 91 [l0, l1, l2, .int x, l4, l5, l6, l7] (.int x :: st) g := E_il (i := 3) (n := 1) lo_X5_comes rfl rfl
theorem e_X5_comes_91 {Q : mQ} {l0 l1 l2 l3 l4 l6 l7 : Value} {st : List Value} {g : mG} {x : Nat} : WP m_X5_comes Q 91 [l0, l1, l2, l3, l4, .ref x, l6, l7] st g = WP m_X5_comes Q 93 [l0, l1, l2, l3, l4, .ref x, l6, l7] (.ref x :: st) g := E_al (i := 5) (n := 2) lo_X5_comes rfl rfl
theorem e_X5_comes_91n {Q : mQ} {l0 l1 l2 l3 l4 l6 l7 : Value} {st : List Value} {g : mG} : WP m_X5_comes Q 91 [l0, l1, l2, l3, l4, .null, l6, l7] st g = WP m_X5_comes Q 93 [l0, l1, l2, l3, l4, .null, l6, l7] (.null :: st) g := E_aln (i := 5) (n := 2) lo_X5_comes rfl rfl
theorem e_X5_comes_93 {Q : mQ} {ls st : List Value} {g : mG} {a : Nat} : WP m_X5_comes Q 93 ls (.ref a :: st) g = (gK g a = 3 ∧ WP m_X5_comes Q 96 ls (.int (gI g a 3) :: st) g) := E_gI lo_X5_comes rfl
theorem e_X5_comes_96 {Q : mQ} {ls st : List Value} {g : mG} {x y : Int32} : WP m_X5_comes Q 96 ls (.int y :: .int x :: st) g = WP m_X5_comes Q 97 ls (.int (x - y) :: st) g := E_b2 (f := fun x y => x - y) lo_X5_comes rfl
theorem e_X5_comes_97 {Q : mQ} {l0 l1 l2 l3 l4 l5 l6 l7 : Value} {st : List Value} {g : mG} {x : Int32} : WP m_X5_comes Q 97 [l0, l1, l2, l3, l4, l5, l6, l7] (.int x :: st) g = (nl1 l6 ∧ WP m_X5_comes Q 99 [l0, l1, l2, l3, l4, l5, l6, .int x] st g) := E_is (i := 7) (n := 2) lo_X5_comes rfl (Nat.le_of_ble_eq_true rfl)
theorem e_X5_comes_99 {Q : mQ} {l0 l1 l2 l3 l4 l6 l7 : Value} {st : List Value} {g : mG} {x : Nat} : WP m_X5_comes Q 99 [l0, l1, l2, l3, l4, .ref x, l6, l7] st g = WP m_X5_comes Q 101 [l0, l1, l2, l3, l4, .ref x, l6, l7] (.ref x :: st) g := E_al (i := 5) (n := 2) lo_X5_comes rfl rfl
theorem e_X5_comes_99n {Q : mQ} {l0 l1 l2 l3 l4 l6 l7 : Value} {st : List Value} {g : mG} : WP m_X5_comes Q 99 [l0, l1, l2, l3, l4, .null, l6, l7] st g = WP m_X5_comes Q 101 [l0, l1, l2, l3, l4, .null, l6, l7] (.null :: st) g := E_aln (i := 5) (n := 2) lo_X5_comes rfl rfl
theorem e_X5_comes_101 {Q : mQ} {ls st : List Value} {g : mG} {a : Nat} : WP m_X5_comes Q 101 ls (.ref a :: st) g = (gK g a = 3 ∧ WP m_X5_comes Q 104 ls (.int (gI g a 3) :: st) g) := E_gI lo_X5_comes rfl
theorem e_X5_comes_104 {Q : mQ} {ls st : List Value} {g : mG} {x : Int32} : WP m_X5_comes Q 104 ls (.int x :: st) g = ((x ≤ 0 → WP m_X5_comes Q 122 ls st g) ∧ (¬ (x ≤ 0) → WP m_X5_comes Q 107 ls st g)) := E_I1 (c := fun x => x ≤ 0) (t := 122) lo_X5_comes rfl
theorem e_X5_comes_107 {Q : mQ} {l1 l2 l3 l4 l5 l6 l7 : Value} {st : List Value} {g : mG} {x : Nat} : WP m_X5_comes Q 107 [.ref x, l1, l2, l3, l4, l5, l6, l7] st g = WP m_X5_comes Q 108 [.ref x, l1, l2, l3, l4, l5, l6, l7] (.ref x :: st) g := E_al (i := 0) (n := 1) lo_X5_comes rfl rfl
theorem e_X5_comes_108 {Q : mQ} {ls st : List Value} {g : mG} {b : Nat} : WP m_X5_comes Q 108 ls (.ref b :: st) g = (st.length ≤ 4 ∧ gK g b = 6 ∧ stbs g ls ∧ stbs g st ∧ w_X5_standingCount [.ref b] g (fun v g' => WP m_X5_comes Q 111 ls (v.toList ++ st) g')) := E_CV (ar := [.ref b]) lo_X5_comes rfl rfl rfl (by decide)
theorem e_X5_comes_111 {Q : mQ} {ls st : List Value} {g : mG} : WP m_X5_comes Q 111 ls st g = WP m_X5_comes Q 113 ls (.int (nI 16) :: st) g := E_ic (v := nI 16) (n := 2) lo_X5_comes rfl
theorem e_X5_comes_113 {Q : mQ} {ls st : List Value} {g : mG} {x y : Int32} : WP m_X5_comes Q 113 ls (.int y :: .int x :: st) g = ((x ≤ y → WP m_X5_comes Q 122 ls st g) ∧ (¬ (x ≤ y) → WP m_X5_comes Q 116 ls st g)) := E_I2 (c := fun x y => x ≤ y) (t := 122) lo_X5_comes rfl
theorem e_X5_comes_116 {Q : mQ} {l1 l2 l3 l4 l5 l6 l7 : Value} {st : List Value} {g : mG} {x : Nat} : WP m_X5_comes Q 116 [.ref x, l1, l2, l3, l4, l5, l6, l7] st g = WP m_X5_comes Q 117 [.ref x, l1, l2, l3, l4, l5, l6, l7] (.ref x :: st) g := E_al (i := 0) (n := 1) lo_X5_comes rfl rfl
theorem e_X5_comes_117 {Q : mQ} {l0 l1 l2 l3 l4 l6 l7 : Value} {st : List Value} {g : mG} {x : Nat} : WP m_X5_comes Q 117 [l0, l1, l2, l3, l4, .ref x, l6, l7] st g = WP m_X5_comes Q 119 [l0, l1, l2, l3, l4, .ref x, l6, l7] (.ref x :: st) g := E_al (i := 5) (n := 2) lo_X5_comes rfl rfl
theorem e_X5_comes_117n {Q : mQ} {l0 l1 l2 l3 l4 l6 l7 : Value} {st : List Value} {g : mG} : WP m_X5_comes Q 117 [l0, l1, l2, l3, l4, .null, l6, l7] st g = WP m_X5_comes Q 119 [l0, l1, l2, l3, l4, .null, l6, l7] (.null :: st) g := E_aln (i := 5) (n := 2) lo_X5_comes rfl rfl
theorem e_X5_comes_119 {Q : mQ} {ls st : List Value} {g : mG} {b : Nat} {a0 : Value} : WP m_X5_comes Q 119 ls (a0 :: .ref b :: st) g = (st.length ≤ 4 ∧ gK g b = 6 ∧ stbs g ls ∧ stbs g st ∧ w_X5_giveBack [.ref b, a0] g (fun v g' => WP m_X5_comes Q 122 ls (v.toList ++ st) g')) := E_CV (ar := [a0, .ref b]) lo_X5_comes rfl rfl rfl (by decide)
theorem e_X5_comes_122 {Q : mQ} {l0 l1 l2 l3 l4 l5 l6 : Value} {st : List Value} {g : mG} {x : Int32} : WP m_X5_comes Q 122 [l0, l1, l2, l3, l4, l5, l6, .int x] st g = WP m_X5_comes Q 124 [l0, l1, l2, l3, l4, l5, l6, .int x] (.int x :: st) g := E_il (i := 7) (n := 2) lo_X5_comes rfl rfl
theorem e_X5_comes_124 {Q : mQ} {ls : List Value} {g : mG} {v : Int32} : WP m_X5_comes Q 124 ls [.int v] g = Q (some (.int v)) g := E_iret lo_X5_comes rfl
/-! KilnPermits$Town.issueTo(LKilnPermits$Kiln;I)I -/
def m_X5_issueTo : List (Nat × mT) := [(0, tD (f_al 1 1)),
  (1, tD (f_gI 1 6)),
  (4, tD (f_il 2 1)),
  (5, tD (f_min)),
  (8, tD (f_is 3 1)),
  (9, tD (f_il 2 1)),
  (10, tD (f_il 3 1)),
  (11, tD (f_b2 fun x y => x - y)),
  (12, tD (f_is 4 2)),
  (14, tD (f_al 1 1)),
  (15, tD (f_dup)),
  (16, tD (f_gI 1 6)),
  (19, tD (f_il 3 1)),
  (20, tD (f_b2 fun x y => x - y)),
  (21, tD (f_pI 1 6)),
  (24, tD (f_al 1 1)),
  (25, tD (f_gR 1 7)),
  (28, tD (f_al 0 1)),
  (29, tD (f_gI 6 0)),
  (32, tD (f_il 4 2)),
  (34, tC w_X4_add 5 3),
  (37, tD (f_al 0 1)),
  (38, tD (f_dup)),
  (39, tD (f_gI 6 1)),
  (42, tD (f_il 4 2)),
  (44, tD (f_b2 fun x y => x + y)),
  (45, tD (f_pI 6 1)),
  (48, tD (f_il 4 2)),
  (50, tR f_iret)]
abbrev w_X5_issueTo : mS := wm m_X5_issueTo 3 2
set_option maxRecDepth 100000 in
theorem lo_X5_issueTo : locs_ok m_X5_issueTo := List.forall_mem_cons.mpr ⟨loc_D mo_al,
  List.forall_mem_cons.mpr ⟨loc_D mo_gI,
  List.forall_mem_cons.mpr ⟨loc_D mo_il,
  List.forall_mem_cons.mpr ⟨loc_D mo_min,
  List.forall_mem_cons.mpr ⟨loc_D mo_is,
  List.forall_mem_cons.mpr ⟨loc_D mo_il,
  List.forall_mem_cons.mpr ⟨loc_D mo_il,
  List.forall_mem_cons.mpr ⟨loc_D mo_b2,
  List.forall_mem_cons.mpr ⟨loc_D mo_is,
  List.forall_mem_cons.mpr ⟨loc_D mo_al,
  List.forall_mem_cons.mpr ⟨loc_D mo_dup,
  List.forall_mem_cons.mpr ⟨loc_D mo_gI,
  List.forall_mem_cons.mpr ⟨loc_D mo_il,
  List.forall_mem_cons.mpr ⟨loc_D mo_b2,
  List.forall_mem_cons.mpr ⟨loc_D mo_pI,
  List.forall_mem_cons.mpr ⟨loc_D mo_al,
  List.forall_mem_cons.mpr ⟨loc_D mo_gR,
  List.forall_mem_cons.mpr ⟨loc_D mo_al,
  List.forall_mem_cons.mpr ⟨loc_D mo_gI,
  List.forall_mem_cons.mpr ⟨loc_D mo_il,
  List.forall_mem_cons.mpr ⟨loc_C sm_X4_add.1,
  List.forall_mem_cons.mpr ⟨loc_D mo_al,
  List.forall_mem_cons.mpr ⟨loc_D mo_dup,
  List.forall_mem_cons.mpr ⟨loc_D mo_gI,
  List.forall_mem_cons.mpr ⟨loc_D mo_il,
  List.forall_mem_cons.mpr ⟨loc_D mo_b2,
  List.forall_mem_cons.mpr ⟨loc_D mo_pI,
  List.forall_mem_cons.mpr ⟨loc_D mo_il,
  List.forall_mem_cons.mpr ⟨loc_R,
  fun _ h => absurd h List.not_mem_nil⟩⟩⟩⟩⟩⟩⟩⟩⟩⟩⟩⟩⟩⟩⟩⟩⟩⟩⟩⟩⟩⟩⟩⟩⟩⟩⟩⟩⟩
set_option maxRecDepth 100000 in
theorem sm_X5_issueTo : SM yX5_issueTo cX5_issueTo 5 (some .int) 3 w_X5_issueTo := SM_of' RX5 "issueTo" rfl rfl (by decide) (by decide) (by decide) lo_X5_issueTo (List.forall_mem_cons.mpr ⟨STP.r mo_al (q_aload_n dX5_issueTo_0 rfl),
  List.forall_mem_cons.mpr ⟨STP.r mo_gI (q_gI ⟨by decide, by decide⟩ (by decide) rfl kf_X5_78 dX5_issueTo_1),
  List.forall_mem_cons.mpr ⟨STP.r mo_il (q_iload_n dX5_issueTo_4 rfl),
  List.forall_mem_cons.mpr ⟨STP.r mo_min (q_min km_X5_81 kz_mins kz_mi kz_minc dX5_issueTo_5),
  List.forall_mem_cons.mpr ⟨STP.r mo_is (q_istore_n dX5_issueTo_8 rfl),
  List.forall_mem_cons.mpr ⟨STP.r mo_il (q_iload_n dX5_issueTo_9 rfl),
  List.forall_mem_cons.mpr ⟨STP.r mo_il (q_iload_n dX5_issueTo_10 rfl),
  List.forall_mem_cons.mpr ⟨STP.r mo_b2 (q_isub dX5_issueTo_11),
  List.forall_mem_cons.mpr ⟨STP.r mo_is (q_istore dX5_issueTo_12),
  List.forall_mem_cons.mpr ⟨STP.r mo_al (q_aload_n dX5_issueTo_14 rfl),
  List.forall_mem_cons.mpr ⟨STP.r mo_dup (q_dup dX5_issueTo_15),
  List.forall_mem_cons.mpr ⟨STP.r mo_gI (q_gI ⟨by decide, by decide⟩ (by decide) rfl kf_X5_78 dX5_issueTo_16),
  List.forall_mem_cons.mpr ⟨STP.r mo_il (q_iload_n dX5_issueTo_19 rfl),
  List.forall_mem_cons.mpr ⟨STP.r mo_b2 (q_isub dX5_issueTo_20),
  List.forall_mem_cons.mpr ⟨STP.r mo_pI (q_pI ⟨by decide, by decide⟩ (by decide) rfl rfl kf_X5_78 dX5_issueTo_21),
  List.forall_mem_cons.mpr ⟨STP.r mo_al (q_aload_n dX5_issueTo_24 rfl),
  List.forall_mem_cons.mpr ⟨STP.r mo_gR (q_gR ⟨by decide, by decide⟩ (by decide) rfl (by decide) kf_X5_87 dX5_issueTo_25),
  List.forall_mem_cons.mpr ⟨STP.r mo_al (q_aload_n dX5_issueTo_28 rfl),
  List.forall_mem_cons.mpr ⟨STP.r mo_gI (q_gI ⟨by decide, by decide⟩ (by decide) rfl kf_X5_41 dX5_issueTo_29),
  List.forall_mem_cons.mpr ⟨STP.r mo_il (q_iload dX5_issueTo_32),
  List.forall_mem_cons.mpr ⟨(snd_CV sm_X4_add ⟨by decide, by decide⟩ rfl km_X5_91 kt_X4_add kv_X4_add rfl ki_X4 kx_X4_add ⟨by decide, by decide, by decide +kernel⟩ (by decide) (by decide) dX5_issueTo_34).r,
  List.forall_mem_cons.mpr ⟨STP.r mo_al (q_aload_n dX5_issueTo_37 rfl),
  List.forall_mem_cons.mpr ⟨STP.r mo_dup (q_dup dX5_issueTo_38),
  List.forall_mem_cons.mpr ⟨STP.r mo_gI (q_gI ⟨by decide, by decide⟩ (by decide) rfl kf_X5_44 dX5_issueTo_39),
  List.forall_mem_cons.mpr ⟨STP.r mo_il (q_iload dX5_issueTo_42),
  List.forall_mem_cons.mpr ⟨STP.r mo_b2 (q_iadd dX5_issueTo_44),
  List.forall_mem_cons.mpr ⟨STP.r mo_pI (q_pI ⟨by decide, by decide⟩ (by decide) rfl rfl kf_X5_44 dX5_issueTo_45),
  List.forall_mem_cons.mpr ⟨STP.r mo_il (q_iload dX5_issueTo_48),
  List.forall_mem_cons.mpr ⟨r_iret dX5_issueTo_50,
  fun _ h => absurd h List.not_mem_nil⟩⟩⟩⟩⟩⟩⟩⟩⟩⟩⟩⟩⟩⟩⟩⟩⟩⟩⟩⟩⟩⟩⟩⟩⟩⟩⟩⟩⟩)
theorem e_X5_issueTo_0 {Q : mQ} {l0 l2 l3 l4 : Value} {st : List Value} {g : mG} {x : Nat} : WP m_X5_issueTo Q 0 [l0, .ref x, l2, l3, l4] st g = WP m_X5_issueTo Q 1 [l0, .ref x, l2, l3, l4] (.ref x :: st) g := E_al (i := 1) (n := 1) lo_X5_issueTo rfl rfl
theorem e_X5_issueTo_0n {Q : mQ} {l0 l2 l3 l4 : Value} {st : List Value} {g : mG} : WP m_X5_issueTo Q 0 [l0, .null, l2, l3, l4] st g = WP m_X5_issueTo Q 1 [l0, .null, l2, l3, l4] (.null :: st) g := E_aln (i := 1) (n := 1) lo_X5_issueTo rfl rfl
theorem e_X5_issueTo_1 {Q : mQ} {ls st : List Value} {g : mG} {a : Nat} : WP m_X5_issueTo Q 1 ls (.ref a :: st) g = (gK g a = 1 ∧ WP m_X5_issueTo Q 4 ls (.int (gI g a 6) :: st) g) := E_gI lo_X5_issueTo rfl
theorem e_X5_issueTo_4 {Q : mQ} {l0 l1 l3 l4 : Value} {st : List Value} {g : mG} {x : Int32} : WP m_X5_issueTo Q 4 [l0, l1, .int x, l3, l4] st g = WP m_X5_issueTo Q 5 [l0, l1, .int x, l3, l4] (.int x :: st) g := E_il (i := 2) (n := 1) lo_X5_issueTo rfl rfl
theorem e_X5_issueTo_5 {Q : mQ} {ls st : List Value} {g : mG} {x y : Int32} : WP m_X5_issueTo Q 5 ls (.int y :: .int x :: st) g = (st.length ≤ 4 ∧ WP m_X5_issueTo Q 8 ls (.int (if y < x then y else x) :: st) g) := E_min lo_X5_issueTo rfl
theorem e_X5_issueTo_8 {Q : mQ} {l0 l1 l2 l3 l4 : Value} {st : List Value} {g : mG} {x : Int32} : WP m_X5_issueTo Q 8 [l0, l1, l2, l3, l4] (.int x :: st) g = (nl1 l2 ∧ WP m_X5_issueTo Q 9 [l0, l1, l2, .int x, l4] st g) := E_is (i := 3) (n := 1) lo_X5_issueTo rfl (Nat.le_of_ble_eq_true rfl)
theorem e_X5_issueTo_9 {Q : mQ} {l0 l1 l3 l4 : Value} {st : List Value} {g : mG} {x : Int32} : WP m_X5_issueTo Q 9 [l0, l1, .int x, l3, l4] st g = WP m_X5_issueTo Q 10 [l0, l1, .int x, l3, l4] (.int x :: st) g := E_il (i := 2) (n := 1) lo_X5_issueTo rfl rfl
theorem e_X5_issueTo_10 {Q : mQ} {l0 l1 l2 l4 : Value} {st : List Value} {g : mG} {x : Int32} : WP m_X5_issueTo Q 10 [l0, l1, l2, .int x, l4] st g = WP m_X5_issueTo Q 11 [l0, l1, l2, .int x, l4] (.int x :: st) g := E_il (i := 3) (n := 1) lo_X5_issueTo rfl rfl
theorem e_X5_issueTo_11 {Q : mQ} {ls st : List Value} {g : mG} {x y : Int32} : WP m_X5_issueTo Q 11 ls (.int y :: .int x :: st) g = WP m_X5_issueTo Q 12 ls (.int (x - y) :: st) g := E_b2 (f := fun x y => x - y) lo_X5_issueTo rfl
theorem e_X5_issueTo_12 {Q : mQ} {l0 l1 l2 l3 l4 : Value} {st : List Value} {g : mG} {x : Int32} : WP m_X5_issueTo Q 12 [l0, l1, l2, l3, l4] (.int x :: st) g = (nl1 l3 ∧ WP m_X5_issueTo Q 14 [l0, l1, l2, l3, .int x] st g) := E_is (i := 4) (n := 2) lo_X5_issueTo rfl (Nat.le_of_ble_eq_true rfl)
theorem e_X5_issueTo_14 {Q : mQ} {l0 l2 l3 l4 : Value} {st : List Value} {g : mG} {x : Nat} : WP m_X5_issueTo Q 14 [l0, .ref x, l2, l3, l4] st g = WP m_X5_issueTo Q 15 [l0, .ref x, l2, l3, l4] (.ref x :: st) g := E_al (i := 1) (n := 1) lo_X5_issueTo rfl rfl
theorem e_X5_issueTo_14n {Q : mQ} {l0 l2 l3 l4 : Value} {st : List Value} {g : mG} : WP m_X5_issueTo Q 14 [l0, .null, l2, l3, l4] st g = WP m_X5_issueTo Q 15 [l0, .null, l2, l3, l4] (.null :: st) g := E_aln (i := 1) (n := 1) lo_X5_issueTo rfl rfl
theorem e_X5_issueTo_15 {Q : mQ} {ls st : List Value} {g : mG} {x : Value} : WP m_X5_issueTo Q 15 ls (x :: st) g = (cat1 x ∧ WP m_X5_issueTo Q 16 ls (x :: x :: st) g) := E_dup lo_X5_issueTo rfl
theorem e_X5_issueTo_16 {Q : mQ} {ls st : List Value} {g : mG} {a : Nat} : WP m_X5_issueTo Q 16 ls (.ref a :: st) g = (gK g a = 1 ∧ WP m_X5_issueTo Q 19 ls (.int (gI g a 6) :: st) g) := E_gI lo_X5_issueTo rfl
theorem e_X5_issueTo_19 {Q : mQ} {l0 l1 l2 l4 : Value} {st : List Value} {g : mG} {x : Int32} : WP m_X5_issueTo Q 19 [l0, l1, l2, .int x, l4] st g = WP m_X5_issueTo Q 20 [l0, l1, l2, .int x, l4] (.int x :: st) g := E_il (i := 3) (n := 1) lo_X5_issueTo rfl rfl
theorem e_X5_issueTo_20 {Q : mQ} {ls st : List Value} {g : mG} {x y : Int32} : WP m_X5_issueTo Q 20 ls (.int y :: .int x :: st) g = WP m_X5_issueTo Q 21 ls (.int (x - y) :: st) g := E_b2 (f := fun x y => x - y) lo_X5_issueTo rfl
theorem e_X5_issueTo_21 {Q : mQ} {ls st : List Value} {g : mG} {a : Nat} {v : Int32} : WP m_X5_issueTo Q 21 ls (.int v :: .ref a :: st) g = (gK g a = 1 ∧ WP m_X5_issueTo Q 24 ls st (pI g a 6 v)) := E_pI lo_X5_issueTo rfl
theorem e_X5_issueTo_24 {Q : mQ} {l0 l2 l3 l4 : Value} {st : List Value} {g : mG} {x : Nat} : WP m_X5_issueTo Q 24 [l0, .ref x, l2, l3, l4] st g = WP m_X5_issueTo Q 25 [l0, .ref x, l2, l3, l4] (.ref x :: st) g := E_al (i := 1) (n := 1) lo_X5_issueTo rfl rfl
theorem e_X5_issueTo_24n {Q : mQ} {l0 l2 l3 l4 : Value} {st : List Value} {g : mG} : WP m_X5_issueTo Q 24 [l0, .null, l2, l3, l4] st g = WP m_X5_issueTo Q 25 [l0, .null, l2, l3, l4] (.null :: st) g := E_aln (i := 1) (n := 1) lo_X5_issueTo rfl rfl
theorem e_X5_issueTo_25 {Q : mQ} {ls st : List Value} {g : mG} {a : Nat} : WP m_X5_issueTo Q 25 ls (.ref a :: st) g = ((gK g a = 1 ∧ gR g a 7 ≠ 0) ∧ WP m_X5_issueTo Q 28 ls (.ref (gR g a 7) :: st) g) := E_gR lo_X5_issueTo rfl
theorem e_X5_issueTo_28 {Q : mQ} {l1 l2 l3 l4 : Value} {st : List Value} {g : mG} {x : Nat} : WP m_X5_issueTo Q 28 [.ref x, l1, l2, l3, l4] st g = WP m_X5_issueTo Q 29 [.ref x, l1, l2, l3, l4] (.ref x :: st) g := E_al (i := 0) (n := 1) lo_X5_issueTo rfl rfl
theorem e_X5_issueTo_29 {Q : mQ} {ls st : List Value} {g : mG} {a : Nat} : WP m_X5_issueTo Q 29 ls (.ref a :: st) g = (gK g a = 6 ∧ WP m_X5_issueTo Q 32 ls (.int (gI g a 0) :: st) g) := E_gI lo_X5_issueTo rfl
theorem e_X5_issueTo_32 {Q : mQ} {l0 l1 l2 l3 : Value} {st : List Value} {g : mG} {x : Int32} : WP m_X5_issueTo Q 32 [l0, l1, l2, l3, .int x] st g = WP m_X5_issueTo Q 34 [l0, l1, l2, l3, .int x] (.int x :: st) g := E_il (i := 4) (n := 2) lo_X5_issueTo rfl rfl
theorem e_X5_issueTo_34 {Q : mQ} {ls st : List Value} {g : mG} {b : Nat} {a0 a1 : Value} : WP m_X5_issueTo Q 34 ls (a1 :: a0 :: .ref b :: st) g = (st.length ≤ 4 ∧ gK g b = 5 ∧ stbs g ls ∧ stbs g st ∧ w_X4_add [.ref b, a0, a1] g (fun v g' => WP m_X5_issueTo Q 37 ls (v.toList ++ st) g')) := E_CV (ar := [a1, a0, .ref b]) lo_X5_issueTo rfl rfl rfl (by decide)
theorem e_X5_issueTo_37 {Q : mQ} {l1 l2 l3 l4 : Value} {st : List Value} {g : mG} {x : Nat} : WP m_X5_issueTo Q 37 [.ref x, l1, l2, l3, l4] st g = WP m_X5_issueTo Q 38 [.ref x, l1, l2, l3, l4] (.ref x :: st) g := E_al (i := 0) (n := 1) lo_X5_issueTo rfl rfl
theorem e_X5_issueTo_38 {Q : mQ} {ls st : List Value} {g : mG} {x : Value} : WP m_X5_issueTo Q 38 ls (x :: st) g = (cat1 x ∧ WP m_X5_issueTo Q 39 ls (x :: x :: st) g) := E_dup lo_X5_issueTo rfl
theorem e_X5_issueTo_39 {Q : mQ} {ls st : List Value} {g : mG} {a : Nat} : WP m_X5_issueTo Q 39 ls (.ref a :: st) g = (gK g a = 6 ∧ WP m_X5_issueTo Q 42 ls (.int (gI g a 1) :: st) g) := E_gI lo_X5_issueTo rfl
theorem e_X5_issueTo_42 {Q : mQ} {l0 l1 l2 l3 : Value} {st : List Value} {g : mG} {x : Int32} : WP m_X5_issueTo Q 42 [l0, l1, l2, l3, .int x] st g = WP m_X5_issueTo Q 44 [l0, l1, l2, l3, .int x] (.int x :: st) g := E_il (i := 4) (n := 2) lo_X5_issueTo rfl rfl
theorem e_X5_issueTo_44 {Q : mQ} {ls st : List Value} {g : mG} {x y : Int32} : WP m_X5_issueTo Q 44 ls (.int y :: .int x :: st) g = WP m_X5_issueTo Q 45 ls (.int (x + y) :: st) g := E_b2 (f := fun x y => x + y) lo_X5_issueTo rfl
theorem e_X5_issueTo_45 {Q : mQ} {ls st : List Value} {g : mG} {a : Nat} {v : Int32} : WP m_X5_issueTo Q 45 ls (.int v :: .ref a :: st) g = (gK g a = 6 ∧ WP m_X5_issueTo Q 48 ls st (pI g a 1 v)) := E_pI lo_X5_issueTo rfl
theorem e_X5_issueTo_48 {Q : mQ} {l0 l1 l2 l3 : Value} {st : List Value} {g : mG} {x : Int32} : WP m_X5_issueTo Q 48 [l0, l1, l2, l3, .int x] st g = WP m_X5_issueTo Q 50 [l0, l1, l2, l3, .int x] (.int x :: st) g := E_il (i := 4) (n := 2) lo_X5_issueTo rfl rfl
theorem e_X5_issueTo_50 {Q : mQ} {ls : List Value} {g : mG} {v : Int32} : WP m_X5_issueTo Q 50 ls [.int v] g = Q (some (.int v)) g := E_iret lo_X5_issueTo rfl
/-! KilnPermits$Town.betterThan(LKilnPermits$Order;)I -/
def m_X5_betterThan : List (Nat × mT) := [(0, tD (f_ic (nI 0) 1)),
  (1, tD (f_is 2 1)),
  (2, tD (f_al 0 1)),
  (3, tD (f_gR 6 13)),
  (6, tD (f_as 3 1)),
  (7, tD (f_al 3 1)),
  (8, tD (f_alen)),
  (9, tD (f_is 4 2)),
  (11, tD (f_ic (nI 0) 1)),
  (12, tD (f_is 5 2)),
  (14, tD (f_il 5 2)),
  (16, tD (f_il 4 2)),
  (18, tI2 (fun x y => y ≤ x) 57),
  (21, tD (f_al 3 1)),
  (22, tD (f_il 5 2)),
  (24, tD (f_aald 15)),
  (25, tD (f_as 6 2)),
  (27, tD (f_al 6 2)),
  (29, tD (f_al 1 1)),
  (30, tD (f_gI 3 1)),
  (33, tC w_X2_standsAs 3 2),
  (36, tI1 (fun x => x = 0) 51),
  (39, tD (f_al 6 2)),
  (41, tD (f_al 1 1)),
  (42, tC w_X2_isBetterThan 3 2),
  (45, tI1 (fun x => x = 0) 51),
  (48, tD (f_inc 2 (nI 1))),
  (51, tD (f_inc 5 (nI 1))),
  (54, tD (f_goto 14)),
  (57, tD (f_il 2 1)),
  (58, tR f_iret)]
abbrev w_X5_betterThan : mS := wm m_X5_betterThan 2 5
set_option maxRecDepth 100000 in
theorem lo_X5_betterThan : locs_ok m_X5_betterThan := List.forall_mem_cons.mpr ⟨loc_D mo_ic,
  List.forall_mem_cons.mpr ⟨loc_D mo_is,
  List.forall_mem_cons.mpr ⟨loc_D mo_al,
  List.forall_mem_cons.mpr ⟨loc_D mo_gR,
  List.forall_mem_cons.mpr ⟨loc_D mo_as,
  List.forall_mem_cons.mpr ⟨loc_D mo_al,
  List.forall_mem_cons.mpr ⟨loc_D mo_alen,
  List.forall_mem_cons.mpr ⟨loc_D mo_is,
  List.forall_mem_cons.mpr ⟨loc_D mo_ic,
  List.forall_mem_cons.mpr ⟨loc_D mo_is,
  List.forall_mem_cons.mpr ⟨loc_D mo_il,
  List.forall_mem_cons.mpr ⟨loc_D mo_il,
  List.forall_mem_cons.mpr ⟨loc_I2,
  List.forall_mem_cons.mpr ⟨loc_D mo_al,
  List.forall_mem_cons.mpr ⟨loc_D mo_il,
  List.forall_mem_cons.mpr ⟨loc_D mo_aald,
  List.forall_mem_cons.mpr ⟨loc_D mo_as,
  List.forall_mem_cons.mpr ⟨loc_D mo_al,
  List.forall_mem_cons.mpr ⟨loc_D mo_al,
  List.forall_mem_cons.mpr ⟨loc_D mo_gI,
  List.forall_mem_cons.mpr ⟨loc_C sm_X2_standsAs.1,
  List.forall_mem_cons.mpr ⟨loc_I1,
  List.forall_mem_cons.mpr ⟨loc_D mo_al,
  List.forall_mem_cons.mpr ⟨loc_D mo_al,
  List.forall_mem_cons.mpr ⟨loc_C sm_X2_isBetterThan.1,
  List.forall_mem_cons.mpr ⟨loc_I1,
  List.forall_mem_cons.mpr ⟨loc_D mo_inc,
  List.forall_mem_cons.mpr ⟨loc_D mo_inc,
  List.forall_mem_cons.mpr ⟨loc_D mo_goto,
  List.forall_mem_cons.mpr ⟨loc_D mo_il,
  List.forall_mem_cons.mpr ⟨loc_R,
  fun _ h => absurd h List.not_mem_nil⟩⟩⟩⟩⟩⟩⟩⟩⟩⟩⟩⟩⟩⟩⟩⟩⟩⟩⟩⟩⟩⟩⟩⟩⟩⟩⟩⟩⟩⟩⟩
set_option maxRecDepth 100000 in
theorem sm_X5_betterThan : SM yX5_betterThan cX5_betterThan 7 (some .int) 2 w_X5_betterThan := SM_of' RX5 "betterThan" rfl rfl (by decide) (by decide) (by decide) lo_X5_betterThan (List.forall_mem_cons.mpr ⟨STP.r mo_ic (q_iconst dX5_betterThan_0 (by decide)),
  List.forall_mem_cons.mpr ⟨STP.r mo_is (q_istore_n dX5_betterThan_1 rfl),
  List.forall_mem_cons.mpr ⟨STP.r mo_al (q_aload_n dX5_betterThan_2 rfl),
  List.forall_mem_cons.mpr ⟨STP.r mo_gR (q_gR ⟨by decide, by decide⟩ (by decide) rfl (by decide) kf_X5_35 dX5_betterThan_3),
  List.forall_mem_cons.mpr ⟨STP.r mo_as (q_astore_n dX5_betterThan_6 rfl),
  List.forall_mem_cons.mpr ⟨STP.r mo_al (q_aload_n dX5_betterThan_7 rfl),
  List.forall_mem_cons.mpr ⟨STP.r mo_alen (q_alen dX5_betterThan_8),
  List.forall_mem_cons.mpr ⟨STP.r mo_is (q_istore dX5_betterThan_9),
  List.forall_mem_cons.mpr ⟨STP.r mo_ic (q_iconst dX5_betterThan_11 (by decide)),
  List.forall_mem_cons.mpr ⟨STP.r mo_is (q_istore dX5_betterThan_12),
  List.forall_mem_cons.mpr ⟨STP.r mo_il (q_iload dX5_betterThan_14),
  List.forall_mem_cons.mpr ⟨STP.r mo_il (q_iload dX5_betterThan_16),
  List.forall_mem_cons.mpr ⟨(q_ic_ge dX5_betterThan_18 (by decide)).r,
  List.forall_mem_cons.mpr ⟨STP.r mo_al (q_aload_n dX5_betterThan_21 rfl),
  List.forall_mem_cons.mpr ⟨STP.r mo_il (q_iload dX5_betterThan_22),
  List.forall_mem_cons.mpr ⟨STP.r mo_aald (q_aald ⟨by decide, by decide⟩ dX5_betterThan_24),
  List.forall_mem_cons.mpr ⟨STP.r mo_as (q_astore dX5_betterThan_25),
  List.forall_mem_cons.mpr ⟨STP.r mo_al (q_aload dX5_betterThan_27),
  List.forall_mem_cons.mpr ⟨STP.r mo_al (q_aload_n dX5_betterThan_29 rfl),
  List.forall_mem_cons.mpr ⟨STP.r mo_gI (q_gI ⟨by decide, by decide⟩ (by decide) rfl kf_X5_163 dX5_betterThan_30),
  List.forall_mem_cons.mpr ⟨(snd_CV sm_X2_standsAs ⟨by decide, by decide⟩ rfl km_X5_191 kt_X2_standsAs kv_X2_standsAs rfl ki_X2 kx_X2_standsAs ⟨by decide, by decide, by decide +kernel⟩ (by decide) (by decide) dX5_betterThan_33).r,
  List.forall_mem_cons.mpr ⟨(q_if_eq dX5_betterThan_36 (by decide)).r,
  List.forall_mem_cons.mpr ⟨STP.r mo_al (q_aload dX5_betterThan_39),
  List.forall_mem_cons.mpr ⟨STP.r mo_al (q_aload_n dX5_betterThan_41 rfl),
  List.forall_mem_cons.mpr ⟨(snd_CV sm_X2_isBetterThan ⟨by decide, by decide⟩ rfl km_X5_195 kt_X2_isBetterThan kv_X2_isBetterThan rfl ki_X2 kx_X2_isBetterThan ⟨by decide, by decide, by decide +kernel⟩ (by decide) (by decide) dX5_betterThan_42).r,
  List.forall_mem_cons.mpr ⟨(q_if_eq dX5_betterThan_45 (by decide)).r,
  List.forall_mem_cons.mpr ⟨STP.r mo_inc (q_inc dX5_betterThan_48 (by decide)),
  List.forall_mem_cons.mpr ⟨STP.r mo_inc (q_inc dX5_betterThan_51 (by decide)),
  List.forall_mem_cons.mpr ⟨STP.r mo_goto (q_goto dX5_betterThan_54 (by decide)),
  List.forall_mem_cons.mpr ⟨STP.r mo_il (q_iload_n dX5_betterThan_57 rfl),
  List.forall_mem_cons.mpr ⟨r_iret dX5_betterThan_58,
  fun _ h => absurd h List.not_mem_nil⟩⟩⟩⟩⟩⟩⟩⟩⟩⟩⟩⟩⟩⟩⟩⟩⟩⟩⟩⟩⟩⟩⟩⟩⟩⟩⟩⟩⟩⟩⟩)
theorem e_X5_betterThan_0 {Q : mQ} {ls st : List Value} {g : mG} : WP m_X5_betterThan Q 0 ls st g = WP m_X5_betterThan Q 1 ls (.int (nI 0) :: st) g := E_ic (v := nI 0) (n := 1) lo_X5_betterThan rfl
theorem e_X5_betterThan_1 {Q : mQ} {l0 l1 l2 l3 l4 l5 l6 : Value} {st : List Value} {g : mG} {x : Int32} : WP m_X5_betterThan Q 1 [l0, l1, l2, l3, l4, l5, l6] (.int x :: st) g = (nl1 l1 ∧ WP m_X5_betterThan Q 2 [l0, l1, .int x, l3, l4, l5, l6] st g) := E_is (i := 2) (n := 1) lo_X5_betterThan rfl (Nat.le_of_ble_eq_true rfl)
theorem e_X5_betterThan_2 {Q : mQ} {l1 l2 l3 l4 l5 l6 : Value} {st : List Value} {g : mG} {x : Nat} : WP m_X5_betterThan Q 2 [.ref x, l1, l2, l3, l4, l5, l6] st g = WP m_X5_betterThan Q 3 [.ref x, l1, l2, l3, l4, l5, l6] (.ref x :: st) g := E_al (i := 0) (n := 1) lo_X5_betterThan rfl rfl
theorem e_X5_betterThan_3 {Q : mQ} {ls st : List Value} {g : mG} {a : Nat} : WP m_X5_betterThan Q 3 ls (.ref a :: st) g = ((gK g a = 6 ∧ gR g a 13 ≠ 0) ∧ WP m_X5_betterThan Q 6 ls (.ref (gR g a 13) :: st) g) := E_gR lo_X5_betterThan rfl
theorem e_X5_betterThan_6 {Q : mQ} {l0 l1 l2 l3 l4 l5 l6 : Value} {st : List Value} {g : mG} {x : Nat} : WP m_X5_betterThan Q 6 [l0, l1, l2, l3, l4, l5, l6] (.ref x :: st) g = (nl1 l2 ∧ WP m_X5_betterThan Q 7 [l0, l1, l2, .ref x, l4, l5, l6] st g) := E_as (i := 3) (n := 1) lo_X5_betterThan rfl (Nat.le_of_ble_eq_true rfl)
theorem e_X5_betterThan_6n {Q : mQ} {l0 l1 l2 l3 l4 l5 l6 : Value} {st : List Value} {g : mG} : WP m_X5_betterThan Q 6 [l0, l1, l2, l3, l4, l5, l6] (.null :: st) g = (nl1 l2 ∧ WP m_X5_betterThan Q 7 [l0, l1, l2, .null, l4, l5, l6] st g) := E_asn (i := 3) (n := 1) lo_X5_betterThan rfl (Nat.le_of_ble_eq_true rfl)
theorem e_X5_betterThan_7 {Q : mQ} {l0 l1 l2 l4 l5 l6 : Value} {st : List Value} {g : mG} {x : Nat} : WP m_X5_betterThan Q 7 [l0, l1, l2, .ref x, l4, l5, l6] st g = WP m_X5_betterThan Q 8 [l0, l1, l2, .ref x, l4, l5, l6] (.ref x :: st) g := E_al (i := 3) (n := 1) lo_X5_betterThan rfl rfl
theorem e_X5_betterThan_7n {Q : mQ} {l0 l1 l2 l4 l5 l6 : Value} {st : List Value} {g : mG} : WP m_X5_betterThan Q 7 [l0, l1, l2, .null, l4, l5, l6] st g = WP m_X5_betterThan Q 8 [l0, l1, l2, .null, l4, l5, l6] (.null :: st) g := E_aln (i := 3) (n := 1) lo_X5_betterThan rfl rfl
theorem e_X5_betterThan_8 {Q : mQ} {ls st : List Value} {g : mG} {a : Nat} : WP m_X5_betterThan Q 8 ls (.ref a :: st) g = ((10 ≤ gK g a ∧ gK g a ≤ 17) ∧ WP m_X5_betterThan Q 9 ls (.int (nI (gN g a)) :: st) g) := E_alen lo_X5_betterThan rfl
theorem e_X5_betterThan_9 {Q : mQ} {l0 l1 l2 l3 l4 l5 l6 : Value} {st : List Value} {g : mG} {x : Int32} : WP m_X5_betterThan Q 9 [l0, l1, l2, l3, l4, l5, l6] (.int x :: st) g = (nl1 l3 ∧ WP m_X5_betterThan Q 11 [l0, l1, l2, l3, .int x, l5, l6] st g) := E_is (i := 4) (n := 2) lo_X5_betterThan rfl (Nat.le_of_ble_eq_true rfl)
theorem e_X5_betterThan_11 {Q : mQ} {ls st : List Value} {g : mG} : WP m_X5_betterThan Q 11 ls st g = WP m_X5_betterThan Q 12 ls (.int (nI 0) :: st) g := E_ic (v := nI 0) (n := 1) lo_X5_betterThan rfl
theorem e_X5_betterThan_12 {Q : mQ} {l0 l1 l2 l3 l4 l5 l6 : Value} {st : List Value} {g : mG} {x : Int32} : WP m_X5_betterThan Q 12 [l0, l1, l2, l3, l4, l5, l6] (.int x :: st) g = (nl1 l4 ∧ WP m_X5_betterThan Q 14 [l0, l1, l2, l3, l4, .int x, l6] st g) := E_is (i := 5) (n := 2) lo_X5_betterThan rfl (Nat.le_of_ble_eq_true rfl)
theorem e_X5_betterThan_14 {Q : mQ} {l0 l1 l2 l3 l4 l6 : Value} {st : List Value} {g : mG} {x : Int32} : WP m_X5_betterThan Q 14 [l0, l1, l2, l3, l4, .int x, l6] st g = WP m_X5_betterThan Q 16 [l0, l1, l2, l3, l4, .int x, l6] (.int x :: st) g := E_il (i := 5) (n := 2) lo_X5_betterThan rfl rfl
theorem e_X5_betterThan_16 {Q : mQ} {l0 l1 l2 l3 l5 l6 : Value} {st : List Value} {g : mG} {x : Int32} : WP m_X5_betterThan Q 16 [l0, l1, l2, l3, .int x, l5, l6] st g = WP m_X5_betterThan Q 18 [l0, l1, l2, l3, .int x, l5, l6] (.int x :: st) g := E_il (i := 4) (n := 2) lo_X5_betterThan rfl rfl
theorem e_X5_betterThan_18 {Q : mQ} {ls st : List Value} {g : mG} {x y : Int32} : WP m_X5_betterThan Q 18 ls (.int y :: .int x :: st) g = ((y ≤ x → WP m_X5_betterThan Q 57 ls st g) ∧ (¬ (y ≤ x) → WP m_X5_betterThan Q 21 ls st g)) := E_I2 (c := fun x y => y ≤ x) (t := 57) lo_X5_betterThan rfl
theorem e_X5_betterThan_21 {Q : mQ} {l0 l1 l2 l4 l5 l6 : Value} {st : List Value} {g : mG} {x : Nat} : WP m_X5_betterThan Q 21 [l0, l1, l2, .ref x, l4, l5, l6] st g = WP m_X5_betterThan Q 22 [l0, l1, l2, .ref x, l4, l5, l6] (.ref x :: st) g := E_al (i := 3) (n := 1) lo_X5_betterThan rfl rfl
theorem e_X5_betterThan_21n {Q : mQ} {l0 l1 l2 l4 l5 l6 : Value} {st : List Value} {g : mG} : WP m_X5_betterThan Q 21 [l0, l1, l2, .null, l4, l5, l6] st g = WP m_X5_betterThan Q 22 [l0, l1, l2, .null, l4, l5, l6] (.null :: st) g := E_aln (i := 3) (n := 1) lo_X5_betterThan rfl rfl
theorem e_X5_betterThan_22 {Q : mQ} {l0 l1 l2 l3 l4 l6 : Value} {st : List Value} {g : mG} {x : Int32} : WP m_X5_betterThan Q 22 [l0, l1, l2, l3, l4, .int x, l6] st g = WP m_X5_betterThan Q 24 [l0, l1, l2, l3, l4, .int x, l6] (.int x :: st) g := E_il (i := 5) (n := 2) lo_X5_betterThan rfl rfl
theorem e_X5_betterThan_24 {Q : mQ} {ls st : List Value} {g : mG} {a : Nat} {i : Int32} : WP m_X5_betterThan Q 24 ls (.int i :: .ref a :: st) g = ((gK g a = 15 ∧ vp_in i (gN g a) ∧ gR g a i.toNatClampNeg ≠ 0) ∧ WP m_X5_betterThan Q 25 ls (.ref (gR g a i.toNatClampNeg) :: st) g) := E_aald lo_X5_betterThan rfl
theorem e_X5_betterThan_25 {Q : mQ} {l0 l1 l2 l3 l4 l5 l6 : Value} {st : List Value} {g : mG} {x : Nat} : WP m_X5_betterThan Q 25 [l0, l1, l2, l3, l4, l5, l6] (.ref x :: st) g = (nl1 l5 ∧ WP m_X5_betterThan Q 27 [l0, l1, l2, l3, l4, l5, .ref x] st g) := E_as (i := 6) (n := 2) lo_X5_betterThan rfl (Nat.le_of_ble_eq_true rfl)
theorem e_X5_betterThan_25n {Q : mQ} {l0 l1 l2 l3 l4 l5 l6 : Value} {st : List Value} {g : mG} : WP m_X5_betterThan Q 25 [l0, l1, l2, l3, l4, l5, l6] (.null :: st) g = (nl1 l5 ∧ WP m_X5_betterThan Q 27 [l0, l1, l2, l3, l4, l5, .null] st g) := E_asn (i := 6) (n := 2) lo_X5_betterThan rfl (Nat.le_of_ble_eq_true rfl)
theorem e_X5_betterThan_27 {Q : mQ} {l0 l1 l2 l3 l4 l5 : Value} {st : List Value} {g : mG} {x : Nat} : WP m_X5_betterThan Q 27 [l0, l1, l2, l3, l4, l5, .ref x] st g = WP m_X5_betterThan Q 29 [l0, l1, l2, l3, l4, l5, .ref x] (.ref x :: st) g := E_al (i := 6) (n := 2) lo_X5_betterThan rfl rfl
theorem e_X5_betterThan_27n {Q : mQ} {l0 l1 l2 l3 l4 l5 : Value} {st : List Value} {g : mG} : WP m_X5_betterThan Q 27 [l0, l1, l2, l3, l4, l5, .null] st g = WP m_X5_betterThan Q 29 [l0, l1, l2, l3, l4, l5, .null] (.null :: st) g := E_aln (i := 6) (n := 2) lo_X5_betterThan rfl rfl
theorem e_X5_betterThan_29 {Q : mQ} {l0 l2 l3 l4 l5 l6 : Value} {st : List Value} {g : mG} {x : Nat} : WP m_X5_betterThan Q 29 [l0, .ref x, l2, l3, l4, l5, l6] st g = WP m_X5_betterThan Q 30 [l0, .ref x, l2, l3, l4, l5, l6] (.ref x :: st) g := E_al (i := 1) (n := 1) lo_X5_betterThan rfl rfl
theorem e_X5_betterThan_29n {Q : mQ} {l0 l2 l3 l4 l5 l6 : Value} {st : List Value} {g : mG} : WP m_X5_betterThan Q 29 [l0, .null, l2, l3, l4, l5, l6] st g = WP m_X5_betterThan Q 30 [l0, .null, l2, l3, l4, l5, l6] (.null :: st) g := E_aln (i := 1) (n := 1) lo_X5_betterThan rfl rfl
theorem e_X5_betterThan_30 {Q : mQ} {ls st : List Value} {g : mG} {a : Nat} : WP m_X5_betterThan Q 30 ls (.ref a :: st) g = (gK g a = 3 ∧ WP m_X5_betterThan Q 33 ls (.int (gI g a 1) :: st) g) := E_gI lo_X5_betterThan rfl
theorem e_X5_betterThan_33 {Q : mQ} {ls st : List Value} {g : mG} {b : Nat} {a0 : Value} : WP m_X5_betterThan Q 33 ls (a0 :: .ref b :: st) g = (st.length ≤ 4 ∧ gK g b = 3 ∧ stbs g ls ∧ stbs g st ∧ w_X2_standsAs [.ref b, a0] g (fun v g' => WP m_X5_betterThan Q 36 ls (v.toList ++ st) g')) := E_CV (ar := [a0, .ref b]) lo_X5_betterThan rfl rfl rfl (by decide)
theorem e_X5_betterThan_36 {Q : mQ} {ls st : List Value} {g : mG} {x : Int32} : WP m_X5_betterThan Q 36 ls (.int x :: st) g = ((x = 0 → WP m_X5_betterThan Q 51 ls st g) ∧ (¬ (x = 0) → WP m_X5_betterThan Q 39 ls st g)) := E_I1 (c := fun x => x = 0) (t := 51) lo_X5_betterThan rfl
theorem e_X5_betterThan_39 {Q : mQ} {l0 l1 l2 l3 l4 l5 : Value} {st : List Value} {g : mG} {x : Nat} : WP m_X5_betterThan Q 39 [l0, l1, l2, l3, l4, l5, .ref x] st g = WP m_X5_betterThan Q 41 [l0, l1, l2, l3, l4, l5, .ref x] (.ref x :: st) g := E_al (i := 6) (n := 2) lo_X5_betterThan rfl rfl
theorem e_X5_betterThan_39n {Q : mQ} {l0 l1 l2 l3 l4 l5 : Value} {st : List Value} {g : mG} : WP m_X5_betterThan Q 39 [l0, l1, l2, l3, l4, l5, .null] st g = WP m_X5_betterThan Q 41 [l0, l1, l2, l3, l4, l5, .null] (.null :: st) g := E_aln (i := 6) (n := 2) lo_X5_betterThan rfl rfl
theorem e_X5_betterThan_41 {Q : mQ} {l0 l2 l3 l4 l5 l6 : Value} {st : List Value} {g : mG} {x : Nat} : WP m_X5_betterThan Q 41 [l0, .ref x, l2, l3, l4, l5, l6] st g = WP m_X5_betterThan Q 42 [l0, .ref x, l2, l3, l4, l5, l6] (.ref x :: st) g := E_al (i := 1) (n := 1) lo_X5_betterThan rfl rfl
theorem e_X5_betterThan_41n {Q : mQ} {l0 l2 l3 l4 l5 l6 : Value} {st : List Value} {g : mG} : WP m_X5_betterThan Q 41 [l0, .null, l2, l3, l4, l5, l6] st g = WP m_X5_betterThan Q 42 [l0, .null, l2, l3, l4, l5, l6] (.null :: st) g := E_aln (i := 1) (n := 1) lo_X5_betterThan rfl rfl
theorem e_X5_betterThan_42 {Q : mQ} {ls st : List Value} {g : mG} {b : Nat} {a0 : Value} : WP m_X5_betterThan Q 42 ls (a0 :: .ref b :: st) g = (st.length ≤ 4 ∧ gK g b = 3 ∧ stbs g ls ∧ stbs g st ∧ w_X2_isBetterThan [.ref b, a0] g (fun v g' => WP m_X5_betterThan Q 45 ls (v.toList ++ st) g')) := E_CV (ar := [a0, .ref b]) lo_X5_betterThan rfl rfl rfl (by decide)
theorem e_X5_betterThan_45 {Q : mQ} {ls st : List Value} {g : mG} {x : Int32} : WP m_X5_betterThan Q 45 ls (.int x :: st) g = ((x = 0 → WP m_X5_betterThan Q 51 ls st g) ∧ (¬ (x = 0) → WP m_X5_betterThan Q 48 ls st g)) := E_I1 (c := fun x => x = 0) (t := 51) lo_X5_betterThan rfl
theorem e_X5_betterThan_48 {Q : mQ} {l0 l1 l3 l4 l5 l6 : Value} {st : List Value} {g : mG} {x : Int32} : WP m_X5_betterThan Q 48 [l0, l1, .int x, l3, l4, l5, l6] st g = (nl1 l1 ∧ WP m_X5_betterThan Q 51 [l0, l1, .int (x + nI 1), l3, l4, l5, l6] st g) := E_inc (i := 2) (d := nI 1) lo_X5_betterThan rfl rfl
theorem e_X5_betterThan_51 {Q : mQ} {l0 l1 l2 l3 l4 l6 : Value} {st : List Value} {g : mG} {x : Int32} : WP m_X5_betterThan Q 51 [l0, l1, l2, l3, l4, .int x, l6] st g = (nl1 l4 ∧ WP m_X5_betterThan Q 54 [l0, l1, l2, l3, l4, .int (x + nI 1), l6] st g) := E_inc (i := 5) (d := nI 1) lo_X5_betterThan rfl rfl
theorem e_X5_betterThan_54 {Q : mQ} {ls st : List Value} {g : mG} : WP m_X5_betterThan Q 54 ls st g = WP m_X5_betterThan Q 14 ls st g := E_goto lo_X5_betterThan rfl
theorem e_X5_betterThan_57 {Q : mQ} {l0 l1 l3 l4 l5 l6 : Value} {st : List Value} {g : mG} {x : Int32} : WP m_X5_betterThan Q 57 [l0, l1, .int x, l3, l4, l5, l6] st g = WP m_X5_betterThan Q 58 [l0, l1, .int x, l3, l4, l5, l6] (.int x :: st) g := E_il (i := 2) (n := 1) lo_X5_betterThan rfl rfl
theorem e_X5_betterThan_58 {Q : mQ} {ls : List Value} {g : mG} {v : Int32} : WP m_X5_betterThan Q 58 ls [.int v] g = Q (some (.int v)) g := E_iret lo_X5_betterThan rfl
/-! KilnPermits$Town.ranked(ZI)LKilnPermits$Order; -/
def m_X5_ranked : List (Nat × mT) := [(0, tD (f_al 0 1)),
  (1, tD (f_gR 6 13)),
  (4, tD (f_as 3 1)),
  (5, tD (f_al 3 1)),
  (6, tD (f_alen)),
  (7, tD (f_is 4 2)),
  (9, tD (f_ic (nI 0) 1)),
  (10, tD (f_is 5 2)),
  (12, tD (f_il 5 2)),
  (14, tD (f_il 4 2)),
  (16, tI2 (fun x y => y ≤ x) 53),
  (19, tD (f_al 3 1)),
  (20, tD (f_il 5 2)),
  (22, tD (f_aald 15)),
  (23, tD (f_as 6 2)),
  (25, tD (f_al 6 2)),
  (27, tD (f_il 1 1)),
  (28, tC w_X2_standsAs 3 2),
  (31, tI1 (fun x => x = 0) 47),
  (34, tD (f_al 0 1)),
  (35, tD (f_al 6 2)),
  (37, tC w_X5_betterThan 6 2),
  (40, tD (f_il 2 1)),
  (41, tI2 (fun x y => ¬ x = y) 47),
  (44, tD (f_al 6 2)),
  (46, tR f_aret),
  (47, tD (f_inc 5 (nI 1))),
  (50, tD (f_goto 12)),
  (53, tD (f_nul)),
  (54, tR f_aret)]
abbrev w_X5_ranked : mS := wm m_X5_ranked 3 4
set_option maxRecDepth 100000 in
theorem lo_X5_ranked : locs_ok m_X5_ranked := List.forall_mem_cons.mpr ⟨loc_D mo_al,
  List.forall_mem_cons.mpr ⟨loc_D mo_gR,
  List.forall_mem_cons.mpr ⟨loc_D mo_as,
  List.forall_mem_cons.mpr ⟨loc_D mo_al,
  List.forall_mem_cons.mpr ⟨loc_D mo_alen,
  List.forall_mem_cons.mpr ⟨loc_D mo_is,
  List.forall_mem_cons.mpr ⟨loc_D mo_ic,
  List.forall_mem_cons.mpr ⟨loc_D mo_is,
  List.forall_mem_cons.mpr ⟨loc_D mo_il,
  List.forall_mem_cons.mpr ⟨loc_D mo_il,
  List.forall_mem_cons.mpr ⟨loc_I2,
  List.forall_mem_cons.mpr ⟨loc_D mo_al,
  List.forall_mem_cons.mpr ⟨loc_D mo_il,
  List.forall_mem_cons.mpr ⟨loc_D mo_aald,
  List.forall_mem_cons.mpr ⟨loc_D mo_as,
  List.forall_mem_cons.mpr ⟨loc_D mo_al,
  List.forall_mem_cons.mpr ⟨loc_D mo_il,
  List.forall_mem_cons.mpr ⟨loc_C sm_X2_standsAs.1,
  List.forall_mem_cons.mpr ⟨loc_I1,
  List.forall_mem_cons.mpr ⟨loc_D mo_al,
  List.forall_mem_cons.mpr ⟨loc_D mo_al,
  List.forall_mem_cons.mpr ⟨loc_C sm_X5_betterThan.1,
  List.forall_mem_cons.mpr ⟨loc_D mo_il,
  List.forall_mem_cons.mpr ⟨loc_I2,
  List.forall_mem_cons.mpr ⟨loc_D mo_al,
  List.forall_mem_cons.mpr ⟨loc_R,
  List.forall_mem_cons.mpr ⟨loc_D mo_inc,
  List.forall_mem_cons.mpr ⟨loc_D mo_goto,
  List.forall_mem_cons.mpr ⟨loc_D mo_nul,
  List.forall_mem_cons.mpr ⟨loc_R,
  fun _ h => absurd h List.not_mem_nil⟩⟩⟩⟩⟩⟩⟩⟩⟩⟩⟩⟩⟩⟩⟩⟩⟩⟩⟩⟩⟩⟩⟩⟩⟩⟩⟩⟩⟩⟩
set_option maxRecDepth 100000 in
theorem sm_X5_ranked : SM yX5_ranked cX5_ranked 7 (some (.object "KilnPermits$Order")) 3 w_X5_ranked := SM_of' RX5 "ranked" rfl rfl (by decide) (by decide) (by decide) lo_X5_ranked (List.forall_mem_cons.mpr ⟨STP.r mo_al (q_aload_n dX5_ranked_0 rfl),
  List.forall_mem_cons.mpr ⟨STP.r mo_gR (q_gR ⟨by decide, by decide⟩ (by decide) rfl (by decide) kf_X5_35 dX5_ranked_1),
  List.forall_mem_cons.mpr ⟨STP.r mo_as (q_astore_n dX5_ranked_4 rfl),
  List.forall_mem_cons.mpr ⟨STP.r mo_al (q_aload_n dX5_ranked_5 rfl),
  List.forall_mem_cons.mpr ⟨STP.r mo_alen (q_alen dX5_ranked_6),
  List.forall_mem_cons.mpr ⟨STP.r mo_is (q_istore dX5_ranked_7),
  List.forall_mem_cons.mpr ⟨STP.r mo_ic (q_iconst dX5_ranked_9 (by decide)),
  List.forall_mem_cons.mpr ⟨STP.r mo_is (q_istore dX5_ranked_10),
  List.forall_mem_cons.mpr ⟨STP.r mo_il (q_iload dX5_ranked_12),
  List.forall_mem_cons.mpr ⟨STP.r mo_il (q_iload dX5_ranked_14),
  List.forall_mem_cons.mpr ⟨(q_ic_ge dX5_ranked_16 (by decide)).r,
  List.forall_mem_cons.mpr ⟨STP.r mo_al (q_aload_n dX5_ranked_19 rfl),
  List.forall_mem_cons.mpr ⟨STP.r mo_il (q_iload dX5_ranked_20),
  List.forall_mem_cons.mpr ⟨STP.r mo_aald (q_aald ⟨by decide, by decide⟩ dX5_ranked_22),
  List.forall_mem_cons.mpr ⟨STP.r mo_as (q_astore dX5_ranked_23),
  List.forall_mem_cons.mpr ⟨STP.r mo_al (q_aload dX5_ranked_25),
  List.forall_mem_cons.mpr ⟨STP.r mo_il (q_iload_n dX5_ranked_27 rfl),
  List.forall_mem_cons.mpr ⟨(snd_CV sm_X2_standsAs ⟨by decide, by decide⟩ rfl km_X5_191 kt_X2_standsAs kv_X2_standsAs rfl ki_X2 kx_X2_standsAs ⟨by decide, by decide, by decide +kernel⟩ (by decide) (by decide) dX5_ranked_28).r,
  List.forall_mem_cons.mpr ⟨(q_if_eq dX5_ranked_31 (by decide)).r,
  List.forall_mem_cons.mpr ⟨STP.r mo_al (q_aload_n dX5_ranked_34 rfl),
  List.forall_mem_cons.mpr ⟨STP.r mo_al (q_aload dX5_ranked_35),
  List.forall_mem_cons.mpr ⟨(snd_CV sm_X5_betterThan ⟨by decide, by decide⟩ rfl km_X5_199 kt_X5_betterThan kv_X5_betterThan rfl ki_X5 kx_X5_betterThan ⟨by decide, by decide, by decide +kernel⟩ (by decide) (by decide) dX5_ranked_37).r,
  List.forall_mem_cons.mpr ⟨STP.r mo_il (q_iload_n dX5_ranked_40 rfl),
  List.forall_mem_cons.mpr ⟨(q_ic_ne dX5_ranked_41 (by decide)).r,
  List.forall_mem_cons.mpr ⟨STP.r mo_al (q_aload dX5_ranked_44),
  List.forall_mem_cons.mpr ⟨r_aret (by first | exact Or.inl ⟨_, rfl⟩ | exact Or.inr ⟨_, rfl⟩) dX5_ranked_46,
  List.forall_mem_cons.mpr ⟨STP.r mo_inc (q_inc dX5_ranked_47 (by decide)),
  List.forall_mem_cons.mpr ⟨STP.r mo_goto (q_goto dX5_ranked_50 (by decide)),
  List.forall_mem_cons.mpr ⟨STP.r mo_nul (q_nul dX5_ranked_53),
  List.forall_mem_cons.mpr ⟨r_aret (by first | exact Or.inl ⟨_, rfl⟩ | exact Or.inr ⟨_, rfl⟩) dX5_ranked_54,
  fun _ h => absurd h List.not_mem_nil⟩⟩⟩⟩⟩⟩⟩⟩⟩⟩⟩⟩⟩⟩⟩⟩⟩⟩⟩⟩⟩⟩⟩⟩⟩⟩⟩⟩⟩⟩)
theorem e_X5_ranked_0 {Q : mQ} {l1 l2 l3 l4 l5 l6 : Value} {st : List Value} {g : mG} {x : Nat} : WP m_X5_ranked Q 0 [.ref x, l1, l2, l3, l4, l5, l6] st g = WP m_X5_ranked Q 1 [.ref x, l1, l2, l3, l4, l5, l6] (.ref x :: st) g := E_al (i := 0) (n := 1) lo_X5_ranked rfl rfl
theorem e_X5_ranked_1 {Q : mQ} {ls st : List Value} {g : mG} {a : Nat} : WP m_X5_ranked Q 1 ls (.ref a :: st) g = ((gK g a = 6 ∧ gR g a 13 ≠ 0) ∧ WP m_X5_ranked Q 4 ls (.ref (gR g a 13) :: st) g) := E_gR lo_X5_ranked rfl
theorem e_X5_ranked_4 {Q : mQ} {l0 l1 l2 l3 l4 l5 l6 : Value} {st : List Value} {g : mG} {x : Nat} : WP m_X5_ranked Q 4 [l0, l1, l2, l3, l4, l5, l6] (.ref x :: st) g = (nl1 l2 ∧ WP m_X5_ranked Q 5 [l0, l1, l2, .ref x, l4, l5, l6] st g) := E_as (i := 3) (n := 1) lo_X5_ranked rfl (Nat.le_of_ble_eq_true rfl)
theorem e_X5_ranked_4n {Q : mQ} {l0 l1 l2 l3 l4 l5 l6 : Value} {st : List Value} {g : mG} : WP m_X5_ranked Q 4 [l0, l1, l2, l3, l4, l5, l6] (.null :: st) g = (nl1 l2 ∧ WP m_X5_ranked Q 5 [l0, l1, l2, .null, l4, l5, l6] st g) := E_asn (i := 3) (n := 1) lo_X5_ranked rfl (Nat.le_of_ble_eq_true rfl)
theorem e_X5_ranked_5 {Q : mQ} {l0 l1 l2 l4 l5 l6 : Value} {st : List Value} {g : mG} {x : Nat} : WP m_X5_ranked Q 5 [l0, l1, l2, .ref x, l4, l5, l6] st g = WP m_X5_ranked Q 6 [l0, l1, l2, .ref x, l4, l5, l6] (.ref x :: st) g := E_al (i := 3) (n := 1) lo_X5_ranked rfl rfl
theorem e_X5_ranked_5n {Q : mQ} {l0 l1 l2 l4 l5 l6 : Value} {st : List Value} {g : mG} : WP m_X5_ranked Q 5 [l0, l1, l2, .null, l4, l5, l6] st g = WP m_X5_ranked Q 6 [l0, l1, l2, .null, l4, l5, l6] (.null :: st) g := E_aln (i := 3) (n := 1) lo_X5_ranked rfl rfl
theorem e_X5_ranked_6 {Q : mQ} {ls st : List Value} {g : mG} {a : Nat} : WP m_X5_ranked Q 6 ls (.ref a :: st) g = ((10 ≤ gK g a ∧ gK g a ≤ 17) ∧ WP m_X5_ranked Q 7 ls (.int (nI (gN g a)) :: st) g) := E_alen lo_X5_ranked rfl
theorem e_X5_ranked_7 {Q : mQ} {l0 l1 l2 l3 l4 l5 l6 : Value} {st : List Value} {g : mG} {x : Int32} : WP m_X5_ranked Q 7 [l0, l1, l2, l3, l4, l5, l6] (.int x :: st) g = (nl1 l3 ∧ WP m_X5_ranked Q 9 [l0, l1, l2, l3, .int x, l5, l6] st g) := E_is (i := 4) (n := 2) lo_X5_ranked rfl (Nat.le_of_ble_eq_true rfl)
theorem e_X5_ranked_9 {Q : mQ} {ls st : List Value} {g : mG} : WP m_X5_ranked Q 9 ls st g = WP m_X5_ranked Q 10 ls (.int (nI 0) :: st) g := E_ic (v := nI 0) (n := 1) lo_X5_ranked rfl
theorem e_X5_ranked_10 {Q : mQ} {l0 l1 l2 l3 l4 l5 l6 : Value} {st : List Value} {g : mG} {x : Int32} : WP m_X5_ranked Q 10 [l0, l1, l2, l3, l4, l5, l6] (.int x :: st) g = (nl1 l4 ∧ WP m_X5_ranked Q 12 [l0, l1, l2, l3, l4, .int x, l6] st g) := E_is (i := 5) (n := 2) lo_X5_ranked rfl (Nat.le_of_ble_eq_true rfl)
theorem e_X5_ranked_12 {Q : mQ} {l0 l1 l2 l3 l4 l6 : Value} {st : List Value} {g : mG} {x : Int32} : WP m_X5_ranked Q 12 [l0, l1, l2, l3, l4, .int x, l6] st g = WP m_X5_ranked Q 14 [l0, l1, l2, l3, l4, .int x, l6] (.int x :: st) g := E_il (i := 5) (n := 2) lo_X5_ranked rfl rfl
theorem e_X5_ranked_14 {Q : mQ} {l0 l1 l2 l3 l5 l6 : Value} {st : List Value} {g : mG} {x : Int32} : WP m_X5_ranked Q 14 [l0, l1, l2, l3, .int x, l5, l6] st g = WP m_X5_ranked Q 16 [l0, l1, l2, l3, .int x, l5, l6] (.int x :: st) g := E_il (i := 4) (n := 2) lo_X5_ranked rfl rfl
theorem e_X5_ranked_16 {Q : mQ} {ls st : List Value} {g : mG} {x y : Int32} : WP m_X5_ranked Q 16 ls (.int y :: .int x :: st) g = ((y ≤ x → WP m_X5_ranked Q 53 ls st g) ∧ (¬ (y ≤ x) → WP m_X5_ranked Q 19 ls st g)) := E_I2 (c := fun x y => y ≤ x) (t := 53) lo_X5_ranked rfl
theorem e_X5_ranked_19 {Q : mQ} {l0 l1 l2 l4 l5 l6 : Value} {st : List Value} {g : mG} {x : Nat} : WP m_X5_ranked Q 19 [l0, l1, l2, .ref x, l4, l5, l6] st g = WP m_X5_ranked Q 20 [l0, l1, l2, .ref x, l4, l5, l6] (.ref x :: st) g := E_al (i := 3) (n := 1) lo_X5_ranked rfl rfl
theorem e_X5_ranked_19n {Q : mQ} {l0 l1 l2 l4 l5 l6 : Value} {st : List Value} {g : mG} : WP m_X5_ranked Q 19 [l0, l1, l2, .null, l4, l5, l6] st g = WP m_X5_ranked Q 20 [l0, l1, l2, .null, l4, l5, l6] (.null :: st) g := E_aln (i := 3) (n := 1) lo_X5_ranked rfl rfl
theorem e_X5_ranked_20 {Q : mQ} {l0 l1 l2 l3 l4 l6 : Value} {st : List Value} {g : mG} {x : Int32} : WP m_X5_ranked Q 20 [l0, l1, l2, l3, l4, .int x, l6] st g = WP m_X5_ranked Q 22 [l0, l1, l2, l3, l4, .int x, l6] (.int x :: st) g := E_il (i := 5) (n := 2) lo_X5_ranked rfl rfl
theorem e_X5_ranked_22 {Q : mQ} {ls st : List Value} {g : mG} {a : Nat} {i : Int32} : WP m_X5_ranked Q 22 ls (.int i :: .ref a :: st) g = ((gK g a = 15 ∧ vp_in i (gN g a) ∧ gR g a i.toNatClampNeg ≠ 0) ∧ WP m_X5_ranked Q 23 ls (.ref (gR g a i.toNatClampNeg) :: st) g) := E_aald lo_X5_ranked rfl
theorem e_X5_ranked_23 {Q : mQ} {l0 l1 l2 l3 l4 l5 l6 : Value} {st : List Value} {g : mG} {x : Nat} : WP m_X5_ranked Q 23 [l0, l1, l2, l3, l4, l5, l6] (.ref x :: st) g = (nl1 l5 ∧ WP m_X5_ranked Q 25 [l0, l1, l2, l3, l4, l5, .ref x] st g) := E_as (i := 6) (n := 2) lo_X5_ranked rfl (Nat.le_of_ble_eq_true rfl)
theorem e_X5_ranked_23n {Q : mQ} {l0 l1 l2 l3 l4 l5 l6 : Value} {st : List Value} {g : mG} : WP m_X5_ranked Q 23 [l0, l1, l2, l3, l4, l5, l6] (.null :: st) g = (nl1 l5 ∧ WP m_X5_ranked Q 25 [l0, l1, l2, l3, l4, l5, .null] st g) := E_asn (i := 6) (n := 2) lo_X5_ranked rfl (Nat.le_of_ble_eq_true rfl)
theorem e_X5_ranked_25 {Q : mQ} {l0 l1 l2 l3 l4 l5 : Value} {st : List Value} {g : mG} {x : Nat} : WP m_X5_ranked Q 25 [l0, l1, l2, l3, l4, l5, .ref x] st g = WP m_X5_ranked Q 27 [l0, l1, l2, l3, l4, l5, .ref x] (.ref x :: st) g := E_al (i := 6) (n := 2) lo_X5_ranked rfl rfl
theorem e_X5_ranked_25n {Q : mQ} {l0 l1 l2 l3 l4 l5 : Value} {st : List Value} {g : mG} : WP m_X5_ranked Q 25 [l0, l1, l2, l3, l4, l5, .null] st g = WP m_X5_ranked Q 27 [l0, l1, l2, l3, l4, l5, .null] (.null :: st) g := E_aln (i := 6) (n := 2) lo_X5_ranked rfl rfl
theorem e_X5_ranked_27 {Q : mQ} {l0 l2 l3 l4 l5 l6 : Value} {st : List Value} {g : mG} {x : Int32} : WP m_X5_ranked Q 27 [l0, .int x, l2, l3, l4, l5, l6] st g = WP m_X5_ranked Q 28 [l0, .int x, l2, l3, l4, l5, l6] (.int x :: st) g := E_il (i := 1) (n := 1) lo_X5_ranked rfl rfl
theorem e_X5_ranked_28 {Q : mQ} {ls st : List Value} {g : mG} {b : Nat} {a0 : Value} : WP m_X5_ranked Q 28 ls (a0 :: .ref b :: st) g = (st.length ≤ 4 ∧ gK g b = 3 ∧ stbs g ls ∧ stbs g st ∧ w_X2_standsAs [.ref b, a0] g (fun v g' => WP m_X5_ranked Q 31 ls (v.toList ++ st) g')) := E_CV (ar := [a0, .ref b]) lo_X5_ranked rfl rfl rfl (by decide)
theorem e_X5_ranked_31 {Q : mQ} {ls st : List Value} {g : mG} {x : Int32} : WP m_X5_ranked Q 31 ls (.int x :: st) g = ((x = 0 → WP m_X5_ranked Q 47 ls st g) ∧ (¬ (x = 0) → WP m_X5_ranked Q 34 ls st g)) := E_I1 (c := fun x => x = 0) (t := 47) lo_X5_ranked rfl
theorem e_X5_ranked_34 {Q : mQ} {l1 l2 l3 l4 l5 l6 : Value} {st : List Value} {g : mG} {x : Nat} : WP m_X5_ranked Q 34 [.ref x, l1, l2, l3, l4, l5, l6] st g = WP m_X5_ranked Q 35 [.ref x, l1, l2, l3, l4, l5, l6] (.ref x :: st) g := E_al (i := 0) (n := 1) lo_X5_ranked rfl rfl
theorem e_X5_ranked_35 {Q : mQ} {l0 l1 l2 l3 l4 l5 : Value} {st : List Value} {g : mG} {x : Nat} : WP m_X5_ranked Q 35 [l0, l1, l2, l3, l4, l5, .ref x] st g = WP m_X5_ranked Q 37 [l0, l1, l2, l3, l4, l5, .ref x] (.ref x :: st) g := E_al (i := 6) (n := 2) lo_X5_ranked rfl rfl
theorem e_X5_ranked_35n {Q : mQ} {l0 l1 l2 l3 l4 l5 : Value} {st : List Value} {g : mG} : WP m_X5_ranked Q 35 [l0, l1, l2, l3, l4, l5, .null] st g = WP m_X5_ranked Q 37 [l0, l1, l2, l3, l4, l5, .null] (.null :: st) g := E_aln (i := 6) (n := 2) lo_X5_ranked rfl rfl
theorem e_X5_ranked_37 {Q : mQ} {ls st : List Value} {g : mG} {b : Nat} {a0 : Value} : WP m_X5_ranked Q 37 ls (a0 :: .ref b :: st) g = (st.length ≤ 4 ∧ gK g b = 6 ∧ stbs g ls ∧ stbs g st ∧ w_X5_betterThan [.ref b, a0] g (fun v g' => WP m_X5_ranked Q 40 ls (v.toList ++ st) g')) := E_CV (ar := [a0, .ref b]) lo_X5_ranked rfl rfl rfl (by decide)
theorem e_X5_ranked_40 {Q : mQ} {l0 l1 l3 l4 l5 l6 : Value} {st : List Value} {g : mG} {x : Int32} : WP m_X5_ranked Q 40 [l0, l1, .int x, l3, l4, l5, l6] st g = WP m_X5_ranked Q 41 [l0, l1, .int x, l3, l4, l5, l6] (.int x :: st) g := E_il (i := 2) (n := 1) lo_X5_ranked rfl rfl
theorem e_X5_ranked_41 {Q : mQ} {ls st : List Value} {g : mG} {x y : Int32} : WP m_X5_ranked Q 41 ls (.int y :: .int x :: st) g = ((¬ x = y → WP m_X5_ranked Q 47 ls st g) ∧ (¬ (¬ x = y) → WP m_X5_ranked Q 44 ls st g)) := E_I2 (c := fun x y => ¬ x = y) (t := 47) lo_X5_ranked rfl
theorem e_X5_ranked_44 {Q : mQ} {l0 l1 l2 l3 l4 l5 : Value} {st : List Value} {g : mG} {x : Nat} : WP m_X5_ranked Q 44 [l0, l1, l2, l3, l4, l5, .ref x] st g = WP m_X5_ranked Q 46 [l0, l1, l2, l3, l4, l5, .ref x] (.ref x :: st) g := E_al (i := 6) (n := 2) lo_X5_ranked rfl rfl
theorem e_X5_ranked_44n {Q : mQ} {l0 l1 l2 l3 l4 l5 : Value} {st : List Value} {g : mG} : WP m_X5_ranked Q 44 [l0, l1, l2, l3, l4, l5, .null] st g = WP m_X5_ranked Q 46 [l0, l1, l2, l3, l4, l5, .null] (.null :: st) g := E_aln (i := 6) (n := 2) lo_X5_ranked rfl rfl
theorem e_X5_ranked_46 {Q : mQ} {ls : List Value} {g : mG} {v : Nat} : WP m_X5_ranked Q 46 ls [.ref v] g = Q (some (.ref v)) g := E_aret lo_X5_ranked rfl
theorem e_X5_ranked_46n {Q : mQ} {ls : List Value} {g : mG} : WP m_X5_ranked Q 46 ls [.null] g = Q (some .null) g := E_aretn lo_X5_ranked rfl
theorem e_X5_ranked_47 {Q : mQ} {l0 l1 l2 l3 l4 l6 : Value} {st : List Value} {g : mG} {x : Int32} : WP m_X5_ranked Q 47 [l0, l1, l2, l3, l4, .int x, l6] st g = (nl1 l4 ∧ WP m_X5_ranked Q 50 [l0, l1, l2, l3, l4, .int (x + nI 1), l6] st g) := E_inc (i := 5) (d := nI 1) lo_X5_ranked rfl rfl
theorem e_X5_ranked_50 {Q : mQ} {ls st : List Value} {g : mG} : WP m_X5_ranked Q 50 ls st g = WP m_X5_ranked Q 12 ls st g := E_goto lo_X5_ranked rfl
theorem e_X5_ranked_53 {Q : mQ} {ls st : List Value} {g : mG} : WP m_X5_ranked Q 53 ls st g = WP m_X5_ranked Q 54 ls (.null :: st) g := E_nul lo_X5_ranked rfl
theorem e_X5_ranked_54 {Q : mQ} {ls : List Value} {g : mG} {v : Nat} : WP m_X5_ranked Q 54 ls [.ref v] g = Q (some (.ref v)) g := E_aret lo_X5_ranked rfl
theorem e_X5_ranked_54n {Q : mQ} {ls : List Value} {g : mG} : WP m_X5_ranked Q 54 ls [.null] g = Q (some .null) g := E_aretn lo_X5_ranked rfl
/-! KilnPermits$Town.<init>()V -/
def m_X5_init : List (Nat × mT) := [(0, tD (f_al 0 1)),
  (1, tD (f_obj)),
  (4, tD (f_al 0 1)),
  (5, tD (f_ic (nI 500) 3)),
  (8, tD (f_pI 6 4)),
  (11, tD (f_al 0 1)),
  (12, tD (f_gs 5)),
  (15, tE (f_cln5)),
  (18, tD (f_cast3)),
  (21, tD (f_pR 6 11)),
  (24, tD (f_al 0 1)),
  (25, tD (f_ic (nI 6) 2)),
  (27, tE (f_newq 14)),
  (30, tD (f_pR 6 12)),
  (33, tD (f_al 0 1)),
  (34, tD (f_ic (nI 17) 2)),
  (36, tE (f_newq 15)),
  (39, tD (f_pR 6 13)),
  (42, tD (f_ic (nI 0) 1)),
  (43, tD (f_is 1 1)),
  (44, tD (f_il 1 1)),
  (45, tD (f_al 0 1)),
  (46, tD (f_gR 6 12)),
  (49, tD (f_alen)),
  (50, tI2 (fun x y => y ≤ x) 72),
  (53, tD (f_al 0 1)),
  (54, tD (f_gR 6 12)),
  (57, tD (f_il 1 1)),
  (58, tE (f_new 1)),
  (61, tD (f_dup)),
  (62, tC w_X0_init 1 1),
  (65, tD (f_aast 14 (ekd 14))),
  (66, tD (f_inc 1 (nI 1))),
  (69, tD (f_goto 44)),
  (72, tD (f_ic (nI 0) 1)),
  (73, tD (f_is 1 1)),
  (74, tD (f_il 1 1)),
  (75, tD (f_al 0 1)),
  (76, tD (f_gR 6 13)),
  (79, tD (f_alen)),
  (80, tI2 (fun x y => y ≤ x) 102),
  (83, tD (f_al 0 1)),
  (84, tD (f_gR 6 13)),
  (87, tD (f_il 1 1)),
  (88, tE (f_new 3)),
  (91, tD (f_dup)),
  (92, tC w_X2_init 3 1),
  (95, tD (f_aast 15 (ekd 15))),
  (96, tD (f_inc 1 (nI 1))),
  (99, tD (f_goto 74)),
  (102, tR f_ret)]
abbrev w_X5_init : mS := wm m_X5_init 1 1
set_option maxRecDepth 100000 in
theorem lo_X5_init : locs_ok m_X5_init := List.forall_mem_cons.mpr ⟨loc_D mo_al,
  List.forall_mem_cons.mpr ⟨loc_D mo_obj,
  List.forall_mem_cons.mpr ⟨loc_D mo_al,
  List.forall_mem_cons.mpr ⟨loc_D mo_ic,
  List.forall_mem_cons.mpr ⟨loc_D mo_pI,
  List.forall_mem_cons.mpr ⟨loc_D mo_al,
  List.forall_mem_cons.mpr ⟨loc_D mo_gs,
  List.forall_mem_cons.mpr ⟨loc_E (fun _ => mo_cln5),
  List.forall_mem_cons.mpr ⟨loc_D mo_cast3,
  List.forall_mem_cons.mpr ⟨loc_D mo_pR,
  List.forall_mem_cons.mpr ⟨loc_D mo_al,
  List.forall_mem_cons.mpr ⟨loc_D mo_ic,
  List.forall_mem_cons.mpr ⟨loc_E (fun _ => mo_newq),
  List.forall_mem_cons.mpr ⟨loc_D mo_pR,
  List.forall_mem_cons.mpr ⟨loc_D mo_al,
  List.forall_mem_cons.mpr ⟨loc_D mo_ic,
  List.forall_mem_cons.mpr ⟨loc_E (fun _ => mo_newq),
  List.forall_mem_cons.mpr ⟨loc_D mo_pR,
  List.forall_mem_cons.mpr ⟨loc_D mo_ic,
  List.forall_mem_cons.mpr ⟨loc_D mo_is,
  List.forall_mem_cons.mpr ⟨loc_D mo_il,
  List.forall_mem_cons.mpr ⟨loc_D mo_al,
  List.forall_mem_cons.mpr ⟨loc_D mo_gR,
  List.forall_mem_cons.mpr ⟨loc_D mo_alen,
  List.forall_mem_cons.mpr ⟨loc_I2,
  List.forall_mem_cons.mpr ⟨loc_D mo_al,
  List.forall_mem_cons.mpr ⟨loc_D mo_gR,
  List.forall_mem_cons.mpr ⟨loc_D mo_il,
  List.forall_mem_cons.mpr ⟨loc_E (fun _ => mo_new),
  List.forall_mem_cons.mpr ⟨loc_D mo_dup,
  List.forall_mem_cons.mpr ⟨loc_C sm_X0_init.1,
  List.forall_mem_cons.mpr ⟨loc_D mo_aast,
  List.forall_mem_cons.mpr ⟨loc_D mo_inc,
  List.forall_mem_cons.mpr ⟨loc_D mo_goto,
  List.forall_mem_cons.mpr ⟨loc_D mo_ic,
  List.forall_mem_cons.mpr ⟨loc_D mo_is,
  List.forall_mem_cons.mpr ⟨loc_D mo_il,
  List.forall_mem_cons.mpr ⟨loc_D mo_al,
  List.forall_mem_cons.mpr ⟨loc_D mo_gR,
  List.forall_mem_cons.mpr ⟨loc_D mo_alen,
  List.forall_mem_cons.mpr ⟨loc_I2,
  List.forall_mem_cons.mpr ⟨loc_D mo_al,
  List.forall_mem_cons.mpr ⟨loc_D mo_gR,
  List.forall_mem_cons.mpr ⟨loc_D mo_il,
  List.forall_mem_cons.mpr ⟨loc_E (fun _ => mo_new),
  List.forall_mem_cons.mpr ⟨loc_D mo_dup,
  List.forall_mem_cons.mpr ⟨loc_C sm_X2_init.1,
  List.forall_mem_cons.mpr ⟨loc_D mo_aast,
  List.forall_mem_cons.mpr ⟨loc_D mo_inc,
  List.forall_mem_cons.mpr ⟨loc_D mo_goto,
  List.forall_mem_cons.mpr ⟨loc_R,
  fun _ h => absurd h List.not_mem_nil⟩⟩⟩⟩⟩⟩⟩⟩⟩⟩⟩⟩⟩⟩⟩⟩⟩⟩⟩⟩⟩⟩⟩⟩⟩⟩⟩⟩⟩⟩⟩⟩⟩⟩⟩⟩⟩⟩⟩⟩⟩⟩⟩⟩⟩⟩⟩⟩⟩⟩⟩
set_option maxRecDepth 100000 in
theorem sm_X5_init : SM yX5_init cX5_init 2 none 3 w_X5_init := SM_of' RX5 "<init>" rfl rfl (by decide) (by decide) (by decide) lo_X5_init (List.forall_mem_cons.mpr ⟨STP.r mo_al (q_aload_n dX5_init_0 rfl),
  List.forall_mem_cons.mpr ⟨STP.r mo_obj (q_obj km_X5_3 kz_oi kz_oc dX5_init_1),
  List.forall_mem_cons.mpr ⟨STP.r mo_al (q_aload_n dX5_init_4 rfl),
  List.forall_mem_cons.mpr ⟨STP.r mo_ic (q_sipush dX5_init_5 (by decide)),
  List.forall_mem_cons.mpr ⟨STP.r mo_pI (q_pI ⟨by decide, by decide⟩ (by decide) rfl rfl kf_X5_9 dX5_init_8),
  List.forall_mem_cons.mpr ⟨STP.r mo_al (q_aload_n dX5_init_11 rfl),
  List.forall_mem_cons.mpr ⟨STP.r mo_gs (q_gsN (Or.inr (Or.inr ⟨rfl, rfl⟩)) kf_X5_15 dX5_init_12),
  List.forall_mem_cons.mpr ⟨STE.r (fun _ => mo_cln5) (q_cln5 km_X5_19 kz_same kz_nat kz_inst kz_sel kz_cast dX5_init_15),
  List.forall_mem_cons.mpr ⟨STP.r mo_cast3 (q_cast3 kc_X5_20 dX5_init_18),
  List.forall_mem_cons.mpr ⟨STP.r mo_pR (q_pR ⟨by decide, by decide⟩ (by decide) rfl (by decide) (Or.inr ⟨rfl, rfl⟩) (fun _ => rfl) kf_X5_24 dX5_init_21),
  List.forall_mem_cons.mpr ⟨STP.r mo_al (q_aload_n dX5_init_24 rfl),
  List.forall_mem_cons.mpr ⟨STP.r mo_ic (q_bipush dX5_init_25 (by decide)),
  List.forall_mem_cons.mpr ⟨STE.r (fun _ => mo_newq) (q_newq ⟨by decide, by decide⟩ kc_X5_27 ko_X0 dX5_init_27),
  List.forall_mem_cons.mpr ⟨STP.r mo_pR (q_pR ⟨by decide, by decide⟩ (by decide) rfl (by decide) (Or.inr ⟨rfl, rfl⟩) (fun _ => rfl) kf_X5_29 dX5_init_30),
  List.forall_mem_cons.mpr ⟨STP.r mo_al (q_aload_n dX5_init_33 rfl),
  List.forall_mem_cons.mpr ⟨STP.r mo_ic (q_bipush dX5_init_34 (by decide)),
  List.forall_mem_cons.mpr ⟨STE.r (fun _ => mo_newq) (q_newq ⟨by decide, by decide⟩ kc_X5_33 ko_X2 dX5_init_36),
  List.forall_mem_cons.mpr ⟨STP.r mo_pR (q_pR ⟨by decide, by decide⟩ (by decide) rfl (by decide) (Or.inr ⟨rfl, rfl⟩) (fun _ => rfl) kf_X5_35 dX5_init_39),
  List.forall_mem_cons.mpr ⟨STP.r mo_ic (q_iconst dX5_init_42 (by decide)),
  List.forall_mem_cons.mpr ⟨STP.r mo_is (q_istore_n dX5_init_43 rfl),
  List.forall_mem_cons.mpr ⟨STP.r mo_il (q_iload_n dX5_init_44 rfl),
  List.forall_mem_cons.mpr ⟨STP.r mo_al (q_aload_n dX5_init_45 rfl),
  List.forall_mem_cons.mpr ⟨STP.r mo_gR (q_gR ⟨by decide, by decide⟩ (by decide) rfl (by decide) kf_X5_29 dX5_init_46),
  List.forall_mem_cons.mpr ⟨STP.r mo_alen (q_alen dX5_init_49),
  List.forall_mem_cons.mpr ⟨(q_ic_ge dX5_init_50 (by decide)).r,
  List.forall_mem_cons.mpr ⟨STP.r mo_al (q_aload_n dX5_init_53 rfl),
  List.forall_mem_cons.mpr ⟨STP.r mo_gR (q_gR ⟨by decide, by decide⟩ (by decide) rfl (by decide) kf_X5_29 dX5_init_54),
  List.forall_mem_cons.mpr ⟨STP.r mo_il (q_iload_n dX5_init_57 rfl),
  List.forall_mem_cons.mpr ⟨STE.r (fun _ => mo_new) (q_new ⟨by decide, by decide⟩ kc_X5_27 kn_X0 ki_X0 dX5_init_58),
  List.forall_mem_cons.mpr ⟨STP.r mo_dup (q_dup dX5_init_61),
  List.forall_mem_cons.mpr ⟨(snd_CIN sm_X0_init (by decide) rfl km_X5_39 kt_X0_init ki_X0 kx_X0_init ⟨by decide, by decide, by decide +kernel⟩ (by decide) (by decide) dX5_init_62).r,
  List.forall_mem_cons.mpr ⟨STP.r mo_aast (q_aast ⟨by decide, by decide⟩ dX5_init_65),
  List.forall_mem_cons.mpr ⟨STP.r mo_inc (q_inc dX5_init_66 (by decide)),
  List.forall_mem_cons.mpr ⟨STP.r mo_goto (q_goto dX5_init_69 (by decide)),
  List.forall_mem_cons.mpr ⟨STP.r mo_ic (q_iconst dX5_init_72 (by decide)),
  List.forall_mem_cons.mpr ⟨STP.r mo_is (q_istore_n dX5_init_73 rfl),
  List.forall_mem_cons.mpr ⟨STP.r mo_il (q_iload_n dX5_init_74 rfl),
  List.forall_mem_cons.mpr ⟨STP.r mo_al (q_aload_n dX5_init_75 rfl),
  List.forall_mem_cons.mpr ⟨STP.r mo_gR (q_gR ⟨by decide, by decide⟩ (by decide) rfl (by decide) kf_X5_35 dX5_init_76),
  List.forall_mem_cons.mpr ⟨STP.r mo_alen (q_alen dX5_init_79),
  List.forall_mem_cons.mpr ⟨(q_ic_ge dX5_init_80 (by decide)).r,
  List.forall_mem_cons.mpr ⟨STP.r mo_al (q_aload_n dX5_init_83 rfl),
  List.forall_mem_cons.mpr ⟨STP.r mo_gR (q_gR ⟨by decide, by decide⟩ (by decide) rfl (by decide) kf_X5_35 dX5_init_84),
  List.forall_mem_cons.mpr ⟨STP.r mo_il (q_iload_n dX5_init_87 rfl),
  List.forall_mem_cons.mpr ⟨STE.r (fun _ => mo_new) (q_new ⟨by decide, by decide⟩ kc_X5_33 kn_X2 ki_X2 dX5_init_88),
  List.forall_mem_cons.mpr ⟨STP.r mo_dup (q_dup dX5_init_91),
  List.forall_mem_cons.mpr ⟨(snd_CIN sm_X2_init (by decide) rfl km_X5_40 kt_X2_init ki_X2 kx_X2_init ⟨by decide, by decide, by decide +kernel⟩ (by decide) (by decide) dX5_init_92).r,
  List.forall_mem_cons.mpr ⟨STP.r mo_aast (q_aast ⟨by decide, by decide⟩ dX5_init_95),
  List.forall_mem_cons.mpr ⟨STP.r mo_inc (q_inc dX5_init_96 (by decide)),
  List.forall_mem_cons.mpr ⟨STP.r mo_goto (q_goto dX5_init_99 (by decide)),
  List.forall_mem_cons.mpr ⟨r_ret dX5_init_102,
  fun _ h => absurd h List.not_mem_nil⟩⟩⟩⟩⟩⟩⟩⟩⟩⟩⟩⟩⟩⟩⟩⟩⟩⟩⟩⟩⟩⟩⟩⟩⟩⟩⟩⟩⟩⟩⟩⟩⟩⟩⟩⟩⟩⟩⟩⟩⟩⟩⟩⟩⟩⟩⟩⟩⟩⟩⟩)
theorem e_X5_init_0 {Q : mQ} {l1 : Value} {st : List Value} {g : mG} {x : Nat} : WP m_X5_init Q 0 [.ref x, l1] st g = WP m_X5_init Q 1 [.ref x, l1] (.ref x :: st) g := E_al (i := 0) (n := 1) lo_X5_init rfl rfl
theorem e_X5_init_1 {Q : mQ} {ls st : List Value} {g : mG} {x : Nat} : WP m_X5_init Q 1 ls (.ref x :: st) g = (st.length ≤ 4 ∧ WP m_X5_init Q 4 ls st g) := E_obj lo_X5_init rfl
theorem e_X5_init_4 {Q : mQ} {l1 : Value} {st : List Value} {g : mG} {x : Nat} : WP m_X5_init Q 4 [.ref x, l1] st g = WP m_X5_init Q 5 [.ref x, l1] (.ref x :: st) g := E_al (i := 0) (n := 1) lo_X5_init rfl rfl
theorem e_X5_init_5 {Q : mQ} {ls st : List Value} {g : mG} : WP m_X5_init Q 5 ls st g = WP m_X5_init Q 8 ls (.int (nI 500) :: st) g := E_ic (v := nI 500) (n := 3) lo_X5_init rfl
theorem e_X5_init_8 {Q : mQ} {ls st : List Value} {g : mG} {a : Nat} {v : Int32} : WP m_X5_init Q 8 ls (.int v :: .ref a :: st) g = (gK g a = 6 ∧ WP m_X5_init Q 11 ls st (pI g a 4 v)) := E_pI lo_X5_init rfl
theorem e_X5_init_11 {Q : mQ} {l1 : Value} {st : List Value} {g : mG} {x : Nat} : WP m_X5_init Q 11 [.ref x, l1] st g = WP m_X5_init Q 12 [.ref x, l1] (.ref x :: st) g := E_al (i := 0) (n := 1) lo_X5_init rfl rfl
theorem e_X5_init_12 {Q : mQ} {ls st : List Value} {g : mG} : WP m_X5_init Q 12 ls st g = (gK g 5 = 10 ∧ WP m_X5_init Q 15 ls (.ref 5 :: st) g) := E_gs lo_X5_init rfl
theorem e_X5_init_15 {Q : mQ} {ls st : List Value} {g : mG} {b : Nat} : WP m_X5_init Q 15 ls (.ref b :: st) g = ∃ a : Nat, (frsh g a ∧ gK g b = 10 ∧ b = 5 ∧ st.length ≤ 4 ∧ alv g ls ∧ alv g st) ∧ WP m_X5_init Q 18 ls (.ref a :: st) (nw g a 11 (gN g b) (gN g b) (gI g b)) := E_cln5 lo_X5_init rfl
theorem e_X5_init_18 {Q : mQ} {ls st : List Value} {g : mG} {b : Nat} : WP m_X5_init Q 18 ls (.ref b :: st) g = ((gK g b = 11 ∨ gK g b = 12) ∧ WP m_X5_init Q 21 ls (.ref b :: st) g) := E_cast3 lo_X5_init rfl
theorem e_X5_init_21 {Q : mQ} {ls st : List Value} {g : mG} {a v : Nat} : WP m_X5_init Q 21 ls (.ref v :: .ref a :: st) g = ((gK g a = 6 ∧ ok1 g v ∧ v ≠ 0) ∧ WP m_X5_init Q 24 ls st (pR g a 11 v)) := E_pR lo_X5_init rfl
theorem e_X5_init_24 {Q : mQ} {l1 : Value} {st : List Value} {g : mG} {x : Nat} : WP m_X5_init Q 24 [.ref x, l1] st g = WP m_X5_init Q 25 [.ref x, l1] (.ref x :: st) g := E_al (i := 0) (n := 1) lo_X5_init rfl rfl
theorem e_X5_init_25 {Q : mQ} {ls st : List Value} {g : mG} : WP m_X5_init Q 25 ls st g = WP m_X5_init Q 27 ls (.int (nI 6) :: st) g := E_ic (v := nI 6) (n := 2) lo_X5_init rfl
theorem e_X5_init_27 {Q : mQ} {ls st : List Value} {g : mG} {n : Int32} : WP m_X5_init Q 27 ls (.int n :: st) g = ∃ a : Nat, (frsh g a ∧ ¬ n < 0 ∧ n.toNatClampNeg ≤ 100000 ∧ alv g ls ∧ alv g st) ∧ WP m_X5_init Q 30 ls (.ref a :: st) (nw g a 14 n.toNatClampNeg n.toNatClampNeg (fun _ => 0)) := E_newq lo_X5_init rfl
theorem e_X5_init_30 {Q : mQ} {ls st : List Value} {g : mG} {a v : Nat} : WP m_X5_init Q 30 ls (.ref v :: .ref a :: st) g = ((gK g a = 6 ∧ ok1 g v ∧ v ≠ 0) ∧ WP m_X5_init Q 33 ls st (pR g a 12 v)) := E_pR lo_X5_init rfl
theorem e_X5_init_33 {Q : mQ} {l1 : Value} {st : List Value} {g : mG} {x : Nat} : WP m_X5_init Q 33 [.ref x, l1] st g = WP m_X5_init Q 34 [.ref x, l1] (.ref x :: st) g := E_al (i := 0) (n := 1) lo_X5_init rfl rfl
theorem e_X5_init_34 {Q : mQ} {ls st : List Value} {g : mG} : WP m_X5_init Q 34 ls st g = WP m_X5_init Q 36 ls (.int (nI 17) :: st) g := E_ic (v := nI 17) (n := 2) lo_X5_init rfl
theorem e_X5_init_36 {Q : mQ} {ls st : List Value} {g : mG} {n : Int32} : WP m_X5_init Q 36 ls (.int n :: st) g = ∃ a : Nat, (frsh g a ∧ ¬ n < 0 ∧ n.toNatClampNeg ≤ 100000 ∧ alv g ls ∧ alv g st) ∧ WP m_X5_init Q 39 ls (.ref a :: st) (nw g a 15 n.toNatClampNeg n.toNatClampNeg (fun _ => 0)) := E_newq lo_X5_init rfl
theorem e_X5_init_39 {Q : mQ} {ls st : List Value} {g : mG} {a v : Nat} : WP m_X5_init Q 39 ls (.ref v :: .ref a :: st) g = ((gK g a = 6 ∧ ok1 g v ∧ v ≠ 0) ∧ WP m_X5_init Q 42 ls st (pR g a 13 v)) := E_pR lo_X5_init rfl
theorem e_X5_init_42 {Q : mQ} {ls st : List Value} {g : mG} : WP m_X5_init Q 42 ls st g = WP m_X5_init Q 43 ls (.int (nI 0) :: st) g := E_ic (v := nI 0) (n := 1) lo_X5_init rfl
theorem e_X5_init_43 {Q : mQ} {l0 l1 : Value} {st : List Value} {g : mG} {x : Int32} : WP m_X5_init Q 43 [l0, l1] (.int x :: st) g = (nl1 l0 ∧ WP m_X5_init Q 44 [l0, .int x] st g) := E_is (i := 1) (n := 1) lo_X5_init rfl (Nat.le_of_ble_eq_true rfl)
theorem e_X5_init_44 {Q : mQ} {l0 : Value} {st : List Value} {g : mG} {x : Int32} : WP m_X5_init Q 44 [l0, .int x] st g = WP m_X5_init Q 45 [l0, .int x] (.int x :: st) g := E_il (i := 1) (n := 1) lo_X5_init rfl rfl
theorem e_X5_init_45 {Q : mQ} {l1 : Value} {st : List Value} {g : mG} {x : Nat} : WP m_X5_init Q 45 [.ref x, l1] st g = WP m_X5_init Q 46 [.ref x, l1] (.ref x :: st) g := E_al (i := 0) (n := 1) lo_X5_init rfl rfl
theorem e_X5_init_46 {Q : mQ} {ls st : List Value} {g : mG} {a : Nat} : WP m_X5_init Q 46 ls (.ref a :: st) g = ((gK g a = 6 ∧ gR g a 12 ≠ 0) ∧ WP m_X5_init Q 49 ls (.ref (gR g a 12) :: st) g) := E_gR lo_X5_init rfl
theorem e_X5_init_49 {Q : mQ} {ls st : List Value} {g : mG} {a : Nat} : WP m_X5_init Q 49 ls (.ref a :: st) g = ((10 ≤ gK g a ∧ gK g a ≤ 17) ∧ WP m_X5_init Q 50 ls (.int (nI (gN g a)) :: st) g) := E_alen lo_X5_init rfl
theorem e_X5_init_50 {Q : mQ} {ls st : List Value} {g : mG} {x y : Int32} : WP m_X5_init Q 50 ls (.int y :: .int x :: st) g = ((y ≤ x → WP m_X5_init Q 72 ls st g) ∧ (¬ (y ≤ x) → WP m_X5_init Q 53 ls st g)) := E_I2 (c := fun x y => y ≤ x) (t := 72) lo_X5_init rfl
theorem e_X5_init_53 {Q : mQ} {l1 : Value} {st : List Value} {g : mG} {x : Nat} : WP m_X5_init Q 53 [.ref x, l1] st g = WP m_X5_init Q 54 [.ref x, l1] (.ref x :: st) g := E_al (i := 0) (n := 1) lo_X5_init rfl rfl
theorem e_X5_init_54 {Q : mQ} {ls st : List Value} {g : mG} {a : Nat} : WP m_X5_init Q 54 ls (.ref a :: st) g = ((gK g a = 6 ∧ gR g a 12 ≠ 0) ∧ WP m_X5_init Q 57 ls (.ref (gR g a 12) :: st) g) := E_gR lo_X5_init rfl
theorem e_X5_init_57 {Q : mQ} {l0 : Value} {st : List Value} {g : mG} {x : Int32} : WP m_X5_init Q 57 [l0, .int x] st g = WP m_X5_init Q 58 [l0, .int x] (.int x :: st) g := E_il (i := 1) (n := 1) lo_X5_init rfl rfl
theorem e_X5_init_58 {Q : mQ} {ls st : List Value} {g : mG} : WP m_X5_init Q 58 ls st g = ∃ a : Nat, (frsh g a ∧ (1 = 5 → gK g (a + 1) = 0) ∧ alv g ls ∧ alv g st) ∧ WP m_X5_init Q 61 ls (.ref a :: st) (nw g a 1 0 (xn 1) (fun _ => 0)) := E_new lo_X5_init rfl
theorem e_X5_init_61 {Q : mQ} {ls st : List Value} {g : mG} {x : Value} : WP m_X5_init Q 61 ls (x :: st) g = (cat1 x ∧ WP m_X5_init Q 62 ls (x :: x :: st) g) := E_dup lo_X5_init rfl
theorem e_X5_init_62 {Q : mQ} {ls st : List Value} {g : mG} {b : Nat} : WP m_X5_init Q 62 ls (.ref b :: st) g = (st.length ≤ 4 ∧ gK g b = 1 ∧ stbs g ls ∧ stbs g st ∧ w_X0_init [.ref b] g (fun v g' => WP m_X5_init Q 65 ls (v.toList ++ st) g')) := E_CV (ar := [.ref b]) lo_X5_init rfl rfl rfl (by decide)
theorem e_X5_init_65 {Q : mQ} {ls st : List Value} {g : mG} {a v : Nat} {i : Int32} : WP m_X5_init Q 65 ls (.ref v :: .int i :: .ref a :: st) g = ((gK g a = 14 ∧ vp_in i (gN g a) ∧ gK g v = 1 ∧ v ≠ 0) ∧ WP m_X5_init Q 66 ls st (pR g a i.toNatClampNeg v)) := E_aast lo_X5_init rfl
theorem e_X5_init_66 {Q : mQ} {l0 : Value} {st : List Value} {g : mG} {x : Int32} : WP m_X5_init Q 66 [l0, .int x] st g = (nl1 l0 ∧ WP m_X5_init Q 69 [l0, .int (x + nI 1)] st g) := E_inc (i := 1) (d := nI 1) lo_X5_init rfl rfl
theorem e_X5_init_69 {Q : mQ} {ls st : List Value} {g : mG} : WP m_X5_init Q 69 ls st g = WP m_X5_init Q 44 ls st g := E_goto lo_X5_init rfl
theorem e_X5_init_72 {Q : mQ} {ls st : List Value} {g : mG} : WP m_X5_init Q 72 ls st g = WP m_X5_init Q 73 ls (.int (nI 0) :: st) g := E_ic (v := nI 0) (n := 1) lo_X5_init rfl
theorem e_X5_init_73 {Q : mQ} {l0 l1 : Value} {st : List Value} {g : mG} {x : Int32} : WP m_X5_init Q 73 [l0, l1] (.int x :: st) g = (nl1 l0 ∧ WP m_X5_init Q 74 [l0, .int x] st g) := E_is (i := 1) (n := 1) lo_X5_init rfl (Nat.le_of_ble_eq_true rfl)
theorem e_X5_init_74 {Q : mQ} {l0 : Value} {st : List Value} {g : mG} {x : Int32} : WP m_X5_init Q 74 [l0, .int x] st g = WP m_X5_init Q 75 [l0, .int x] (.int x :: st) g := E_il (i := 1) (n := 1) lo_X5_init rfl rfl
theorem e_X5_init_75 {Q : mQ} {l1 : Value} {st : List Value} {g : mG} {x : Nat} : WP m_X5_init Q 75 [.ref x, l1] st g = WP m_X5_init Q 76 [.ref x, l1] (.ref x :: st) g := E_al (i := 0) (n := 1) lo_X5_init rfl rfl
theorem e_X5_init_76 {Q : mQ} {ls st : List Value} {g : mG} {a : Nat} : WP m_X5_init Q 76 ls (.ref a :: st) g = ((gK g a = 6 ∧ gR g a 13 ≠ 0) ∧ WP m_X5_init Q 79 ls (.ref (gR g a 13) :: st) g) := E_gR lo_X5_init rfl
theorem e_X5_init_79 {Q : mQ} {ls st : List Value} {g : mG} {a : Nat} : WP m_X5_init Q 79 ls (.ref a :: st) g = ((10 ≤ gK g a ∧ gK g a ≤ 17) ∧ WP m_X5_init Q 80 ls (.int (nI (gN g a)) :: st) g) := E_alen lo_X5_init rfl
theorem e_X5_init_80 {Q : mQ} {ls st : List Value} {g : mG} {x y : Int32} : WP m_X5_init Q 80 ls (.int y :: .int x :: st) g = ((y ≤ x → WP m_X5_init Q 102 ls st g) ∧ (¬ (y ≤ x) → WP m_X5_init Q 83 ls st g)) := E_I2 (c := fun x y => y ≤ x) (t := 102) lo_X5_init rfl
theorem e_X5_init_83 {Q : mQ} {l1 : Value} {st : List Value} {g : mG} {x : Nat} : WP m_X5_init Q 83 [.ref x, l1] st g = WP m_X5_init Q 84 [.ref x, l1] (.ref x :: st) g := E_al (i := 0) (n := 1) lo_X5_init rfl rfl
theorem e_X5_init_84 {Q : mQ} {ls st : List Value} {g : mG} {a : Nat} : WP m_X5_init Q 84 ls (.ref a :: st) g = ((gK g a = 6 ∧ gR g a 13 ≠ 0) ∧ WP m_X5_init Q 87 ls (.ref (gR g a 13) :: st) g) := E_gR lo_X5_init rfl
theorem e_X5_init_87 {Q : mQ} {l0 : Value} {st : List Value} {g : mG} {x : Int32} : WP m_X5_init Q 87 [l0, .int x] st g = WP m_X5_init Q 88 [l0, .int x] (.int x :: st) g := E_il (i := 1) (n := 1) lo_X5_init rfl rfl
theorem e_X5_init_88 {Q : mQ} {ls st : List Value} {g : mG} : WP m_X5_init Q 88 ls st g = ∃ a : Nat, (frsh g a ∧ (3 = 5 → gK g (a + 1) = 0) ∧ alv g ls ∧ alv g st) ∧ WP m_X5_init Q 91 ls (.ref a :: st) (nw g a 3 0 (xn 3) (fun _ => 0)) := E_new lo_X5_init rfl
theorem e_X5_init_91 {Q : mQ} {ls st : List Value} {g : mG} {x : Value} : WP m_X5_init Q 91 ls (x :: st) g = (cat1 x ∧ WP m_X5_init Q 92 ls (x :: x :: st) g) := E_dup lo_X5_init rfl
theorem e_X5_init_92 {Q : mQ} {ls st : List Value} {g : mG} {b : Nat} : WP m_X5_init Q 92 ls (.ref b :: st) g = (st.length ≤ 4 ∧ gK g b = 3 ∧ stbs g ls ∧ stbs g st ∧ w_X2_init [.ref b] g (fun v g' => WP m_X5_init Q 95 ls (v.toList ++ st) g')) := E_CV (ar := [.ref b]) lo_X5_init rfl rfl rfl (by decide)
theorem e_X5_init_95 {Q : mQ} {ls st : List Value} {g : mG} {a v : Nat} {i : Int32} : WP m_X5_init Q 95 ls (.ref v :: .int i :: .ref a :: st) g = ((gK g a = 15 ∧ vp_in i (gN g a) ∧ gK g v = 3 ∧ v ≠ 0) ∧ WP m_X5_init Q 96 ls st (pR g a i.toNatClampNeg v)) := E_aast lo_X5_init rfl
theorem e_X5_init_96 {Q : mQ} {l0 : Value} {st : List Value} {g : mG} {x : Int32} : WP m_X5_init Q 96 [l0, .int x] st g = (nl1 l0 ∧ WP m_X5_init Q 99 [l0, .int (x + nI 1)] st g) := E_inc (i := 1) (d := nI 1) lo_X5_init rfl rfl
theorem e_X5_init_99 {Q : mQ} {ls st : List Value} {g : mG} : WP m_X5_init Q 99 ls st g = WP m_X5_init Q 74 ls st g := E_goto lo_X5_init rfl
theorem e_X5_init_102 {Q : mQ} {ls : List Value} {g : mG} : WP m_X5_init Q 102 ls [] g = Q none g := E_ret lo_X5_init rfl
