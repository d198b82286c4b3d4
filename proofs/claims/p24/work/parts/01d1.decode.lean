theorem dX0_init_0 : decode cX0_init 0 = .ok (.aload_n 0, 1) := by decide +kernel
theorem dX0_init_1 : decode cX0_init 1 = .ok (.invokespecial 3, 3) := by decide +kernel
theorem dX0_init_4 : decode cX0_init 4 = .ok (.aload_n 0, 1) := by decide +kernel
theorem dX0_init_5 : decode cX0_init 5 = .ok (.sipush 1000, 3) := by decide +kernel
theorem dX0_init_8 : decode cX0_init 8 = .ok (.putfield 9, 3) := by decide +kernel
theorem dX0_init_11 : decode cX0_init 11 = .ok (.aload_n 0, 1) := by decide +kernel
theorem dX0_init_12 : decode cX0_init 12 = .ok (.new 15, 3) := by decide +kernel
theorem dX0_init_15 : decode cX0_init 15 = .ok (.dup, 1) := by decide +kernel
theorem dX0_init_16 : decode cX0_init 16 = .ok (.invokespecial 17, 3) := by decide +kernel
theorem dX0_init_19 : decode cX0_init 19 = .ok (.putfield 18, 3) := by decide +kernel
theorem dX0_init_22 : decode cX0_init 22 = .ok (.return_, 1) := by decide +kernel
theorem dX0_copyFrom_0 : decode cX0_copyFrom 0 = .ok (.aload_n 0, 1) := by decide +kernel
theorem dX0_copyFrom_1 : decode cX0_copyFrom 1 = .ok (.aload_n 1, 1) := by decide +kernel
theorem dX0_copyFrom_2 : decode cX0_copyFrom 2 = .ok (.getfield 9, 3) := by decide +kernel
theorem dX0_copyFrom_5 : decode cX0_copyFrom 5 = .ok (.putfield 9, 3) := by decide +kernel
theorem dX0_copyFrom_8 : decode cX0_copyFrom 8 = .ok (.aload_n 0, 1) := by decide +kernel
theorem dX0_copyFrom_9 : decode cX0_copyFrom 9 = .ok (.aload_n 1, 1) := by decide +kernel
theorem dX0_copyFrom_10 : decode cX0_copyFrom 10 = .ok (.getfield 22, 3) := by decide +kernel
theorem dX0_copyFrom_13 : decode cX0_copyFrom 13 = .ok (.putfield 22, 3) := by decide +kernel
theorem dX0_copyFrom_16 : decode cX0_copyFrom 16 = .ok (.aload_n 0, 1) := by decide +kernel
theorem dX0_copyFrom_17 : decode cX0_copyFrom 17 = .ok (.aload_n 1, 1) := by decide +kernel
theorem dX0_copyFrom_18 : decode cX0_copyFrom 18 = .ok (.getfield 25, 3) := by decide +kernel
theorem dX0_copyFrom_21 : decode cX0_copyFrom 21 = .ok (.putfield 25, 3) := by decide +kernel
theorem dX0_copyFrom_24 : decode cX0_copyFrom 24 = .ok (.aload_n 0, 1) := by decide +kernel
theorem dX0_copyFrom_25 : decode cX0_copyFrom 25 = .ok (.aload_n 1, 1) := by decide +kernel
theorem dX0_copyFrom_26 : decode cX0_copyFrom 26 = .ok (.getfield 28, 3) := by decide +kernel
theorem dX0_copyFrom_29 : decode cX0_copyFrom 29 = .ok (.putfield 28, 3) := by decide +kernel
theorem dX0_copyFrom_32 : decode cX0_copyFrom 32 = .ok (.aload_n 0, 1) := by decide +kernel
theorem dX0_copyFrom_33 : decode cX0_copyFrom 33 = .ok (.aload_n 1, 1) := by decide +kernel
theorem dX0_copyFrom_34 : decode cX0_copyFrom 34 = .ok (.getfield 31, 3) := by decide +kernel
theorem dX0_copyFrom_37 : decode cX0_copyFrom 37 = .ok (.putfield 31, 3) := by decide +kernel
theorem dX0_copyFrom_40 : decode cX0_copyFrom 40 = .ok (.aload_n 0, 1) := by decide +kernel
theorem dX0_copyFrom_41 : decode cX0_copyFrom 41 = .ok (.aload_n 1, 1) := by decide +kernel
theorem dX0_copyFrom_42 : decode cX0_copyFrom 42 = .ok (.getfield 34, 3) := by decide +kernel
theorem dX0_copyFrom_45 : decode cX0_copyFrom 45 = .ok (.putfield 34, 3) := by decide +kernel
theorem dX0_copyFrom_48 : decode cX0_copyFrom 48 = .ok (.aload_n 0, 1) := by decide +kernel
theorem dX0_copyFrom_49 : decode cX0_copyFrom 49 = .ok (.aload_n 1, 1) := by decide +kernel
theorem dX0_copyFrom_50 : decode cX0_copyFrom 50 = .ok (.getfield 37, 3) := by decide +kernel
theorem dX0_copyFrom_53 : decode cX0_copyFrom 53 = .ok (.putfield 37, 3) := by decide +kernel
theorem dX0_copyFrom_56 : decode cX0_copyFrom 56 = .ok (.aload_n 0, 1) := by decide +kernel
theorem dX0_copyFrom_57 : decode cX0_copyFrom 57 = .ok (.getfield 18, 3) := by decide +kernel
theorem dX0_copyFrom_60 : decode cX0_copyFrom 60 = .ok (.aload_n 1, 1) := by decide +kernel
theorem dX0_copyFrom_61 : decode cX0_copyFrom 61 = .ok (.getfield 18, 3) := by decide +kernel
theorem dX0_copyFrom_64 : decode cX0_copyFrom 64 = .ok (.invokevirtual 40, 3) := by decide +kernel
theorem dX0_copyFrom_67 : decode cX0_copyFrom 67 = .ok (.return_, 1) := by decide +kernel
theorem dX0_due_0 : decode cX0_due 0 = .ok (.aload_n 0, 1) := by decide +kernel
theorem dX0_due_1 : decode cX0_due 1 = .ok (.getfield 25, 3) := by decide +kernel
theorem dX0_due_4 : decode cX0_due 4 = .ok (.aload_n 0, 1) := by decide +kernel
theorem dX0_due_5 : decode cX0_due 5 = .ok (.getfield 31, 3) := by decide +kernel
theorem dX0_due_8 : decode cX0_due 8 = .ok (.iadd, 1) := by decide +kernel
theorem dX0_due_9 : decode cX0_due 9 = .ok (.aload_n 0, 1) := by decide +kernel
theorem dX0_due_10 : decode cX0_due 10 = .ok (.getfield 34, 3) := by decide +kernel
theorem dX0_due_13 : decode cX0_due 13 = .ok (.iadd, 1) := by decide +kernel
theorem dX0_due_14 : decode cX0_due 14 = .ok (.ireturn, 1) := by decide +kernel
theorem dX0_lack_0 : decode cX0_lack 0 = .ok (.iconst 0, 1) := by decide +kernel
theorem dX0_lack_1 : decode cX0_lack 1 = .ok (.aload_n 0, 1) := by decide +kernel
theorem dX0_lack_2 : decode cX0_lack 2 = .ok (.invokevirtual 44, 3) := by decide +kernel
theorem dX0_lack_5 : decode cX0_lack 5 = .ok (.aload_n 0, 1) := by decide +kernel
theorem dX0_lack_6 : decode cX0_lack 6 = .ok (.getfield 28, 3) := by decide +kernel
theorem dX0_lack_9 : decode cX0_lack 9 = .ok (.isub, 1) := by decide +kernel
theorem dX0_lack_10 : decode cX0_lack 10 = .ok (.aload_n 0, 1) := by decide +kernel
theorem dX0_lack_11 : decode cX0_lack 11 = .ok (.getfield 18, 3) := by decide +kernel
theorem dX0_lack_14 : decode cX0_lack 14 = .ok (.getfield 48, 3) := by decide +kernel
theorem dX0_lack_17 : decode cX0_lack 17 = .ok (.isub, 1) := by decide +kernel
theorem dX0_lack_18 : decode cX0_lack 18 = .ok (.invokestatic 51, 3) := by decide +kernel
theorem dX0_lack_21 : decode cX0_lack 21 = .ok (.ireturn, 1) := by decide +kernel
theorem dX0_startYear_0 : decode cX0_startYear 0 = .ok (.aload_n 0, 1) := by decide +kernel
theorem dX0_startYear_1 : decode cX0_startYear 1 = .ok (.iload_n 1, 1) := by decide +kernel
theorem dX0_startYear_2 : decode cX0_startYear 2 = .ok (.putfield 34, 3) := by decide +kernel
theorem dX0_startYear_5 : decode cX0_startYear 5 = .ok (.aload_n 0, 1) := by decide +kernel
theorem dX0_startYear_6 : decode cX0_startYear 6 = .ok (.iconst 0, 1) := by decide +kernel
theorem dX0_startYear_7 : decode cX0_startYear 7 = .ok (.putfield 22, 3) := by decide +kernel
theorem dX0_startYear_10 : decode cX0_startYear 10 = .ok (.aload_n 0, 1) := by decide +kernel
theorem dX0_startYear_11 : decode cX0_startYear 11 = .ok (.iconst 0, 1) := by decide +kernel
theorem dX0_startYear_12 : decode cX0_startYear 12 = .ok (.putfield 25, 3) := by decide +kernel
theorem dX0_startYear_15 : decode cX0_startYear 15 = .ok (.aload_n 0, 1) := by decide +kernel
theorem dX0_startYear_16 : decode cX0_startYear 16 = .ok (.iconst 0, 1) := by decide +kernel
theorem dX0_startYear_17 : decode cX0_startYear 17 = .ok (.putfield 28, 3) := by decide +kernel
theorem dX0_startYear_20 : decode cX0_startYear 20 = .ok (.aload_n 0, 1) := by decide +kernel
theorem dX0_startYear_21 : decode cX0_startYear 21 = .ok (.iconst 0, 1) := by decide +kernel
theorem dX0_startYear_22 : decode cX0_startYear 22 = .ok (.putfield 31, 3) := by decide +kernel
theorem dX0_startYear_25 : decode cX0_startYear 25 = .ok (.return_, 1) := by decide +kernel
theorem dX1_init_0 : decode cX1_init 0 = .ok (.aload_n 0, 1) := by decide +kernel
theorem dX1_init_1 : decode cX1_init 1 = .ok (.invokespecial 1, 3) := by decide +kernel
theorem dX1_init_4 : decode cX1_init 4 = .ok (.return_, 1) := by decide +kernel
theorem dX2_init_0 : decode cX2_init 0 = .ok (.aload_n 0, 1) := by decide +kernel
theorem dX2_init_1 : decode cX2_init 1 = .ok (.invokespecial 1, 3) := by decide +kernel
theorem dX2_init_4 : decode cX2_init 4 = .ok (.aload_n 0, 1) := by decide +kernel
theorem dX2_init_5 : decode cX2_init 5 = .ok (.new 7, 3) := by decide +kernel
theorem dX2_init_8 : decode cX2_init 8 = .ok (.dup, 1) := by decide +kernel
theorem dX2_init_9 : decode cX2_init 9 = .ok (.invokespecial 9, 3) := by decide +kernel
theorem dX2_init_12 : decode cX2_init 12 = .ok (.putfield 10, 3) := by decide +kernel
theorem dX2_init_15 : decode cX2_init 15 = .ok (.return_, 1) := by decide +kernel
theorem dX2_start_0 : decode cX2_start 0 = .ok (.aload_n 0, 1) := by decide +kernel
theorem dX2_start_1 : decode cX2_start 1 = .ok (.iload_n 1, 1) := by decide +kernel
theorem dX2_start_2 : decode cX2_start 2 = .ok (.putfield 16, 3) := by decide +kernel
theorem dX2_start_5 : decode cX2_start 5 = .ok (.aload_n 0, 1) := by decide +kernel
theorem dX2_start_6 : decode cX2_start 6 = .ok (.iload_n 2, 1) := by decide +kernel
theorem dX2_start_7 : decode cX2_start 7 = .ok (.putfield 20, 3) := by decide +kernel
theorem dX2_start_10 : decode cX2_start 10 = .ok (.aload_n 0, 1) := by decide +kernel
theorem dX2_start_11 : decode cX2_start 11 = .ok (.iload_n 3, 1) := by decide +kernel
theorem dX2_start_12 : decode cX2_start 12 = .ok (.putfield 24, 3) := by decide +kernel
theorem dX2_start_15 : decode cX2_start 15 = .ok (.aload_n 0, 1) := by decide +kernel
theorem dX2_start_16 : decode cX2_start 16 = .ok (.iload 4, 2) := by decide +kernel
theorem dX2_start_18 : decode cX2_start 18 = .ok (.putfield 27, 3) := by decide +kernel
theorem dX2_start_21 : decode cX2_start 21 = .ok (.aload_n 0, 1) := by decide +kernel
theorem dX2_start_22 : decode cX2_start 22 = .ok (.iload 5, 2) := by decide +kernel
theorem dX2_start_24 : decode cX2_start 24 = .ok (.putfield 30, 3) := by decide +kernel
theorem dX2_start_27 : decode cX2_start 27 = .ok (.return_, 1) := by decide +kernel
theorem dX2_copyFrom_0 : decode cX2_copyFrom 0 = .ok (.aload_n 0, 1) := by decide +kernel
theorem dX2_copyFrom_1 : decode cX2_copyFrom 1 = .ok (.aload_n 1, 1) := by decide +kernel
theorem dX2_copyFrom_2 : decode cX2_copyFrom 2 = .ok (.getfield 16, 3) := by decide +kernel
theorem dX2_copyFrom_5 : decode cX2_copyFrom 5 = .ok (.aload_n 1, 1) := by decide +kernel
theorem dX2_copyFrom_6 : decode cX2_copyFrom 6 = .ok (.getfield 20, 3) := by decide +kernel
theorem dX2_copyFrom_9 : decode cX2_copyFrom 9 = .ok (.aload_n 1, 1) := by decide +kernel
theorem dX2_copyFrom_10 : decode cX2_copyFrom 10 = .ok (.getfield 24, 3) := by decide +kernel
theorem dX2_copyFrom_13 : decode cX2_copyFrom 13 = .ok (.aload_n 1, 1) := by decide +kernel
theorem dX2_copyFrom_14 : decode cX2_copyFrom 14 = .ok (.getfield 27, 3) := by decide +kernel
theorem dX2_copyFrom_17 : decode cX2_copyFrom 17 = .ok (.aload_n 1, 1) := by decide +kernel
theorem dX2_copyFrom_18 : decode cX2_copyFrom 18 = .ok (.getfield 30, 3) := by decide +kernel
theorem dX2_copyFrom_21 : decode cX2_copyFrom 21 = .ok (.invokevirtual 33, 3) := by decide +kernel
theorem dX2_copyFrom_24 : decode cX2_copyFrom 24 = .ok (.aload_n 0, 1) := by decide +kernel
theorem dX2_copyFrom_25 : decode cX2_copyFrom 25 = .ok (.getfield 10, 3) := by decide +kernel
theorem dX2_copyFrom_28 : decode cX2_copyFrom 28 = .ok (.aload_n 1, 1) := by decide +kernel
theorem dX2_copyFrom_29 : decode cX2_copyFrom 29 = .ok (.getfield 10, 3) := by decide +kernel
theorem dX2_copyFrom_32 : decode cX2_copyFrom 32 = .ok (.invokevirtual 37, 3) := by decide +kernel
theorem dX2_copyFrom_35 : decode cX2_copyFrom 35 = .ok (.return_, 1) := by decide +kernel
theorem dX2_standsAs_0 : decode cX2_standsAs 0 = .ok (.aload_n 0, 1) := by decide +kernel
theorem dX2_standsAs_1 : decode cX2_standsAs 1 = .ok (.getfield 27, 3) := by decide +kernel
theorem dX2_standsAs_4 : decode cX2_standsAs 4 = .ok (.ifCond .le 15, 3) := by decide +kernel
theorem dX2_standsAs_7 : decode cX2_standsAs 7 = .ok (.aload_n 0, 1) := by decide +kernel
theorem dX2_standsAs_8 : decode cX2_standsAs 8 = .ok (.getfield 20, 3) := by decide +kernel
theorem dX2_standsAs_11 : decode cX2_standsAs 11 = .ok (.iload_n 1, 1) := by decide +kernel
theorem dX2_standsAs_12 : decode cX2_standsAs 12 = .ok (.if_icmp .ne 7, 3) := by decide +kernel
theorem dX2_standsAs_15 : decode cX2_standsAs 15 = .ok (.iconst 1, 1) := by decide +kernel
theorem dX2_standsAs_16 : decode cX2_standsAs 16 = .ok (.goto 4, 3) := by decide +kernel
theorem dX2_standsAs_19 : decode cX2_standsAs 19 = .ok (.iconst 0, 1) := by decide +kernel
theorem dX2_standsAs_20 : decode cX2_standsAs 20 = .ok (.ireturn, 1) := by decide +kernel
theorem dX2_isMetAt_0 : decode cX2_isMetAt 0 = .ok (.aload_n 0, 1) := by decide +kernel
theorem dX2_isMetAt_1 : decode cX2_isMetAt 1 = .ok (.getfield 20, 3) := by decide +kernel
theorem dX2_isMetAt_4 : decode cX2_isMetAt 4 = .ok (.ifCond .eq 19, 3) := by decide +kernel
theorem dX2_isMetAt_7 : decode cX2_isMetAt 7 = .ok (.aload_n 0, 1) := by decide +kernel
theorem dX2_isMetAt_8 : decode cX2_isMetAt 8 = .ok (.getfield 30, 3) := by decide +kernel
theorem dX2_isMetAt_11 : decode cX2_isMetAt 11 = .ok (.iload_n 1, 1) := by decide +kernel
theorem dX2_isMetAt_12 : decode cX2_isMetAt 12 = .ok (.if_icmp .lt 7, 3) := by decide +kernel
theorem dX2_isMetAt_15 : decode cX2_isMetAt 15 = .ok (.iconst 1, 1) := by decide +kernel
theorem dX2_isMetAt_16 : decode cX2_isMetAt 16 = .ok (.goto 20, 3) := by decide +kernel
theorem dX2_isMetAt_19 : decode cX2_isMetAt 19 = .ok (.iconst 0, 1) := by decide +kernel
theorem dX2_isMetAt_20 : decode cX2_isMetAt 20 = .ok (.goto 16, 3) := by decide +kernel
theorem dX2_isMetAt_23 : decode cX2_isMetAt 23 = .ok (.aload_n 0, 1) := by decide +kernel
theorem dX2_isMetAt_24 : decode cX2_isMetAt 24 = .ok (.getfield 30, 3) := by decide +kernel
theorem dX2_isMetAt_27 : decode cX2_isMetAt 27 = .ok (.iload_n 1, 1) := by decide +kernel
theorem dX2_isMetAt_28 : decode cX2_isMetAt 28 = .ok (.if_icmp .gt 7, 3) := by decide +kernel
theorem dX2_isMetAt_31 : decode cX2_isMetAt 31 = .ok (.iconst 1, 1) := by decide +kernel
theorem dX2_isMetAt_32 : decode cX2_isMetAt 32 = .ok (.goto 4, 3) := by decide +kernel
theorem dX2_isMetAt_35 : decode cX2_isMetAt 35 = .ok (.iconst 0, 1) := by decide +kernel
theorem dX2_isMetAt_36 : decode cX2_isMetAt 36 = .ok (.ireturn, 1) := by decide +kernel
theorem dX2_isBetterThan_0 : decode cX2_isBetterThan 0 = .ok (.aload_n 0, 1) := by decide +kernel
theorem dX2_isBetterThan_1 : decode cX2_isBetterThan 1 = .ok (.getfield 30, 3) := by decide +kernel
theorem dX2_isBetterThan_4 : decode cX2_isBetterThan 4 = .ok (.aload_n 1, 1) := by decide +kernel
theorem dX2_isBetterThan_5 : decode cX2_isBetterThan 5 = .ok (.getfield 30, 3) := by decide +kernel
theorem dX2_isBetterThan_8 : decode cX2_isBetterThan 8 = .ok (.if_icmp .ne 20, 3) := by decide +kernel
theorem dX2_isBetterThan_11 : decode cX2_isBetterThan 11 = .ok (.aload_n 0, 1) := by decide +kernel
theorem dX2_isBetterThan_12 : decode cX2_isBetterThan 12 = .ok (.getfield 16, 3) := by decide +kernel
theorem dX2_isBetterThan_15 : decode cX2_isBetterThan 15 = .ok (.aload_n 1, 1) := by decide +kernel
theorem dX2_isBetterThan_16 : decode cX2_isBetterThan 16 = .ok (.getfield 16, 3) := by decide +kernel
theorem dX2_isBetterThan_19 : decode cX2_isBetterThan 19 = .ok (.if_icmp .ge 7, 3) := by decide +kernel
theorem dX2_isBetterThan_22 : decode cX2_isBetterThan 22 = .ok (.iconst 1, 1) := by decide +kernel
theorem dX2_isBetterThan_23 : decode cX2_isBetterThan 23 = .ok (.goto 4, 3) := by decide +kernel
theorem dX2_isBetterThan_26 : decode cX2_isBetterThan 26 = .ok (.iconst 0, 1) := by decide +kernel
theorem dX2_isBetterThan_27 : decode cX2_isBetterThan 27 = .ok (.ireturn, 1) := by decide +kernel
theorem dX2_isBetterThan_28 : decode cX2_isBetterThan 28 = .ok (.aload_n 0, 1) := by decide +kernel
theorem dX2_isBetterThan_29 : decode cX2_isBetterThan 29 = .ok (.getfield 20, 3) := by decide +kernel
theorem dX2_isBetterThan_32 : decode cX2_isBetterThan 32 = .ok (.ifCond .eq 22, 3) := by decide +kernel
theorem dX2_isBetterThan_35 : decode cX2_isBetterThan 35 = .ok (.aload_n 0, 1) := by decide +kernel
theorem dX2_isBetterThan_36 : decode cX2_isBetterThan 36 = .ok (.getfield 30, 3) := by decide +kernel
theorem dX2_isBetterThan_39 : decode cX2_isBetterThan 39 = .ok (.aload_n 1, 1) := by decide +kernel
theorem dX2_isBetterThan_40 : decode cX2_isBetterThan 40 = .ok (.getfield 30, 3) := by decide +kernel
theorem dX2_isBetterThan_43 : decode cX2_isBetterThan 43 = .ok (.if_icmp .le 7, 3) := by decide +kernel
theorem dX2_isBetterThan_46 : decode cX2_isBetterThan 46 = .ok (.iconst 1, 1) := by decide +kernel
theorem dX2_isBetterThan_47 : decode cX2_isBetterThan 47 = .ok (.goto 23, 3) := by decide +kernel
theorem dX2_isBetterThan_50 : decode cX2_isBetterThan 50 = .ok (.iconst 0, 1) := by decide +kernel
theorem dX2_isBetterThan_51 : decode cX2_isBetterThan 51 = .ok (.goto 19, 3) := by decide +kernel
theorem dX2_isBetterThan_54 : decode cX2_isBetterThan 54 = .ok (.aload_n 0, 1) := by decide +kernel
theorem dX2_isBetterThan_55 : decode cX2_isBetterThan 55 = .ok (.getfield 30, 3) := by decide +kernel
theorem dX2_isBetterThan_58 : decode cX2_isBetterThan 58 = .ok (.aload_n 1, 1) := by decide +kernel
theorem dX2_isBetterThan_59 : decode cX2_isBetterThan 59 = .ok (.getfield 30, 3) := by decide +kernel
theorem dX2_isBetterThan_62 : decode cX2_isBetterThan 62 = .ok (.if_icmp .ge 7, 3) := by decide +kernel
theorem dX2_isBetterThan_65 : decode cX2_isBetterThan 65 = .ok (.iconst 1, 1) := by decide +kernel
theorem dX2_isBetterThan_66 : decode cX2_isBetterThan 66 = .ok (.goto 4, 3) := by decide +kernel
theorem dX2_isBetterThan_69 : decode cX2_isBetterThan 69 = .ok (.iconst 0, 1) := by decide +kernel
theorem dX2_isBetterThan_70 : decode cX2_isBetterThan 70 = .ok (.ireturn, 1) := by decide +kernel
theorem dX2_heldBack_0 : decode cX2_heldBack 0 = .ok (.aload_n 0, 1) := by decide +kernel
theorem dX2_heldBack_1 : decode cX2_heldBack 1 = .ok (.getfield 20, 3) := by decide +kernel
theorem dX2_heldBack_4 : decode cX2_heldBack 4 = .ok (.ifCond .eq 15, 3) := by decide +kernel
theorem dX2_heldBack_7 : decode cX2_heldBack 7 = .ok (.aload_n 0, 1) := by decide +kernel
theorem dX2_heldBack_8 : decode cX2_heldBack 8 = .ok (.getfield 27, 3) := by decide +kernel
theorem dX2_heldBack_11 : decode cX2_heldBack 11 = .ok (.aload_n 0, 1) := by decide +kernel
theorem dX2_heldBack_12 : decode cX2_heldBack 12 = .ok (.getfield 30, 3) := by decide +kernel
theorem dX2_heldBack_15 : decode cX2_heldBack 15 = .ok (.imul, 1) := by decide +kernel
theorem dX2_heldBack_16 : decode cX2_heldBack 16 = .ok (.goto 4, 3) := by decide +kernel
theorem dX2_heldBack_19 : decode cX2_heldBack 19 = .ok (.iconst 0, 1) := by decide +kernel
theorem dX2_heldBack_20 : decode cX2_heldBack 20 = .ok (.ireturn, 1) := by decide +kernel
theorem dX3_init_0 : decode cX3_init 0 = .ok (.aload_n 0, 1) := by decide +kernel
theorem dX3_init_1 : decode cX3_init 1 = .ok (.invokespecial 3, 3) := by decide +kernel
theorem dX3_init_4 : decode cX3_init 4 = .ok (.aload_n 0, 1) := by decide +kernel
theorem dX3_init_5 : decode cX3_init 5 = .ok (.bipush 60, 2) := by decide +kernel
theorem dX3_init_7 : decode cX3_init 7 = .ok (.newarray .char, 2) := by decide +kernel
theorem dX3_init_9 : decode cX3_init 9 = .ok (.putfield 9, 3) := by decide +kernel
theorem dX3_init_12 : decode cX3_init 12 = .ok (.aload_n 0, 1) := by decide +kernel
theorem dX3_init_13 : decode cX3_init 13 = .ok (.bipush 9, 2) := by decide +kernel
theorem dX3_init_15 : decode cX3_init 15 = .ok (.anewarray 15, 3) := by decide +kernel
theorem dX3_init_18 : decode cX3_init 18 = .ok (.putfield 17, 3) := by decide +kernel
theorem dX3_init_21 : decode cX3_init 21 = .ok (.iconst 0, 1) := by decide +kernel
theorem dX3_init_22 : decode cX3_init 22 = .ok (.istore_n 1, 1) := by decide +kernel
theorem dX3_init_23 : decode cX3_init 23 = .ok (.iload_n 1, 1) := by decide +kernel
theorem dX3_init_24 : decode cX3_init 24 = .ok (.aload_n 0, 1) := by decide +kernel
theorem dX3_init_25 : decode cX3_init 25 = .ok (.getfield 17, 3) := by decide +kernel
theorem dX3_init_28 : decode cX3_init 28 = .ok (.arraylength, 1) := by decide +kernel
theorem dX3_init_29 : decode cX3_init 29 = .ok (.if_icmp .ge 22, 3) := by decide +kernel
theorem dX3_init_32 : decode cX3_init 32 = .ok (.aload_n 0, 1) := by decide +kernel
theorem dX3_init_33 : decode cX3_init 33 = .ok (.getfield 17, 3) := by decide +kernel
theorem dX3_init_36 : decode cX3_init 36 = .ok (.iload_n 1, 1) := by decide +kernel
theorem dX3_init_37 : decode cX3_init 37 = .ok (.new 15, 3) := by decide +kernel
theorem dX3_init_40 : decode cX3_init 40 = .ok (.dup, 1) := by decide +kernel
theorem dX3_init_41 : decode cX3_init 41 = .ok (.invokespecial 21, 3) := by decide +kernel
theorem dX3_init_44 : decode cX3_init 44 = .ok (.aastore, 1) := by decide +kernel
theorem dX3_init_45 : decode cX3_init 45 = .ok (.iinc 1 1, 3) := by decide +kernel
theorem dX3_init_48 : decode cX3_init 48 = .ok (.goto (-25), 3) := by decide +kernel
theorem dX3_init_51 : decode cX3_init 51 = .ok (.return_, 1) := by decide +kernel
theorem dX4_init_0 : decode cX4_init 0 = .ok (.aload_n 0, 1) := by decide +kernel
theorem dX4_init_1 : decode cX4_init 1 = .ok (.invokespecial 3, 3) := by decide +kernel
theorem dX4_init_4 : decode cX4_init 4 = .ok (.aload_n 0, 1) := by decide +kernel
theorem dX4_init_5 : decode cX4_init 5 = .ok (.bipush 8, 2) := by decide +kernel
theorem dX4_init_7 : decode cX4_init 7 = .ok (.newarray .int, 2) := by decide +kernel
theorem dX4_init_9 : decode cX4_init 9 = .ok (.putfield 9, 3) := by decide +kernel
theorem dX4_init_12 : decode cX4_init 12 = .ok (.return_, 1) := by decide +kernel
theorem dX4_copyFrom_0 : decode cX4_copyFrom 0 = .ok (.aload_n 0, 1) := by decide +kernel
theorem dX4_copyFrom_1 : decode cX4_copyFrom 1 = .ok (.getfield 9, 3) := by decide +kernel
theorem dX4_copyFrom_4 : decode cX4_copyFrom 4 = .ok (.arraylength, 1) := by decide +kernel
theorem dX4_copyFrom_5 : decode cX4_copyFrom 5 = .ok (.aload_n 1, 1) := by decide +kernel
theorem dX4_copyFrom_6 : decode cX4_copyFrom 6 = .ok (.getfield 15, 3) := by decide +kernel
theorem dX4_copyFrom_9 : decode cX4_copyFrom 9 = .ok (.if_icmp .ge 14, 3) := by decide +kernel
theorem dX4_copyFrom_12 : decode cX4_copyFrom 12 = .ok (.aload_n 0, 1) := by decide +kernel
theorem dX4_copyFrom_13 : decode cX4_copyFrom 13 = .ok (.aload_n 1, 1) := by decide +kernel
theorem dX4_copyFrom_14 : decode cX4_copyFrom 14 = .ok (.getfield 9, 3) := by decide +kernel
theorem dX4_copyFrom_17 : decode cX4_copyFrom 17 = .ok (.arraylength, 1) := by decide +kernel
theorem dX4_copyFrom_18 : decode cX4_copyFrom 18 = .ok (.newarray .int, 2) := by decide +kernel
theorem dX4_copyFrom_20 : decode cX4_copyFrom 20 = .ok (.putfield 9, 3) := by decide +kernel
theorem dX4_copyFrom_23 : decode cX4_copyFrom 23 = .ok (.aload_n 1, 1) := by decide +kernel
theorem dX4_copyFrom_24 : decode cX4_copyFrom 24 = .ok (.getfield 9, 3) := by decide +kernel
theorem dX4_copyFrom_27 : decode cX4_copyFrom 27 = .ok (.iconst 0, 1) := by decide +kernel
theorem dX4_copyFrom_28 : decode cX4_copyFrom 28 = .ok (.aload_n 0, 1) := by decide +kernel
theorem dX4_copyFrom_29 : decode cX4_copyFrom 29 = .ok (.getfield 9, 3) := by decide +kernel
theorem dX4_copyFrom_32 : decode cX4_copyFrom 32 = .ok (.iconst 0, 1) := by decide +kernel
theorem dX4_copyFrom_33 : decode cX4_copyFrom 33 = .ok (.aload_n 1, 1) := by decide +kernel
theorem dX4_copyFrom_34 : decode cX4_copyFrom 34 = .ok (.getfield 15, 3) := by decide +kernel
theorem dX4_copyFrom_37 : decode cX4_copyFrom 37 = .ok (.invokestatic 19, 3) := by decide +kernel
theorem dX4_copyFrom_40 : decode cX4_copyFrom 40 = .ok (.aload_n 0, 1) := by decide +kernel
theorem dX4_copyFrom_41 : decode cX4_copyFrom 41 = .ok (.aload_n 1, 1) := by decide +kernel
theorem dX4_copyFrom_42 : decode cX4_copyFrom 42 = .ok (.getfield 15, 3) := by decide +kernel
theorem dX4_copyFrom_45 : decode cX4_copyFrom 45 = .ok (.putfield 15, 3) := by decide +kernel
theorem dX4_copyFrom_48 : decode cX4_copyFrom 48 = .ok (.aload_n 0, 1) := by decide +kernel
theorem dX4_copyFrom_49 : decode cX4_copyFrom 49 = .ok (.aload_n 1, 1) := by decide +kernel
theorem dX4_copyFrom_50 : decode cX4_copyFrom 50 = .ok (.getfield 25, 3) := by decide +kernel
theorem dX4_copyFrom_53 : decode cX4_copyFrom 53 = .ok (.putfield 25, 3) := by decide +kernel
theorem dX4_copyFrom_56 : decode cX4_copyFrom 56 = .ok (.return_, 1) := by decide +kernel
theorem dX4_issuedFor_0 : decode cX4_issuedFor 0 = .ok (.iload_n 1, 1) := by decide +kernel
theorem dX4_issuedFor_1 : decode cX4_issuedFor 1 = .ok (.ifCond .lt 20, 3) := by decide +kernel
theorem dX4_issuedFor_4 : decode cX4_issuedFor 4 = .ok (.iload_n 1, 1) := by decide +kernel
theorem dX4_issuedFor_5 : decode cX4_issuedFor 5 = .ok (.aload_n 0, 1) := by decide +kernel
theorem dX4_issuedFor_6 : decode cX4_issuedFor 6 = .ok (.getfield 15, 3) := by decide +kernel
theorem dX4_issuedFor_9 : decode cX4_issuedFor 9 = .ok (.if_icmp .ge 12, 3) := by decide +kernel
theorem dX4_issuedFor_12 : decode cX4_issuedFor 12 = .ok (.aload_n 0, 1) := by decide +kernel
theorem dX4_issuedFor_13 : decode cX4_issuedFor 13 = .ok (.getfield 9, 3) := by decide +kernel
theorem dX4_issuedFor_16 : decode cX4_issuedFor 16 = .ok (.iload_n 1, 1) := by decide +kernel
theorem dX4_issuedFor_17 : decode cX4_issuedFor 17 = .ok (.iaload, 1) := by decide +kernel
theorem dX4_issuedFor_18 : decode cX4_issuedFor 18 = .ok (.goto 4, 3) := by decide +kernel
theorem dX4_issuedFor_21 : decode cX4_issuedFor 21 = .ok (.iconst 0, 1) := by decide +kernel
theorem dX4_issuedFor_22 : decode cX4_issuedFor 22 = .ok (.ireturn, 1) := by decide +kernel
theorem dX4_oldestYear_0 : decode cX4_oldestYear 0 = .ok (.iconst 0, 1) := by decide +kernel
theorem dX4_oldestYear_1 : decode cX4_oldestYear 1 = .ok (.istore_n 1, 1) := by decide +kernel
theorem dX4_oldestYear_2 : decode cX4_oldestYear 2 = .ok (.iload_n 1, 1) := by decide +kernel
theorem dX4_oldestYear_3 : decode cX4_oldestYear 3 = .ok (.aload_n 0, 1) := by decide +kernel
theorem dX4_oldestYear_4 : decode cX4_oldestYear 4 = .ok (.getfield 15, 3) := by decide +kernel
theorem dX4_oldestYear_7 : decode cX4_oldestYear 7 = .ok (.if_icmp .ge 20, 3) := by decide +kernel
theorem dX4_oldestYear_10 : decode cX4_oldestYear 10 = .ok (.aload_n 0, 1) := by decide +kernel
theorem dX4_oldestYear_11 : decode cX4_oldestYear 11 = .ok (.getfield 9, 3) := by decide +kernel
theorem dX4_oldestYear_14 : decode cX4_oldestYear 14 = .ok (.iload_n 1, 1) := by decide +kernel
theorem dX4_oldestYear_15 : decode cX4_oldestYear 15 = .ok (.iaload, 1) := by decide +kernel
theorem dX4_oldestYear_16 : decode cX4_oldestYear 16 = .ok (.ifCond .le 5, 3) := by decide +kernel
theorem dX4_oldestYear_19 : decode cX4_oldestYear 19 = .ok (.iload_n 1, 1) := by decide +kernel
theorem dX4_oldestYear_20 : decode cX4_oldestYear 20 = .ok (.ireturn, 1) := by decide +kernel
theorem dX4_oldestYear_21 : decode cX4_oldestYear 21 = .ok (.iinc 1 1, 3) := by decide +kernel
theorem dX4_oldestYear_24 : decode cX4_oldestYear 24 = .ok (.goto (-22), 3) := by decide +kernel
theorem dX4_oldestYear_27 : decode cX4_oldestYear 27 = .ok (.bipush (-5), 2) := by decide +kernel
theorem dX4_oldestYear_29 : decode cX4_oldestYear 29 = .ok (.ireturn, 1) := by decide +kernel
theorem dX4_add_0 : decode cX4_add 0 = .ok (.iload_n 2, 1) := by decide +kernel
theorem dX4_add_1 : decode cX4_add 1 = .ok (.ifCond .le 14, 3) := by decide +kernel
theorem dX4_add_4 : decode cX4_add 4 = .ok (.iload_n 1, 1) := by decide +kernel
theorem dX4_add_5 : decode cX4_add 5 = .ok (.ifCond .lt 10, 3) := by decide +kernel
theorem dX4_add_8 : decode cX4_add 8 = .ok (.iload_n 1, 1) := by decide +kernel
theorem dX4_add_9 : decode cX4_add 9 = .ok (.sipush 999, 3) := by decide +kernel
theorem dX4_add_12 : decode cX4_add 12 = .ok (.if_icmp .le 4, 3) := by decide +kernel
theorem dX4_add_15 : decode cX4_add 15 = .ok (.return_, 1) := by decide +kernel
theorem dX4_add_16 : decode cX4_add 16 = .ok (.iload_n 1, 1) := by decide +kernel
theorem dX4_add_17 : decode cX4_add 17 = .ok (.aload_n 0, 1) := by decide +kernel
theorem dX4_add_18 : decode cX4_add 18 = .ok (.getfield 9, 3) := by decide +kernel
theorem dX4_add_21 : decode cX4_add 21 = .ok (.arraylength, 1) := by decide +kernel
theorem dX4_add_22 : decode cX4_add 22 = .ok (.if_icmp .lt 27, 3) := by decide +kernel
theorem dX4_add_25 : decode cX4_add 25 = .ok (.aload_n 0, 1) := by decide +kernel
theorem dX4_add_26 : decode cX4_add 26 = .ok (.aload_n 0, 1) := by decide +kernel
theorem dX4_add_27 : decode cX4_add 27 = .ok (.getfield 9, 3) := by decide +kernel
theorem dX4_add_30 : decode cX4_add 30 = .ok (.iload_n 1, 1) := by decide +kernel
theorem dX4_add_31 : decode cX4_add 31 = .ok (.iconst 1, 1) := by decide +kernel
theorem dX4_add_32 : decode cX4_add 32 = .ok (.iadd, 1) := by decide +kernel
theorem dX4_add_33 : decode cX4_add 33 = .ok (.iconst 2, 1) := by decide +kernel
theorem dX4_add_34 : decode cX4_add 34 = .ok (.aload_n 0, 1) := by decide +kernel
theorem dX4_add_35 : decode cX4_add 35 = .ok (.getfield 9, 3) := by decide +kernel
theorem dX4_add_38 : decode cX4_add 38 = .ok (.arraylength, 1) := by decide +kernel
theorem dX4_add_39 : decode cX4_add 39 = .ok (.imul, 1) := by decide +kernel
theorem dX4_add_40 : decode cX4_add 40 = .ok (.invokestatic 28, 3) := by decide +kernel
theorem dX4_add_43 : decode cX4_add 43 = .ok (.invokestatic 34, 3) := by decide +kernel
theorem dX4_add_46 : decode cX4_add 46 = .ok (.putfield 9, 3) := by decide +kernel
theorem dX4_add_49 : decode cX4_add 49 = .ok (.aload_n 0, 1) := by decide +kernel
theorem dX4_add_50 : decode cX4_add 50 = .ok (.getfield 15, 3) := by decide +kernel
theorem dX4_add_53 : decode cX4_add 53 = .ok (.iload_n 1, 1) := by decide +kernel
theorem dX4_add_54 : decode cX4_add 54 = .ok (.if_icmp .gt 26, 3) := by decide +kernel
theorem dX4_add_57 : decode cX4_add 57 = .ok (.aload_n 0, 1) := by decide +kernel
theorem dX4_add_58 : decode cX4_add 58 = .ok (.getfield 9, 3) := by decide +kernel
theorem dX4_add_61 : decode cX4_add 61 = .ok (.aload_n 0, 1) := by decide +kernel
theorem dX4_add_62 : decode cX4_add 62 = .ok (.getfield 15, 3) := by decide +kernel
theorem dX4_add_65 : decode cX4_add 65 = .ok (.iconst 0, 1) := by decide +kernel
theorem dX4_add_66 : decode cX4_add 66 = .ok (.iastore, 1) := by decide +kernel
theorem dX4_add_67 : decode cX4_add 67 = .ok (.aload_n 0, 1) := by decide +kernel
theorem dX4_add_68 : decode cX4_add 68 = .ok (.dup, 1) := by decide +kernel
theorem dX4_add_69 : decode cX4_add 69 = .ok (.getfield 15, 3) := by decide +kernel
theorem dX4_add_72 : decode cX4_add 72 = .ok (.iconst 1, 1) := by decide +kernel
theorem dX4_add_73 : decode cX4_add 73 = .ok (.iadd, 1) := by decide +kernel
theorem dX4_add_74 : decode cX4_add 74 = .ok (.putfield 15, 3) := by decide +kernel
theorem dX4_add_77 : decode cX4_add 77 = .ok (.goto (-28), 3) := by decide +kernel
theorem dX4_add_80 : decode cX4_add 80 = .ok (.aload_n 0, 1) := by decide +kernel
theorem dX4_add_81 : decode cX4_add 81 = .ok (.getfield 9, 3) := by decide +kernel
theorem dX4_add_84 : decode cX4_add 84 = .ok (.iload_n 1, 1) := by decide +kernel
theorem dX4_add_85 : decode cX4_add 85 = .ok (.dup2, 1) := by decide +kernel
theorem dX4_add_86 : decode cX4_add 86 = .ok (.iaload, 1) := by decide +kernel
theorem dX4_add_87 : decode cX4_add 87 = .ok (.iload_n 2, 1) := by decide +kernel
theorem dX4_add_88 : decode cX4_add 88 = .ok (.iadd, 1) := by decide +kernel
theorem dX4_add_89 : decode cX4_add 89 = .ok (.iastore, 1) := by decide +kernel
theorem dX4_add_90 : decode cX4_add 90 = .ok (.aload_n 0, 1) := by decide +kernel
theorem dX4_add_91 : decode cX4_add 91 = .ok (.dup, 1) := by decide +kernel
theorem dX4_add_92 : decode cX4_add 92 = .ok (.getfield 25, 3) := by decide +kernel
theorem dX4_add_95 : decode cX4_add 95 = .ok (.iload_n 2, 1) := by decide +kernel
theorem dX4_add_96 : decode cX4_add 96 = .ok (.iadd, 1) := by decide +kernel
theorem dX4_add_97 : decode cX4_add 97 = .ok (.putfield 25, 3) := by decide +kernel
theorem dX4_add_100 : decode cX4_add 100 = .ok (.return_, 1) := by decide +kernel
theorem dX4_giveOldest_0 : decode cX4_giveOldest 0 = .ok (.iload_n 1, 1) := by decide +kernel
theorem dX4_giveOldest_1 : decode cX4_giveOldest 1 = .ok (.istore_n 3, 1) := by decide +kernel
theorem dX4_giveOldest_2 : decode cX4_giveOldest 2 = .ok (.iconst 0, 1) := by decide +kernel
theorem dX4_giveOldest_3 : decode cX4_giveOldest 3 = .ok (.istore 4, 2) := by decide +kernel
theorem dX4_giveOldest_5 : decode cX4_giveOldest 5 = .ok (.iload 4, 2) := by decide +kernel
theorem dX4_giveOldest_7 : decode cX4_giveOldest 7 = .ok (.aload_n 0, 1) := by decide +kernel
theorem dX4_giveOldest_8 : decode cX4_giveOldest 8 = .ok (.getfield 15, 3) := by decide +kernel
theorem dX4_giveOldest_11 : decode cX4_giveOldest 11 = .ok (.if_icmp .ge 51, 3) := by decide +kernel
theorem dX4_giveOldest_14 : decode cX4_giveOldest 14 = .ok (.iload_n 3, 1) := by decide +kernel
theorem dX4_giveOldest_15 : decode cX4_giveOldest 15 = .ok (.ifCond .le 47, 3) := by decide +kernel
theorem dX4_giveOldest_18 : decode cX4_giveOldest 18 = .ok (.iload_n 3, 1) := by decide +kernel
theorem dX4_giveOldest_19 : decode cX4_giveOldest 19 = .ok (.aload_n 0, 1) := by decide +kernel
theorem dX4_giveOldest_20 : decode cX4_giveOldest 20 = .ok (.getfield 9, 3) := by decide +kernel
theorem dX4_giveOldest_23 : decode cX4_giveOldest 23 = .ok (.iload 4, 2) := by decide +kernel
theorem dX4_giveOldest_25 : decode cX4_giveOldest 25 = .ok (.iaload, 1) := by decide +kernel
theorem dX4_giveOldest_26 : decode cX4_giveOldest 26 = .ok (.invokestatic 40, 3) := by decide +kernel
theorem dX4_giveOldest_29 : decode cX4_giveOldest 29 = .ok (.istore 5, 2) := by decide +kernel
theorem dX4_giveOldest_31 : decode cX4_giveOldest 31 = .ok (.aload_n 0, 1) := by decide +kernel
theorem dX4_giveOldest_32 : decode cX4_giveOldest 32 = .ok (.getfield 9, 3) := by decide +kernel
theorem dX4_giveOldest_35 : decode cX4_giveOldest 35 = .ok (.iload 4, 2) := by decide +kernel
theorem dX4_giveOldest_37 : decode cX4_giveOldest 37 = .ok (.dup2, 1) := by decide +kernel
theorem dX4_giveOldest_38 : decode cX4_giveOldest 38 = .ok (.iaload, 1) := by decide +kernel
theorem dX4_giveOldest_39 : decode cX4_giveOldest 39 = .ok (.iload 5, 2) := by decide +kernel
theorem dX4_giveOldest_41 : decode cX4_giveOldest 41 = .ok (.isub, 1) := by decide +kernel
theorem dX4_giveOldest_42 : decode cX4_giveOldest 42 = .ok (.iastore, 1) := by decide +kernel
theorem dX4_giveOldest_43 : decode cX4_giveOldest 43 = .ok (.aload_n 2, 1) := by decide +kernel
theorem dX4_giveOldest_44 : decode cX4_giveOldest 44 = .ok (.iload 4, 2) := by decide +kernel
theorem dX4_giveOldest_46 : decode cX4_giveOldest 46 = .ok (.iload 5, 2) := by decide +kernel
theorem dX4_giveOldest_48 : decode cX4_giveOldest 48 = .ok (.invokevirtual 43, 3) := by decide +kernel
theorem dX4_giveOldest_51 : decode cX4_giveOldest 51 = .ok (.iload_n 3, 1) := by decide +kernel
theorem dX4_giveOldest_52 : decode cX4_giveOldest 52 = .ok (.iload 5, 2) := by decide +kernel
theorem dX4_giveOldest_54 : decode cX4_giveOldest 54 = .ok (.isub, 1) := by decide +kernel
theorem dX4_giveOldest_55 : decode cX4_giveOldest 55 = .ok (.istore_n 3, 1) := by decide +kernel
theorem dX4_giveOldest_56 : decode cX4_giveOldest 56 = .ok (.iinc 4 1, 3) := by decide +kernel
theorem dX4_giveOldest_59 : decode cX4_giveOldest 59 = .ok (.goto (-54), 3) := by decide +kernel
theorem dX4_giveOldest_62 : decode cX4_giveOldest 62 = .ok (.aload_n 0, 1) := by decide +kernel
theorem dX4_giveOldest_63 : decode cX4_giveOldest 63 = .ok (.iload_n 1, 1) := by decide +kernel
theorem dX4_giveOldest_64 : decode cX4_giveOldest 64 = .ok (.iload_n 3, 1) := by decide +kernel
theorem dX4_giveOldest_65 : decode cX4_giveOldest 65 = .ok (.isub, 1) := by decide +kernel
theorem dX4_giveOldest_66 : decode cX4_giveOldest 66 = .ok (.invokevirtual 47, 3) := by decide +kernel
theorem dX4_giveOldest_69 : decode cX4_giveOldest 69 = .ok (.return_, 1) := by decide +kernel
theorem dX4_dropOldest_0 : decode cX4_dropOldest 0 = .ok (.iload_n 1, 1) := by decide +kernel
theorem dX4_dropOldest_1 : decode cX4_dropOldest 1 = .ok (.istore_n 2, 1) := by decide +kernel
theorem dX4_dropOldest_2 : decode cX4_dropOldest 2 = .ok (.iconst 0, 1) := by decide +kernel
theorem dX4_dropOldest_3 : decode cX4_dropOldest 3 = .ok (.istore_n 3, 1) := by decide +kernel
theorem dX4_dropOldest_4 : decode cX4_dropOldest 4 = .ok (.iload_n 3, 1) := by decide +kernel
theorem dX4_dropOldest_5 : decode cX4_dropOldest 5 = .ok (.aload_n 0, 1) := by decide +kernel
theorem dX4_dropOldest_6 : decode cX4_dropOldest 6 = .ok (.getfield 15, 3) := by decide +kernel
theorem dX4_dropOldest_9 : decode cX4_dropOldest 9 = .ok (.if_icmp .ge 41, 3) := by decide +kernel
theorem dX4_dropOldest_12 : decode cX4_dropOldest 12 = .ok (.iload_n 2, 1) := by decide +kernel
theorem dX4_dropOldest_13 : decode cX4_dropOldest 13 = .ok (.ifCond .le 37, 3) := by decide +kernel
theorem dX4_dropOldest_16 : decode cX4_dropOldest 16 = .ok (.iload_n 2, 1) := by decide +kernel
theorem dX4_dropOldest_17 : decode cX4_dropOldest 17 = .ok (.aload_n 0, 1) := by decide +kernel
theorem dX4_dropOldest_18 : decode cX4_dropOldest 18 = .ok (.getfield 9, 3) := by decide +kernel
theorem dX4_dropOldest_21 : decode cX4_dropOldest 21 = .ok (.iload_n 3, 1) := by decide +kernel
theorem dX4_dropOldest_22 : decode cX4_dropOldest 22 = .ok (.iaload, 1) := by decide +kernel
theorem dX4_dropOldest_23 : decode cX4_dropOldest 23 = .ok (.invokestatic 40, 3) := by decide +kernel
theorem dX4_dropOldest_26 : decode cX4_dropOldest 26 = .ok (.istore 4, 2) := by decide +kernel
theorem dX4_dropOldest_28 : decode cX4_dropOldest 28 = .ok (.aload_n 0, 1) := by decide +kernel
theorem dX4_dropOldest_29 : decode cX4_dropOldest 29 = .ok (.getfield 9, 3) := by decide +kernel
theorem dX4_dropOldest_32 : decode cX4_dropOldest 32 = .ok (.iload_n 3, 1) := by decide +kernel
theorem dX4_dropOldest_33 : decode cX4_dropOldest 33 = .ok (.dup2, 1) := by decide +kernel
theorem dX4_dropOldest_34 : decode cX4_dropOldest 34 = .ok (.iaload, 1) := by decide +kernel
theorem dX4_dropOldest_35 : decode cX4_dropOldest 35 = .ok (.iload 4, 2) := by decide +kernel
theorem dX4_dropOldest_37 : decode cX4_dropOldest 37 = .ok (.isub, 1) := by decide +kernel
theorem dX4_dropOldest_38 : decode cX4_dropOldest 38 = .ok (.iastore, 1) := by decide +kernel
theorem dX4_dropOldest_39 : decode cX4_dropOldest 39 = .ok (.iload_n 2, 1) := by decide +kernel
theorem dX4_dropOldest_40 : decode cX4_dropOldest 40 = .ok (.iload 4, 2) := by decide +kernel
theorem dX4_dropOldest_42 : decode cX4_dropOldest 42 = .ok (.isub, 1) := by decide +kernel
theorem dX4_dropOldest_43 : decode cX4_dropOldest 43 = .ok (.istore_n 2, 1) := by decide +kernel
theorem dX4_dropOldest_44 : decode cX4_dropOldest 44 = .ok (.iinc 3 1, 3) := by decide +kernel
theorem dX4_dropOldest_47 : decode cX4_dropOldest 47 = .ok (.goto (-43), 3) := by decide +kernel
theorem dX4_dropOldest_50 : decode cX4_dropOldest 50 = .ok (.aload_n 0, 1) := by decide +kernel
theorem dX4_dropOldest_51 : decode cX4_dropOldest 51 = .ok (.iload_n 1, 1) := by decide +kernel
theorem dX4_dropOldest_52 : decode cX4_dropOldest 52 = .ok (.iload_n 2, 1) := by decide +kernel
theorem dX4_dropOldest_53 : decode cX4_dropOldest 53 = .ok (.isub, 1) := by decide +kernel
theorem dX4_dropOldest_54 : decode cX4_dropOldest 54 = .ok (.invokevirtual 47, 3) := by decide +kernel
theorem dX4_dropOldest_57 : decode cX4_dropOldest 57 = .ok (.return_, 1) := by decide +kernel
theorem dX4_leaveOut_0 : decode cX4_leaveOut 0 = .ok (.aload_n 0, 1) := by decide +kernel
theorem dX4_leaveOut_1 : decode cX4_leaveOut 1 = .ok (.dup, 1) := by decide +kernel
theorem dX4_leaveOut_2 : decode cX4_leaveOut 2 = .ok (.getfield 25, 3) := by decide +kernel
theorem dX4_leaveOut_5 : decode cX4_leaveOut 5 = .ok (.iload_n 1, 1) := by decide +kernel
theorem dX4_leaveOut_6 : decode cX4_leaveOut 6 = .ok (.isub, 1) := by decide +kernel
theorem dX4_leaveOut_7 : decode cX4_leaveOut 7 = .ok (.putfield 25, 3) := by decide +kernel
theorem dX4_leaveOut_10 : decode cX4_leaveOut 10 = .ok (.aload_n 0, 1) := by decide +kernel
theorem dX4_leaveOut_11 : decode cX4_leaveOut 11 = .ok (.getfield 25, 3) := by decide +kernel
theorem dX4_leaveOut_14 : decode cX4_leaveOut 14 = .ok (.ifCond .ne 8, 3) := by decide +kernel
theorem dX4_leaveOut_17 : decode cX4_leaveOut 17 = .ok (.aload_n 0, 1) := by decide +kernel
theorem dX4_leaveOut_18 : decode cX4_leaveOut 18 = .ok (.iconst 0, 1) := by decide +kernel
theorem dX4_leaveOut_19 : decode cX4_leaveOut 19 = .ok (.putfield 15, 3) := by decide +kernel
theorem dX4_leaveOut_22 : decode cX4_leaveOut 22 = .ok (.return_, 1) := by decide +kernel
theorem dX5_init_0 : decode cX5_init 0 = .ok (.aload_n 0, 1) := by decide +kernel
theorem dX5_init_1 : decode cX5_init 1 = .ok (.invokespecial 3, 3) := by decide +kernel
theorem dX5_init_4 : decode cX5_init 4 = .ok (.aload_n 0, 1) := by decide +kernel
theorem dX5_init_5 : decode cX5_init 5 = .ok (.sipush 500, 3) := by decide +kernel
theorem dX5_init_8 : decode cX5_init 8 = .ok (.putfield 9, 3) := by decide +kernel
theorem dX5_init_11 : decode cX5_init 11 = .ok (.aload_n 0, 1) := by decide +kernel
theorem dX5_init_12 : decode cX5_init 12 = .ok (.getstatic 15, 3) := by decide +kernel
theorem dX5_init_15 : decode cX5_init 15 = .ok (.invokevirtual 19, 3) := by decide +kernel
theorem dX5_init_18 : decode cX5_init 18 = .ok (.checkcast 20, 3) := by decide +kernel
theorem dX5_init_21 : decode cX5_init 21 = .ok (.putfield 24, 3) := by decide +kernel
theorem dX5_init_24 : decode cX5_init 24 = .ok (.aload_n 0, 1) := by decide +kernel
theorem dX5_init_25 : decode cX5_init 25 = .ok (.bipush 6, 2) := by decide +kernel
theorem dX5_init_27 : decode cX5_init 27 = .ok (.anewarray 27, 3) := by decide +kernel
theorem dX5_init_30 : decode cX5_init 30 = .ok (.putfield 29, 3) := by decide +kernel
theorem dX5_init_33 : decode cX5_init 33 = .ok (.aload_n 0, 1) := by decide +kernel
theorem dX5_init_34 : decode cX5_init 34 = .ok (.bipush 17, 2) := by decide +kernel
theorem dX5_init_36 : decode cX5_init 36 = .ok (.anewarray 33, 3) := by decide +kernel
theorem dX5_init_39 : decode cX5_init 39 = .ok (.putfield 35, 3) := by decide +kernel
theorem dX5_init_42 : decode cX5_init 42 = .ok (.iconst 0, 1) := by decide +kernel
theorem dX5_init_43 : decode cX5_init 43 = .ok (.istore_n 1, 1) := by decide +kernel
theorem dX5_init_44 : decode cX5_init 44 = .ok (.iload_n 1, 1) := by decide +kernel
theorem dX5_init_45 : decode cX5_init 45 = .ok (.aload_n 0, 1) := by decide +kernel
theorem dX5_init_46 : decode cX5_init 46 = .ok (.getfield 29, 3) := by decide +kernel
theorem dX5_init_49 : decode cX5_init 49 = .ok (.arraylength, 1) := by decide +kernel
theorem dX5_init_50 : decode cX5_init 50 = .ok (.if_icmp .ge 22, 3) := by decide +kernel
theorem dX5_init_53 : decode cX5_init 53 = .ok (.aload_n 0, 1) := by decide +kernel
theorem dX5_init_54 : decode cX5_init 54 = .ok (.getfield 29, 3) := by decide +kernel
theorem dX5_init_57 : decode cX5_init 57 = .ok (.iload_n 1, 1) := by decide +kernel
theorem dX5_init_58 : decode cX5_init 58 = .ok (.new 27, 3) := by decide +kernel
theorem dX5_init_61 : decode cX5_init 61 = .ok (.dup, 1) := by decide +kernel
theorem dX5_init_62 : decode cX5_init 62 = .ok (.invokespecial 39, 3) := by decide +kernel
theorem dX5_init_65 : decode cX5_init 65 = .ok (.aastore, 1) := by decide +kernel
theorem dX5_init_66 : decode cX5_init 66 = .ok (.iinc 1 1, 3) := by decide +kernel
theorem dX5_init_69 : decode cX5_init 69 = .ok (.goto (-25), 3) := by decide +kernel
theorem dX5_init_72 : decode cX5_init 72 = .ok (.iconst 0, 1) := by decide +kernel
theorem dX5_init_73 : decode cX5_init 73 = .ok (.istore_n 1, 1) := by decide +kernel
theorem dX5_init_74 : decode cX5_init 74 = .ok (.iload_n 1, 1) := by decide +kernel
theorem dX5_init_75 : decode cX5_init 75 = .ok (.aload_n 0, 1) := by decide +kernel
theorem dX5_init_76 : decode cX5_init 76 = .ok (.getfield 35, 3) := by decide +kernel
theorem dX5_init_79 : decode cX5_init 79 = .ok (.arraylength, 1) := by decide +kernel
theorem dX5_init_80 : decode cX5_init 80 = .ok (.if_icmp .ge 22, 3) := by decide +kernel
theorem dX5_init_83 : decode cX5_init 83 = .ok (.aload_n 0, 1) := by decide +kernel
theorem dX5_init_84 : decode cX5_init 84 = .ok (.getfield 35, 3) := by decide +kernel
theorem dX5_init_87 : decode cX5_init 87 = .ok (.iload_n 1, 1) := by decide +kernel
theorem dX5_init_88 : decode cX5_init 88 = .ok (.new 33, 3) := by decide +kernel
theorem dX5_init_91 : decode cX5_init 91 = .ok (.dup, 1) := by decide +kernel
theorem dX5_init_92 : decode cX5_init 92 = .ok (.invokespecial 40, 3) := by decide +kernel
theorem dX5_init_95 : decode cX5_init 95 = .ok (.aastore, 1) := by decide +kernel
theorem dX5_init_96 : decode cX5_init 96 = .ok (.iinc 1 1, 3) := by decide +kernel
theorem dX5_init_99 : decode cX5_init 99 = .ok (.goto (-25), 3) := by decide +kernel
theorem dX5_init_102 : decode cX5_init 102 = .ok (.return_, 1) := by decide +kernel
theorem dX5_copyFrom_0 : decode cX5_copyFrom 0 = .ok (.aload_n 0, 1) := by decide +kernel
theorem dX5_copyFrom_1 : decode cX5_copyFrom 1 = .ok (.aload_n 1, 1) := by decide +kernel
theorem dX5_copyFrom_2 : decode cX5_copyFrom 2 = .ok (.getfield 41, 3) := by decide +kernel
theorem dX5_copyFrom_5 : decode cX5_copyFrom 5 = .ok (.putfield 41, 3) := by decide +kernel
theorem dX5_copyFrom_8 : decode cX5_copyFrom 8 = .ok (.aload_n 0, 1) := by decide +kernel
theorem dX5_copyFrom_9 : decode cX5_copyFrom 9 = .ok (.aload_n 1, 1) := by decide +kernel
theorem dX5_copyFrom_10 : decode cX5_copyFrom 10 = .ok (.getfield 44, 3) := by decide +kernel
theorem dX5_copyFrom_13 : decode cX5_copyFrom 13 = .ok (.putfield 44, 3) := by decide +kernel
theorem dX5_copyFrom_16 : decode cX5_copyFrom 16 = .ok (.aload_n 0, 1) := by decide +kernel
theorem dX5_copyFrom_17 : decode cX5_copyFrom 17 = .ok (.aload_n 1, 1) := by decide +kernel
theorem dX5_copyFrom_18 : decode cX5_copyFrom 18 = .ok (.getfield 47, 3) := by decide +kernel
theorem dX5_copyFrom_21 : decode cX5_copyFrom 21 = .ok (.putfield 47, 3) := by decide +kernel
theorem dX5_copyFrom_24 : decode cX5_copyFrom 24 = .ok (.aload_n 0, 1) := by decide +kernel
theorem dX5_copyFrom_25 : decode cX5_copyFrom 25 = .ok (.aload_n 1, 1) := by decide +kernel
theorem dX5_copyFrom_26 : decode cX5_copyFrom 26 = .ok (.getfield 50, 3) := by decide +kernel
theorem dX5_copyFrom_29 : decode cX5_copyFrom 29 = .ok (.putfield 50, 3) := by decide +kernel
theorem dX5_copyFrom_32 : decode cX5_copyFrom 32 = .ok (.aload_n 0, 1) := by decide +kernel
theorem dX5_copyFrom_33 : decode cX5_copyFrom 33 = .ok (.aload_n 1, 1) := by decide +kernel
theorem dX5_copyFrom_34 : decode cX5_copyFrom 34 = .ok (.getfield 9, 3) := by decide +kernel
theorem dX5_copyFrom_37 : decode cX5_copyFrom 37 = .ok (.putfield 9, 3) := by decide +kernel
theorem dX5_copyFrom_40 : decode cX5_copyFrom 40 = .ok (.aload_n 0, 1) := by decide +kernel
theorem dX5_copyFrom_41 : decode cX5_copyFrom 41 = .ok (.aload_n 1, 1) := by decide +kernel
theorem dX5_copyFrom_42 : decode cX5_copyFrom 42 = .ok (.getfield 53, 3) := by decide +kernel
theorem dX5_copyFrom_45 : decode cX5_copyFrom 45 = .ok (.putfield 53, 3) := by decide +kernel
theorem dX5_copyFrom_48 : decode cX5_copyFrom 48 = .ok (.aload_n 0, 1) := by decide +kernel
theorem dX5_copyFrom_49 : decode cX5_copyFrom 49 = .ok (.aload_n 1, 1) := by decide +kernel
theorem dX5_copyFrom_50 : decode cX5_copyFrom 50 = .ok (.getfield 56, 3) := by decide +kernel
theorem dX5_copyFrom_53 : decode cX5_copyFrom 53 = .ok (.putfield 56, 3) := by decide +kernel
theorem dX5_copyFrom_56 : decode cX5_copyFrom 56 = .ok (.aload_n 0, 1) := by decide +kernel
theorem dX5_copyFrom_57 : decode cX5_copyFrom 57 = .ok (.aload_n 1, 1) := by decide +kernel
theorem dX5_copyFrom_58 : decode cX5_copyFrom 58 = .ok (.getfield 59, 3) := by decide +kernel
theorem dX5_copyFrom_61 : decode cX5_copyFrom 61 = .ok (.putfield 59, 3) := by decide +kernel
theorem dX5_copyFrom_64 : decode cX5_copyFrom 64 = .ok (.aload_n 0, 1) := by decide +kernel
theorem dX5_copyFrom_65 : decode cX5_copyFrom 65 = .ok (.aload_n 1, 1) := by decide +kernel
theorem dX5_copyFrom_66 : decode cX5_copyFrom 66 = .ok (.getfield 62, 3) := by decide +kernel
theorem dX5_copyFrom_69 : decode cX5_copyFrom 69 = .ok (.putfield 62, 3) := by decide +kernel
theorem dX5_copyFrom_72 : decode cX5_copyFrom 72 = .ok (.aload_n 0, 1) := by decide +kernel
theorem dX5_copyFrom_73 : decode cX5_copyFrom 73 = .ok (.aload_n 1, 1) := by decide +kernel
theorem dX5_copyFrom_74 : decode cX5_copyFrom 74 = .ok (.getfield 65, 3) := by decide +kernel
theorem dX5_copyFrom_77 : decode cX5_copyFrom 77 = .ok (.putfield 65, 3) := by decide +kernel
theorem dX5_copyFrom_80 : decode cX5_copyFrom 80 = .ok (.aload_n 0, 1) := by decide +kernel
theorem dX5_copyFrom_81 : decode cX5_copyFrom 81 = .ok (.aload_n 1, 1) := by decide +kernel
theorem dX5_copyFrom_82 : decode cX5_copyFrom 82 = .ok (.getfield 68, 3) := by decide +kernel
theorem dX5_copyFrom_85 : decode cX5_copyFrom 85 = .ok (.putfield 68, 3) := by decide +kernel
theorem dX5_copyFrom_88 : decode cX5_copyFrom 88 = .ok (.iconst 0, 1) := by decide +kernel
theorem dX5_copyFrom_89 : decode cX5_copyFrom 89 = .ok (.istore_n 2, 1) := by decide +kernel
theorem dX5_copyFrom_90 : decode cX5_copyFrom 90 = .ok (.iload_n 2, 1) := by decide +kernel
theorem dX5_copyFrom_91 : decode cX5_copyFrom 91 = .ok (.aload_n 0, 1) := by decide +kernel
theorem dX5_copyFrom_92 : decode cX5_copyFrom 92 = .ok (.getfield 24, 3) := by decide +kernel
theorem dX5_copyFrom_95 : decode cX5_copyFrom 95 = .ok (.arraylength, 1) := by decide +kernel
theorem dX5_copyFrom_96 : decode cX5_copyFrom 96 = .ok (.if_icmp .ge 30, 3) := by decide +kernel
theorem dX5_copyFrom_99 : decode cX5_copyFrom 99 = .ok (.iload_n 2, 1) := by decide +kernel
theorem dX5_copyFrom_100 : decode cX5_copyFrom 100 = .ok (.aload_n 1, 1) := by decide +kernel
theorem dX5_copyFrom_101 : decode cX5_copyFrom 101 = .ok (.getfield 24, 3) := by decide +kernel
theorem dX5_copyFrom_104 : decode cX5_copyFrom 104 = .ok (.arraylength, 1) := by decide +kernel
theorem dX5_copyFrom_105 : decode cX5_copyFrom 105 = .ok (.if_icmp .ge 21, 3) := by decide +kernel
theorem dX5_copyFrom_108 : decode cX5_copyFrom 108 = .ok (.aload_n 0, 1) := by decide +kernel
theorem dX5_copyFrom_109 : decode cX5_copyFrom 109 = .ok (.getfield 24, 3) := by decide +kernel
theorem dX5_copyFrom_112 : decode cX5_copyFrom 112 = .ok (.iload_n 2, 1) := by decide +kernel
theorem dX5_copyFrom_113 : decode cX5_copyFrom 113 = .ok (.aload_n 1, 1) := by decide +kernel
theorem dX5_copyFrom_114 : decode cX5_copyFrom 114 = .ok (.getfield 24, 3) := by decide +kernel
theorem dX5_copyFrom_117 : decode cX5_copyFrom 117 = .ok (.iload_n 2, 1) := by decide +kernel
theorem dX5_copyFrom_118 : decode cX5_copyFrom 118 = .ok (.iaload, 1) := by decide +kernel
theorem dX5_copyFrom_119 : decode cX5_copyFrom 119 = .ok (.iastore, 1) := by decide +kernel
theorem dX5_copyFrom_120 : decode cX5_copyFrom 120 = .ok (.iinc 2 1, 3) := by decide +kernel
theorem dX5_copyFrom_123 : decode cX5_copyFrom 123 = .ok (.goto (-33), 3) := by decide +kernel
theorem dX5_copyFrom_126 : decode cX5_copyFrom 126 = .ok (.iconst 0, 1) := by decide +kernel
theorem dX5_copyFrom_127 : decode cX5_copyFrom 127 = .ok (.istore_n 2, 1) := by decide +kernel
theorem dX5_copyFrom_128 : decode cX5_copyFrom 128 = .ok (.iload_n 2, 1) := by decide +kernel
theorem dX5_copyFrom_129 : decode cX5_copyFrom 129 = .ok (.aload_n 0, 1) := by decide +kernel
theorem dX5_copyFrom_130 : decode cX5_copyFrom 130 = .ok (.getfield 29, 3) := by decide +kernel
theorem dX5_copyFrom_133 : decode cX5_copyFrom 133 = .ok (.arraylength, 1) := by decide +kernel
theorem dX5_copyFrom_134 : decode cX5_copyFrom 134 = .ok (.if_icmp .ge 33, 3) := by decide +kernel
theorem dX5_copyFrom_137 : decode cX5_copyFrom 137 = .ok (.iload_n 2, 1) := by decide +kernel
theorem dX5_copyFrom_138 : decode cX5_copyFrom 138 = .ok (.aload_n 1, 1) := by decide +kernel
theorem dX5_copyFrom_139 : decode cX5_copyFrom 139 = .ok (.getfield 29, 3) := by decide +kernel
theorem dX5_copyFrom_142 : decode cX5_copyFrom 142 = .ok (.arraylength, 1) := by decide +kernel
theorem dX5_copyFrom_143 : decode cX5_copyFrom 143 = .ok (.if_icmp .ge 24, 3) := by decide +kernel
theorem dX5_copyFrom_146 : decode cX5_copyFrom 146 = .ok (.aload_n 0, 1) := by decide +kernel
theorem dX5_copyFrom_147 : decode cX5_copyFrom 147 = .ok (.getfield 29, 3) := by decide +kernel
theorem dX5_copyFrom_150 : decode cX5_copyFrom 150 = .ok (.iload_n 2, 1) := by decide +kernel
theorem dX5_copyFrom_151 : decode cX5_copyFrom 151 = .ok (.aaload, 1) := by decide +kernel
theorem dX5_copyFrom_152 : decode cX5_copyFrom 152 = .ok (.aload_n 1, 1) := by decide +kernel
theorem dX5_copyFrom_153 : decode cX5_copyFrom 153 = .ok (.getfield 29, 3) := by decide +kernel
theorem dX5_copyFrom_156 : decode cX5_copyFrom 156 = .ok (.iload_n 2, 1) := by decide +kernel
theorem dX5_copyFrom_157 : decode cX5_copyFrom 157 = .ok (.aaload, 1) := by decide +kernel
theorem dX5_copyFrom_158 : decode cX5_copyFrom 158 = .ok (.invokevirtual 71, 3) := by decide +kernel
theorem dX5_copyFrom_161 : decode cX5_copyFrom 161 = .ok (.iinc 2 1, 3) := by decide +kernel
theorem dX5_copyFrom_164 : decode cX5_copyFrom 164 = .ok (.goto (-36), 3) := by decide +kernel
theorem dX5_copyFrom_167 : decode cX5_copyFrom 167 = .ok (.iconst 0, 1) := by decide +kernel
theorem dX5_copyFrom_168 : decode cX5_copyFrom 168 = .ok (.istore_n 2, 1) := by decide +kernel
theorem dX5_copyFrom_169 : decode cX5_copyFrom 169 = .ok (.iload_n 2, 1) := by decide +kernel
theorem dX5_copyFrom_170 : decode cX5_copyFrom 170 = .ok (.aload_n 0, 1) := by decide +kernel
theorem dX5_copyFrom_171 : decode cX5_copyFrom 171 = .ok (.getfield 35, 3) := by decide +kernel
theorem dX5_copyFrom_174 : decode cX5_copyFrom 174 = .ok (.arraylength, 1) := by decide +kernel
theorem dX5_copyFrom_175 : decode cX5_copyFrom 175 = .ok (.if_icmp .ge 33, 3) := by decide +kernel
theorem dX5_copyFrom_178 : decode cX5_copyFrom 178 = .ok (.iload_n 2, 1) := by decide +kernel
theorem dX5_copyFrom_179 : decode cX5_copyFrom 179 = .ok (.aload_n 1, 1) := by decide +kernel
theorem dX5_copyFrom_180 : decode cX5_copyFrom 180 = .ok (.getfield 35, 3) := by decide +kernel
theorem dX5_copyFrom_183 : decode cX5_copyFrom 183 = .ok (.arraylength, 1) := by decide +kernel
theorem dX5_copyFrom_184 : decode cX5_copyFrom 184 = .ok (.if_icmp .ge 24, 3) := by decide +kernel
theorem dX5_copyFrom_187 : decode cX5_copyFrom 187 = .ok (.aload_n 0, 1) := by decide +kernel
theorem dX5_copyFrom_188 : decode cX5_copyFrom 188 = .ok (.getfield 35, 3) := by decide +kernel
theorem dX5_copyFrom_191 : decode cX5_copyFrom 191 = .ok (.iload_n 2, 1) := by decide +kernel
theorem dX5_copyFrom_192 : decode cX5_copyFrom 192 = .ok (.aaload, 1) := by decide +kernel
theorem dX5_copyFrom_193 : decode cX5_copyFrom 193 = .ok (.aload_n 1, 1) := by decide +kernel
theorem dX5_copyFrom_194 : decode cX5_copyFrom 194 = .ok (.getfield 35, 3) := by decide +kernel
theorem dX5_copyFrom_197 : decode cX5_copyFrom 197 = .ok (.iload_n 2, 1) := by decide +kernel
theorem dX5_copyFrom_198 : decode cX5_copyFrom 198 = .ok (.aaload, 1) := by decide +kernel
theorem dX5_copyFrom_199 : decode cX5_copyFrom 199 = .ok (.invokevirtual 75, 3) := by decide +kernel
theorem dX5_copyFrom_202 : decode cX5_copyFrom 202 = .ok (.iinc 2 1, 3) := by decide +kernel
theorem dX5_copyFrom_205 : decode cX5_copyFrom 205 = .ok (.goto (-36), 3) := by decide +kernel
theorem dX5_copyFrom_208 : decode cX5_copyFrom 208 = .ok (.return_, 1) := by decide +kernel
theorem dX5_kilnAt_0 : decode cX5_kilnAt 0 = .ok (.iload_n 1, 1) := by decide +kernel
theorem dX5_kilnAt_1 : decode cX5_kilnAt 1 = .ok (.ifCond .lt 21, 3) := by decide +kernel
theorem dX5_kilnAt_4 : decode cX5_kilnAt 4 = .ok (.iload_n 1, 1) := by decide +kernel
theorem dX5_kilnAt_5 : decode cX5_kilnAt 5 = .ok (.aload_n 0, 1) := by decide +kernel
theorem dX5_kilnAt_6 : decode cX5_kilnAt 6 = .ok (.getfield 29, 3) := by decide +kernel
theorem dX5_kilnAt_9 : decode cX5_kilnAt 9 = .ok (.arraylength, 1) := by decide +kernel
theorem dX5_kilnAt_10 : decode cX5_kilnAt 10 = .ok (.if_icmp .ge 12, 3) := by decide +kernel
theorem dX5_kilnAt_13 : decode cX5_kilnAt 13 = .ok (.aload_n 0, 1) := by decide +kernel
theorem dX5_kilnAt_14 : decode cX5_kilnAt 14 = .ok (.getfield 29, 3) := by decide +kernel
theorem dX5_kilnAt_17 : decode cX5_kilnAt 17 = .ok (.iload_n 1, 1) := by decide +kernel
theorem dX5_kilnAt_18 : decode cX5_kilnAt 18 = .ok (.aaload, 1) := by decide +kernel
theorem dX5_kilnAt_19 : decode cX5_kilnAt 19 = .ok (.goto 4, 3) := by decide +kernel
theorem dX5_kilnAt_22 : decode cX5_kilnAt 22 = .ok (.aconst_null, 1) := by decide +kernel
theorem dX5_kilnAt_23 : decode cX5_kilnAt 23 = .ok (.areturn, 1) := by decide +kernel
theorem dX5_issueTo_0 : decode cX5_issueTo 0 = .ok (.aload_n 1, 1) := by decide +kernel
theorem dX5_issueTo_1 : decode cX5_issueTo 1 = .ok (.getfield 78, 3) := by decide +kernel
theorem dX5_issueTo_4 : decode cX5_issueTo 4 = .ok (.iload_n 2, 1) := by decide +kernel
theorem dX5_issueTo_5 : decode cX5_issueTo 5 = .ok (.invokestatic 81, 3) := by decide +kernel
theorem dX5_issueTo_8 : decode cX5_issueTo 8 = .ok (.istore_n 3, 1) := by decide +kernel
theorem dX5_issueTo_9 : decode cX5_issueTo 9 = .ok (.iload_n 2, 1) := by decide +kernel
theorem dX5_issueTo_10 : decode cX5_issueTo 10 = .ok (.iload_n 3, 1) := by decide +kernel
theorem dX5_issueTo_11 : decode cX5_issueTo 11 = .ok (.isub, 1) := by decide +kernel
theorem dX5_issueTo_12 : decode cX5_issueTo 12 = .ok (.istore 4, 2) := by decide +kernel
theorem dX5_issueTo_14 : decode cX5_issueTo 14 = .ok (.aload_n 1, 1) := by decide +kernel
theorem dX5_issueTo_15 : decode cX5_issueTo 15 = .ok (.dup, 1) := by decide +kernel
theorem dX5_issueTo_16 : decode cX5_issueTo 16 = .ok (.getfield 78, 3) := by decide +kernel
theorem dX5_issueTo_19 : decode cX5_issueTo 19 = .ok (.iload_n 3, 1) := by decide +kernel
theorem dX5_issueTo_20 : decode cX5_issueTo 20 = .ok (.isub, 1) := by decide +kernel
theorem dX5_issueTo_21 : decode cX5_issueTo 21 = .ok (.putfield 78, 3) := by decide +kernel
theorem dX5_issueTo_24 : decode cX5_issueTo 24 = .ok (.aload_n 1, 1) := by decide +kernel
theorem dX5_issueTo_25 : decode cX5_issueTo 25 = .ok (.getfield 87, 3) := by decide +kernel
theorem dX5_issueTo_28 : decode cX5_issueTo 28 = .ok (.aload_n 0, 1) := by decide +kernel
theorem dX5_issueTo_29 : decode cX5_issueTo 29 = .ok (.getfield 41, 3) := by decide +kernel
theorem dX5_issueTo_32 : decode cX5_issueTo 32 = .ok (.iload 4, 2) := by decide +kernel
theorem dX5_issueTo_34 : decode cX5_issueTo 34 = .ok (.invokevirtual 91, 3) := by decide +kernel
theorem dX5_issueTo_37 : decode cX5_issueTo 37 = .ok (.aload_n 0, 1) := by decide +kernel
theorem dX5_issueTo_38 : decode cX5_issueTo 38 = .ok (.dup, 1) := by decide +kernel
theorem dX5_issueTo_39 : decode cX5_issueTo 39 = .ok (.getfield 44, 3) := by decide +kernel
theorem dX5_issueTo_42 : decode cX5_issueTo 42 = .ok (.iload 4, 2) := by decide +kernel
theorem dX5_issueTo_44 : decode cX5_issueTo 44 = .ok (.iadd, 1) := by decide +kernel
theorem dX5_issueTo_45 : decode cX5_issueTo 45 = .ok (.putfield 44, 3) := by decide +kernel
theorem dX5_issueTo_48 : decode cX5_issueTo 48 = .ok (.iload 4, 2) := by decide +kernel
theorem dX5_issueTo_50 : decode cX5_issueTo 50 = .ok (.ireturn, 1) := by decide +kernel
theorem dX5_sellReserve_0 : decode cX5_sellReserve 0 = .ok (.iload_n 2, 1) := by decide +kernel
theorem dX5_sellReserve_1 : decode cX5_sellReserve 1 = .ok (.aload_n 0, 1) := by decide +kernel
theorem dX5_sellReserve_2 : decode cX5_sellReserve 2 = .ok (.getfield 24, 3) := by decide +kernel
theorem dX5_sellReserve_5 : decode cX5_sellReserve 5 = .ok (.iconst 1, 1) := by decide +kernel
theorem dX5_sellReserve_6 : decode cX5_sellReserve 6 = .ok (.iaload, 1) := by decide +kernel
theorem dX5_sellReserve_7 : decode cX5_sellReserve 7 = .ok (.imul, 1) := by decide +kernel
theorem dX5_sellReserve_8 : decode cX5_sellReserve 8 = .ok (.istore_n 3, 1) := by decide +kernel
theorem dX5_sellReserve_9 : decode cX5_sellReserve 9 = .ok (.aload_n 1, 1) := by decide +kernel
theorem dX5_sellReserve_10 : decode cX5_sellReserve 10 = .ok (.dup, 1) := by decide +kernel
theorem dX5_sellReserve_11 : decode cX5_sellReserve 11 = .ok (.getfield 97, 3) := by decide +kernel
theorem dX5_sellReserve_14 : decode cX5_sellReserve 14 = .ok (.iload_n 3, 1) := by decide +kernel
theorem dX5_sellReserve_15 : decode cX5_sellReserve 15 = .ok (.isub, 1) := by decide +kernel
theorem dX5_sellReserve_16 : decode cX5_sellReserve 16 = .ok (.putfield 97, 3) := by decide +kernel
theorem dX5_sellReserve_19 : decode cX5_sellReserve 19 = .ok (.aload_n 1, 1) := by decide +kernel
theorem dX5_sellReserve_20 : decode cX5_sellReserve 20 = .ok (.getfield 87, 3) := by decide +kernel
theorem dX5_sellReserve_23 : decode cX5_sellReserve 23 = .ok (.aload_n 0, 1) := by decide +kernel
theorem dX5_sellReserve_24 : decode cX5_sellReserve 24 = .ok (.getfield 41, 3) := by decide +kernel
theorem dX5_sellReserve_27 : decode cX5_sellReserve 27 = .ok (.iload_n 2, 1) := by decide +kernel
theorem dX5_sellReserve_28 : decode cX5_sellReserve 28 = .ok (.invokevirtual 91, 3) := by decide +kernel
theorem dX5_sellReserve_31 : decode cX5_sellReserve 31 = .ok (.aload_n 0, 1) := by decide +kernel
theorem dX5_sellReserve_32 : decode cX5_sellReserve 32 = .ok (.dup, 1) := by decide +kernel
theorem dX5_sellReserve_33 : decode cX5_sellReserve 33 = .ok (.getfield 68, 3) := by decide +kernel
theorem dX5_sellReserve_36 : decode cX5_sellReserve 36 = .ok (.iload_n 3, 1) := by decide +kernel
theorem dX5_sellReserve_37 : decode cX5_sellReserve 37 = .ok (.iadd, 1) := by decide +kernel
theorem dX5_sellReserve_38 : decode cX5_sellReserve 38 = .ok (.putfield 68, 3) := by decide +kernel
theorem dX5_sellReserve_41 : decode cX5_sellReserve 41 = .ok (.aload_n 0, 1) := by decide +kernel
theorem dX5_sellReserve_42 : decode cX5_sellReserve 42 = .ok (.dup, 1) := by decide +kernel
theorem dX5_sellReserve_43 : decode cX5_sellReserve 43 = .ok (.getfield 9, 3) := by decide +kernel
theorem dX5_sellReserve_46 : decode cX5_sellReserve 46 = .ok (.iload_n 2, 1) := by decide +kernel
theorem dX5_sellReserve_47 : decode cX5_sellReserve 47 = .ok (.isub, 1) := by decide +kernel
theorem dX5_sellReserve_48 : decode cX5_sellReserve 48 = .ok (.putfield 9, 3) := by decide +kernel
theorem dX5_sellReserve_51 : decode cX5_sellReserve 51 = .ok (.aload_n 0, 1) := by decide +kernel
theorem dX5_sellReserve_52 : decode cX5_sellReserve 52 = .ok (.dup, 1) := by decide +kernel
theorem dX5_sellReserve_53 : decode cX5_sellReserve 53 = .ok (.getfield 53, 3) := by decide +kernel
theorem dX5_sellReserve_56 : decode cX5_sellReserve 56 = .ok (.iload_n 2, 1) := by decide +kernel
theorem dX5_sellReserve_57 : decode cX5_sellReserve 57 = .ok (.iadd, 1) := by decide +kernel
theorem dX5_sellReserve_58 : decode cX5_sellReserve 58 = .ok (.putfield 53, 3) := by decide +kernel
theorem dX5_sellReserve_61 : decode cX5_sellReserve 61 = .ok (.return_, 1) := by decide +kernel
theorem dX5_closeYear_0 : decode cX5_closeYear 0 = .ok (.iconst 0, 1) := by decide +kernel
theorem dX5_closeYear_1 : decode cX5_closeYear 1 = .ok (.istore_n 1, 1) := by decide +kernel
theorem dX5_closeYear_2 : decode cX5_closeYear 2 = .ok (.aload_n 0, 1) := by decide +kernel
theorem dX5_closeYear_3 : decode cX5_closeYear 3 = .ok (.getfield 29, 3) := by decide +kernel
theorem dX5_closeYear_6 : decode cX5_closeYear 6 = .ok (.astore_n 2, 1) := by decide +kernel
theorem dX5_closeYear_7 : decode cX5_closeYear 7 = .ok (.aload_n 2, 1) := by decide +kernel
theorem dX5_closeYear_8 : decode cX5_closeYear 8 = .ok (.arraylength, 1) := by decide +kernel
theorem dX5_closeYear_9 : decode cX5_closeYear 9 = .ok (.istore_n 3, 1) := by decide +kernel
theorem dX5_closeYear_10 : decode cX5_closeYear 10 = .ok (.iconst 0, 1) := by decide +kernel
theorem dX5_closeYear_11 : decode cX5_closeYear 11 = .ok (.istore 4, 2) := by decide +kernel
theorem dX5_closeYear_13 : decode cX5_closeYear 13 = .ok (.iload 4, 2) := by decide +kernel
theorem dX5_closeYear_15 : decode cX5_closeYear 15 = .ok (.iload_n 3, 1) := by decide +kernel
theorem dX5_closeYear_16 : decode cX5_closeYear 16 = .ok (.if_icmp .ge 24, 3) := by decide +kernel
theorem dX5_closeYear_19 : decode cX5_closeYear 19 = .ok (.aload_n 2, 1) := by decide +kernel
theorem dX5_closeYear_20 : decode cX5_closeYear 20 = .ok (.iload 4, 2) := by decide +kernel
theorem dX5_closeYear_22 : decode cX5_closeYear 22 = .ok (.aaload, 1) := by decide +kernel
theorem dX5_closeYear_23 : decode cX5_closeYear 23 = .ok (.astore 5, 2) := by decide +kernel
theorem dX5_closeYear_25 : decode cX5_closeYear 25 = .ok (.iload_n 1, 1) := by decide +kernel
theorem dX5_closeYear_26 : decode cX5_closeYear 26 = .ok (.aload_n 0, 1) := by decide +kernel
theorem dX5_closeYear_27 : decode cX5_closeYear 27 = .ok (.aload 5, 2) := by decide +kernel
theorem dX5_closeYear_29 : decode cX5_closeYear 29 = .ok (.invokevirtual 100, 3) := by decide +kernel
theorem dX5_closeYear_32 : decode cX5_closeYear 32 = .ok (.iadd, 1) := by decide +kernel
theorem dX5_closeYear_33 : decode cX5_closeYear 33 = .ok (.istore_n 1, 1) := by decide +kernel
theorem dX5_closeYear_34 : decode cX5_closeYear 34 = .ok (.iinc 4 1, 3) := by decide +kernel
theorem dX5_closeYear_37 : decode cX5_closeYear 37 = .ok (.goto (-24), 3) := by decide +kernel
theorem dX5_closeYear_40 : decode cX5_closeYear 40 = .ok (.aload_n 0, 1) := by decide +kernel
theorem dX5_closeYear_41 : decode cX5_closeYear 41 = .ok (.dup, 1) := by decide +kernel
theorem dX5_closeYear_42 : decode cX5_closeYear 42 = .ok (.getfield 41, 3) := by decide +kernel
theorem dX5_closeYear_45 : decode cX5_closeYear 45 = .ok (.iconst 1, 1) := by decide +kernel
theorem dX5_closeYear_46 : decode cX5_closeYear 46 = .ok (.iadd, 1) := by decide +kernel
theorem dX5_closeYear_47 : decode cX5_closeYear 47 = .ok (.putfield 41, 3) := by decide +kernel
theorem dX5_closeYear_50 : decode cX5_closeYear 50 = .ok (.iload_n 1, 1) := by decide +kernel
theorem dX5_closeYear_51 : decode cX5_closeYear 51 = .ok (.ireturn, 1) := by decide +kernel
theorem dX5_settle_0 : decode cX5_settle 0 = .ok (.aload_n 1, 1) := by decide +kernel
theorem dX5_settle_1 : decode cX5_settle 1 = .ok (.invokevirtual 104, 3) := by decide +kernel
theorem dX5_settle_4 : decode cX5_settle 4 = .ok (.istore_n 2, 1) := by decide +kernel
theorem dX5_settle_5 : decode cX5_settle 5 = .ok (.aload_n 1, 1) := by decide +kernel
theorem dX5_settle_6 : decode cX5_settle 6 = .ok (.getfield 108, 3) := by decide +kernel
theorem dX5_settle_9 : decode cX5_settle 9 = .ok (.iload_n 2, 1) := by decide +kernel
theorem dX5_settle_10 : decode cX5_settle 10 = .ok (.invokestatic 81, 3) := by decide +kernel
theorem dX5_settle_13 : decode cX5_settle 13 = .ok (.istore_n 3, 1) := by decide +kernel
theorem dX5_settle_14 : decode cX5_settle 14 = .ok (.aload_n 1, 1) := by decide +kernel
theorem dX5_settle_15 : decode cX5_settle 15 = .ok (.getfield 87, 3) := by decide +kernel
theorem dX5_settle_18 : decode cX5_settle 18 = .ok (.getfield 111, 3) := by decide +kernel
theorem dX5_settle_21 : decode cX5_settle 21 = .ok (.iload_n 2, 1) := by decide +kernel
theorem dX5_settle_22 : decode cX5_settle 22 = .ok (.iload_n 3, 1) := by decide +kernel
theorem dX5_settle_23 : decode cX5_settle 23 = .ok (.isub, 1) := by decide +kernel
theorem dX5_settle_24 : decode cX5_settle 24 = .ok (.invokestatic 81, 3) := by decide +kernel
theorem dX5_settle_27 : decode cX5_settle 27 = .ok (.istore 4, 2) := by decide +kernel
theorem dX5_settle_29 : decode cX5_settle 29 = .ok (.iload_n 2, 1) := by decide +kernel
theorem dX5_settle_30 : decode cX5_settle 30 = .ok (.iload_n 3, 1) := by decide +kernel
theorem dX5_settle_31 : decode cX5_settle 31 = .ok (.isub, 1) := by decide +kernel
theorem dX5_settle_32 : decode cX5_settle 32 = .ok (.iload 4, 2) := by decide +kernel
theorem dX5_settle_34 : decode cX5_settle 34 = .ok (.isub, 1) := by decide +kernel
theorem dX5_settle_35 : decode cX5_settle 35 = .ok (.istore 5, 2) := by decide +kernel
theorem dX5_settle_37 : decode cX5_settle 37 = .ok (.aload_n 1, 1) := by decide +kernel
theorem dX5_settle_38 : decode cX5_settle 38 = .ok (.getfield 97, 3) := by decide +kernel
theorem dX5_settle_41 : decode cX5_settle 41 = .ok (.i2l, 1) := by decide +kernel
theorem dX5_settle_42 : decode cX5_settle 42 = .ok (.iload 5, 2) := by decide +kernel
theorem dX5_settle_44 : decode cX5_settle 44 = .ok (.i2l, 1) := by decide +kernel
theorem dX5_settle_45 : decode cX5_settle 45 = .ok (.aload_n 0, 1) := by decide +kernel
theorem dX5_settle_46 : decode cX5_settle 46 = .ok (.getfield 24, 3) := by decide +kernel
theorem dX5_settle_49 : decode cX5_settle 49 = .ok (.iconst 1, 1) := by decide +kernel
theorem dX5_settle_50 : decode cX5_settle 50 = .ok (.iaload, 1) := by decide +kernel
theorem dX5_settle_51 : decode cX5_settle 51 = .ok (.i2l, 1) := by decide +kernel
theorem dX5_settle_52 : decode cX5_settle 52 = .ok (.lmul, 1) := by decide +kernel
theorem dX5_settle_53 : decode cX5_settle 53 = .ok (.invokestatic 114, 3) := by decide +kernel
theorem dX5_settle_56 : decode cX5_settle 56 = .ok (.l2i, 1) := by decide +kernel
theorem dX5_settle_57 : decode cX5_settle 57 = .ok (.istore 6, 2) := by decide +kernel
theorem dX5_settle_59 : decode cX5_settle 59 = .ok (.aload_n 1, 1) := by decide +kernel
theorem dX5_settle_60 : decode cX5_settle 60 = .ok (.getfield 87, 3) := by decide +kernel
theorem dX5_settle_63 : decode cX5_settle 63 = .ok (.iload 4, 2) := by decide +kernel
theorem dX5_settle_65 : decode cX5_settle 65 = .ok (.invokevirtual 117, 3) := by decide +kernel
theorem dX5_settle_68 : decode cX5_settle 68 = .ok (.aload_n 1, 1) := by decide +kernel
theorem dX5_settle_69 : decode cX5_settle 69 = .ok (.dup, 1) := by decide +kernel
theorem dX5_settle_70 : decode cX5_settle 70 = .ok (.getfield 97, 3) := by decide +kernel
theorem dX5_settle_73 : decode cX5_settle 73 = .ok (.iload 6, 2) := by decide +kernel
theorem dX5_settle_75 : decode cX5_settle 75 = .ok (.isub, 1) := by decide +kernel
theorem dX5_settle_76 : decode cX5_settle 76 = .ok (.putfield 97, 3) := by decide +kernel
theorem dX5_settle_79 : decode cX5_settle 79 = .ok (.aload_n 1, 1) := by decide +kernel
theorem dX5_settle_80 : decode cX5_settle 80 = .ok (.dup, 1) := by decide +kernel
theorem dX5_settle_81 : decode cX5_settle 81 = .ok (.getfield 78, 3) := by decide +kernel
theorem dX5_settle_84 : decode cX5_settle 84 = .ok (.aload_n 0, 1) := by decide +kernel
theorem dX5_settle_85 : decode cX5_settle 85 = .ok (.aload_n 1, 1) := by decide +kernel
theorem dX5_settle_86 : decode cX5_settle 86 = .ok (.getfield 108, 3) := by decide +kernel
theorem dX5_settle_89 : decode cX5_settle 89 = .ok (.invokevirtual 121, 3) := by decide +kernel
theorem dX5_settle_92 : decode cX5_settle 92 = .ok (.iadd, 1) := by decide +kernel
theorem dX5_settle_93 : decode cX5_settle 93 = .ok (.putfield 78, 3) := by decide +kernel
theorem dX5_settle_96 : decode cX5_settle 96 = .ok (.aload_n 1, 1) := by decide +kernel
theorem dX5_settle_97 : decode cX5_settle 97 = .ok (.iload 5, 2) := by decide +kernel
theorem dX5_settle_99 : decode cX5_settle 99 = .ok (.invokevirtual 125, 3) := by decide +kernel
theorem dX5_settle_102 : decode cX5_settle 102 = .ok (.aload_n 0, 1) := by decide +kernel
theorem dX5_settle_103 : decode cX5_settle 103 = .ok (.dup, 1) := by decide +kernel
theorem dX5_settle_104 : decode cX5_settle 104 = .ok (.getfield 50, 3) := by decide +kernel
theorem dX5_settle_107 : decode cX5_settle 107 = .ok (.iload_n 3, 1) := by decide +kernel
theorem dX5_settle_108 : decode cX5_settle 108 = .ok (.iadd, 1) := by decide +kernel
theorem dX5_settle_109 : decode cX5_settle 109 = .ok (.putfield 50, 3) := by decide +kernel
theorem dX5_settle_112 : decode cX5_settle 112 = .ok (.aload_n 0, 1) := by decide +kernel
theorem dX5_settle_113 : decode cX5_settle 113 = .ok (.dup, 1) := by decide +kernel
theorem dX5_settle_114 : decode cX5_settle 114 = .ok (.getfield 47, 3) := by decide +kernel
theorem dX5_settle_117 : decode cX5_settle 117 = .ok (.iload 4, 2) := by decide +kernel
theorem dX5_settle_119 : decode cX5_settle 119 = .ok (.iadd, 1) := by decide +kernel
theorem dX5_settle_120 : decode cX5_settle 120 = .ok (.putfield 47, 3) := by decide +kernel
theorem dX5_settle_123 : decode cX5_settle 123 = .ok (.aload_n 0, 1) := by decide +kernel
theorem dX5_settle_124 : decode cX5_settle 124 = .ok (.dup, 1) := by decide +kernel
theorem dX5_settle_125 : decode cX5_settle 125 = .ok (.getfield 65, 3) := by decide +kernel
theorem dX5_settle_128 : decode cX5_settle 128 = .ok (.iload 6, 2) := by decide +kernel
theorem dX5_settle_130 : decode cX5_settle 130 = .ok (.iadd, 1) := by decide +kernel
theorem dX5_settle_131 : decode cX5_settle 131 = .ok (.putfield 65, 3) := by decide +kernel
theorem dX5_settle_134 : decode cX5_settle 134 = .ok (.iload 5, 2) := by decide +kernel
theorem dX5_settle_136 : decode cX5_settle 136 = .ok (.ireturn, 1) := by decide +kernel
theorem dX5_withInterest_0 : decode cX5_withInterest 0 = .ok (.iload_n 1, 1) := by decide +kernel
theorem dX5_withInterest_1 : decode cX5_withInterest 1 = .ok (.bipush 100, 2) := by decide +kernel
theorem dX5_withInterest_3 : decode cX5_withInterest 3 = .ok (.aload_n 0, 1) := by decide +kernel
theorem dX5_withInterest_4 : decode cX5_withInterest 4 = .ok (.getfield 24, 3) := by decide +kernel
theorem dX5_withInterest_7 : decode cX5_withInterest 7 = .ok (.iconst 3, 1) := by decide +kernel
theorem dX5_withInterest_8 : decode cX5_withInterest 8 = .ok (.iaload, 1) := by decide +kernel
theorem dX5_withInterest_9 : decode cX5_withInterest 9 = .ok (.iadd, 1) := by decide +kernel
theorem dX5_withInterest_10 : decode cX5_withInterest 10 = .ok (.imul, 1) := by decide +kernel
theorem dX5_withInterest_11 : decode cX5_withInterest 11 = .ok (.bipush 99, 2) := by decide +kernel
theorem dX5_withInterest_13 : decode cX5_withInterest 13 = .ok (.iadd, 1) := by decide +kernel
theorem dX5_withInterest_14 : decode cX5_withInterest 14 = .ok (.bipush 100, 2) := by decide +kernel
theorem dX5_withInterest_16 : decode cX5_withInterest 16 = .ok (.idiv, 1) := by decide +kernel
theorem dX5_withInterest_17 : decode cX5_withInterest 17 = .ok (.ireturn, 1) := by decide +kernel
theorem dX5_errorOf_0 : decode cX5_errorOf 0 = .ok (.aload_n 0, 1) := by decide +kernel
theorem dX5_errorOf_1 : decode cX5_errorOf 1 = .ok (.iload_n 2, 1) := by decide +kernel
theorem dX5_errorOf_2 : decode cX5_errorOf 2 = .ok (.invokevirtual 128, 3) := by decide +kernel
theorem dX5_errorOf_5 : decode cX5_errorOf 5 = .ok (.astore 5, 2) := by decide +kernel
theorem dX5_errorOf_7 : decode cX5_errorOf 7 = .ok (.aload 5, 2) := by decide +kernel
theorem dX5_errorOf_9 : decode cX5_errorOf 9 = .ok (.ifnonnull 5, 3) := by decide +kernel
theorem dX5_errorOf_12 : decode cX5_errorOf 12 = .ok (.iconst (-1), 1) := by decide +kernel
theorem dX5_errorOf_13 : decode cX5_errorOf 13 = .ok (.ireturn, 1) := by decide +kernel
theorem dX5_errorOf_14 : decode cX5_errorOf 14 = .ok (.iload_n 3, 1) := by decide +kernel
theorem dX5_errorOf_15 : decode cX5_errorOf 15 = .ok (.iconst 1, 1) := by decide +kernel
theorem dX5_errorOf_16 : decode cX5_errorOf 16 = .ok (.sipush 999, 3) := by decide +kernel
theorem dX5_errorOf_19 : decode cX5_errorOf 19 = .ok (.invokestatic 132, 3) := by decide +kernel
theorem dX5_errorOf_22 : decode cX5_errorOf 22 = .ok (.ifCond .eq 23, 3) := by decide +kernel
theorem dX5_errorOf_25 : decode cX5_errorOf 25 = .ok (.iload 4, 2) := by decide +kernel
theorem dX5_errorOf_27 : decode cX5_errorOf 27 = .ok (.aload_n 0, 1) := by decide +kernel
theorem dX5_errorOf_28 : decode cX5_errorOf 28 = .ok (.getfield 24, 3) := by decide +kernel
theorem dX5_errorOf_31 : decode cX5_errorOf 31 = .ok (.iconst 0, 1) := by decide +kernel
theorem dX5_errorOf_32 : decode cX5_errorOf 32 = .ok (.iaload, 1) := by decide +kernel
theorem dX5_errorOf_33 : decode cX5_errorOf 33 = .ok (.aload_n 0, 1) := by decide +kernel
theorem dX5_errorOf_34 : decode cX5_errorOf 34 = .ok (.getfield 24, 3) := by decide +kernel
theorem dX5_errorOf_37 : decode cX5_errorOf 37 = .ok (.iconst 1, 1) := by decide +kernel
theorem dX5_errorOf_38 : decode cX5_errorOf 38 = .ok (.iaload, 1) := by decide +kernel
theorem dX5_errorOf_39 : decode cX5_errorOf 39 = .ok (.invokestatic 132, 3) := by decide +kernel
theorem dX5_errorOf_42 : decode cX5_errorOf 42 = .ok (.ifCond .ne 6, 3) := by decide +kernel
theorem dX5_errorOf_45 : decode cX5_errorOf 45 = .ok (.bipush (-2), 2) := by decide +kernel
theorem dX5_errorOf_47 : decode cX5_errorOf 47 = .ok (.ireturn, 1) := by decide +kernel
theorem dX5_errorOf_48 : decode cX5_errorOf 48 = .ok (.iload_n 1, 1) := by decide +kernel
theorem dX5_errorOf_49 : decode cX5_errorOf 49 = .ok (.ifCond .eq 23, 3) := by decide +kernel
theorem dX5_errorOf_52 : decode cX5_errorOf 52 = .ok (.aload 5, 2) := by decide +kernel
theorem dX5_errorOf_54 : decode cX5_errorOf 54 = .ok (.getfield 97, 3) := by decide +kernel
theorem dX5_errorOf_57 : decode cX5_errorOf 57 = .ok (.iload_n 3, 1) := by decide +kernel
theorem dX5_errorOf_58 : decode cX5_errorOf 58 = .ok (.iload 4, 2) := by decide +kernel
theorem dX5_errorOf_60 : decode cX5_errorOf 60 = .ok (.imul, 1) := by decide +kernel
theorem dX5_errorOf_61 : decode cX5_errorOf 61 = .ok (.if_icmp .lt 7, 3) := by decide +kernel
theorem dX5_errorOf_64 : decode cX5_errorOf 64 = .ok (.iconst 1, 1) := by decide +kernel
theorem dX5_errorOf_65 : decode cX5_errorOf 65 = .ok (.goto 24, 3) := by decide +kernel
theorem dX5_errorOf_68 : decode cX5_errorOf 68 = .ok (.iconst 0, 1) := by decide +kernel
theorem dX5_errorOf_69 : decode cX5_errorOf 69 = .ok (.goto 20, 3) := by decide +kernel
theorem dX5_errorOf_72 : decode cX5_errorOf 72 = .ok (.aload 5, 2) := by decide +kernel
theorem dX5_errorOf_74 : decode cX5_errorOf 74 = .ok (.getfield 87, 3) := by decide +kernel
theorem dX5_errorOf_77 : decode cX5_errorOf 77 = .ok (.getfield 111, 3) := by decide +kernel
theorem dX5_errorOf_80 : decode cX5_errorOf 80 = .ok (.iload_n 3, 1) := by decide +kernel
theorem dX5_errorOf_81 : decode cX5_errorOf 81 = .ok (.if_icmp .lt 7, 3) := by decide +kernel
theorem dX5_errorOf_84 : decode cX5_errorOf 84 = .ok (.iconst 1, 1) := by decide +kernel
theorem dX5_errorOf_85 : decode cX5_errorOf 85 = .ok (.goto 4, 3) := by decide +kernel
theorem dX5_errorOf_88 : decode cX5_errorOf 88 = .ok (.iconst 0, 1) := by decide +kernel
theorem dX5_errorOf_89 : decode cX5_errorOf 89 = .ok (.istore 6, 2) := by decide +kernel
theorem dX5_errorOf_91 : decode cX5_errorOf 91 = .ok (.iload 6, 2) := by decide +kernel
theorem dX5_errorOf_93 : decode cX5_errorOf 93 = .ok (.ifCond .eq 7, 3) := by decide +kernel
theorem dX5_errorOf_96 : decode cX5_errorOf 96 = .ok (.iconst 0, 1) := by decide +kernel
theorem dX5_errorOf_97 : decode cX5_errorOf 97 = .ok (.goto 5, 3) := by decide +kernel
theorem dX5_errorOf_100 : decode cX5_errorOf 100 = .ok (.bipush (-3), 2) := by decide +kernel
theorem dX5_errorOf_102 : decode cX5_errorOf 102 = .ok (.ireturn, 1) := by decide +kernel
theorem dX5_comes_0 : decode cX5_comes 0 = .ok (.aload_n 0, 1) := by decide +kernel
theorem dX5_comes_1 : decode cX5_comes 1 = .ok (.invokevirtual 136, 3) := by decide +kernel
theorem dX5_comes_4 : decode cX5_comes 4 = .ok (.astore 5, 2) := by decide +kernel
theorem dX5_comes_6 : decode cX5_comes 6 = .ok (.aload_n 0, 1) := by decide +kernel
theorem dX5_comes_7 : decode cX5_comes 7 = .ok (.iload_n 2, 1) := by decide +kernel
theorem dX5_comes_8 : decode cX5_comes 8 = .ok (.invokevirtual 128, 3) := by decide +kernel
theorem dX5_comes_11 : decode cX5_comes 11 = .ok (.astore 6, 2) := by decide +kernel
theorem dX5_comes_13 : decode cX5_comes 13 = .ok (.aload 5, 2) := by decide +kernel
theorem dX5_comes_15 : decode cX5_comes 15 = .ok (.ifnull 8, 3) := by decide +kernel
theorem dX5_comes_18 : decode cX5_comes 18 = .ok (.aload 6, 2) := by decide +kernel
theorem dX5_comes_20 : decode cX5_comes 20 = .ok (.ifnonnull 5, 3) := by decide +kernel
theorem dX5_comes_23 : decode cX5_comes 23 = .ok (.iconst 0, 1) := by decide +kernel
theorem dX5_comes_24 : decode cX5_comes 24 = .ok (.ireturn, 1) := by decide +kernel
theorem dX5_comes_25 : decode cX5_comes 25 = .ok (.aload 5, 2) := by decide +kernel
theorem dX5_comes_27 : decode cX5_comes 27 = .ok (.aload_n 0, 1) := by decide +kernel
theorem dX5_comes_28 : decode cX5_comes 28 = .ok (.getfield 56, 3) := by decide +kernel
theorem dX5_comes_31 : decode cX5_comes 31 = .ok (.iload_n 1, 1) := by decide +kernel
theorem dX5_comes_32 : decode cX5_comes 32 = .ok (.iload_n 2, 1) := by decide +kernel
theorem dX5_comes_33 : decode cX5_comes 33 = .ok (.iload_n 3, 1) := by decide +kernel
theorem dX5_comes_34 : decode cX5_comes 34 = .ok (.iload 4, 2) := by decide +kernel
theorem dX5_comes_36 : decode cX5_comes 36 = .ok (.invokevirtual 140, 3) := by decide +kernel
theorem dX5_comes_39 : decode cX5_comes 39 = .ok (.aload_n 0, 1) := by decide +kernel
theorem dX5_comes_40 : decode cX5_comes 40 = .ok (.dup, 1) := by decide +kernel
theorem dX5_comes_41 : decode cX5_comes 41 = .ok (.getfield 56, 3) := by decide +kernel
theorem dX5_comes_44 : decode cX5_comes 44 = .ok (.iconst 1, 1) := by decide +kernel
theorem dX5_comes_45 : decode cX5_comes 45 = .ok (.iadd, 1) := by decide +kernel
theorem dX5_comes_46 : decode cX5_comes 46 = .ok (.putfield 56, 3) := by decide +kernel
theorem dX5_comes_49 : decode cX5_comes 49 = .ok (.iload_n 1, 1) := by decide +kernel
theorem dX5_comes_50 : decode cX5_comes 50 = .ok (.ifCond .eq 20, 3) := by decide +kernel
theorem dX5_comes_53 : decode cX5_comes 53 = .ok (.aload 6, 2) := by decide +kernel
theorem dX5_comes_55 : decode cX5_comes 55 = .ok (.dup, 1) := by decide +kernel
theorem dX5_comes_56 : decode cX5_comes 56 = .ok (.getfield 97, 3) := by decide +kernel
theorem dX5_comes_59 : decode cX5_comes 59 = .ok (.iload_n 3, 1) := by decide +kernel
theorem dX5_comes_60 : decode cX5_comes 60 = .ok (.iload 4, 2) := by decide +kernel
theorem dX5_comes_62 : decode cX5_comes 62 = .ok (.imul, 1) := by decide +kernel
theorem dX5_comes_63 : decode cX5_comes 63 = .ok (.isub, 1) := by decide +kernel
theorem dX5_comes_64 : decode cX5_comes 64 = .ok (.putfield 97, 3) := by decide +kernel
theorem dX5_comes_67 : decode cX5_comes 67 = .ok (.goto 17, 3) := by decide +kernel
theorem dX5_comes_70 : decode cX5_comes 70 = .ok (.aload 6, 2) := by decide +kernel
theorem dX5_comes_72 : decode cX5_comes 72 = .ok (.getfield 87, 3) := by decide +kernel
theorem dX5_comes_75 : decode cX5_comes 75 = .ok (.iload_n 3, 1) := by decide +kernel
theorem dX5_comes_76 : decode cX5_comes 76 = .ok (.aload 5, 2) := by decide +kernel
theorem dX5_comes_78 : decode cX5_comes 78 = .ok (.getfield 144, 3) := by decide +kernel
theorem dX5_comes_81 : decode cX5_comes 81 = .ok (.invokevirtual 147, 3) := by decide +kernel
theorem dX5_comes_84 : decode cX5_comes 84 = .ok (.aload_n 0, 1) := by decide +kernel
theorem dX5_comes_85 : decode cX5_comes 85 = .ok (.aload 5, 2) := by decide +kernel
theorem dX5_comes_87 : decode cX5_comes 87 = .ok (.invokevirtual 151, 3) := by decide +kernel
theorem dX5_comes_90 : decode cX5_comes 90 = .ok (.iload_n 3, 1) := by decide +kernel
theorem dX5_comes_91 : decode cX5_comes 91 = .ok (.aload 5, 2) := by decide +kernel
theorem dX5_comes_93 : decode cX5_comes 93 = .ok (.getfield 154, 3) := by decide +kernel
theorem dX5_comes_96 : decode cX5_comes 96 = .ok (.isub, 1) := by decide +kernel
theorem dX5_comes_97 : decode cX5_comes 97 = .ok (.istore 7, 2) := by decide +kernel
theorem dX5_comes_99 : decode cX5_comes 99 = .ok (.aload 5, 2) := by decide +kernel
theorem dX5_comes_101 : decode cX5_comes 101 = .ok (.getfield 154, 3) := by decide +kernel
theorem dX5_comes_104 : decode cX5_comes 104 = .ok (.ifCond .le 18, 3) := by decide +kernel
theorem dX5_comes_107 : decode cX5_comes 107 = .ok (.aload_n 0, 1) := by decide +kernel
theorem dX5_comes_108 : decode cX5_comes 108 = .ok (.invokevirtual 157, 3) := by decide +kernel
theorem dX5_comes_111 : decode cX5_comes 111 = .ok (.bipush 16, 2) := by decide +kernel
theorem dX5_comes_113 : decode cX5_comes 113 = .ok (.if_icmp .le 9, 3) := by decide +kernel
theorem dX5_comes_116 : decode cX5_comes 116 = .ok (.aload_n 0, 1) := by decide +kernel
theorem dX5_comes_117 : decode cX5_comes 117 = .ok (.aload 5, 2) := by decide +kernel
theorem dX5_comes_119 : decode cX5_comes 119 = .ok (.invokevirtual 160, 3) := by decide +kernel
theorem dX5_comes_122 : decode cX5_comes 122 = .ok (.iload 7, 2) := by decide +kernel
theorem dX5_comes_124 : decode cX5_comes 124 = .ok (.ireturn, 1) := by decide +kernel
theorem dX5_meetOthers_0 : decode cX5_meetOthers 0 = .ok (.iconst 0, 1) := by decide +kernel
theorem dX5_meetOthers_1 : decode cX5_meetOthers 1 = .ok (.istore_n 2, 1) := by decide +kernel
theorem dX5_meetOthers_2 : decode cX5_meetOthers 2 = .ok (.iload_n 2, 1) := by decide +kernel
theorem dX5_meetOthers_3 : decode cX5_meetOthers 3 = .ok (.aload_n 0, 1) := by decide +kernel
theorem dX5_meetOthers_4 : decode cX5_meetOthers 4 = .ok (.getfield 35, 3) := by decide +kernel
theorem dX5_meetOthers_7 : decode cX5_meetOthers 7 = .ok (.arraylength, 1) := by decide +kernel
theorem dX5_meetOthers_8 : decode cX5_meetOthers 8 = .ok (.if_icmp .ge 79, 3) := by decide +kernel
theorem dX5_meetOthers_11 : decode cX5_meetOthers 11 = .ok (.aload_n 1, 1) := by decide +kernel
theorem dX5_meetOthers_12 : decode cX5_meetOthers 12 = .ok (.getfield 154, 3) := by decide +kernel
theorem dX5_meetOthers_15 : decode cX5_meetOthers 15 = .ok (.ifCond .le 72, 3) := by decide +kernel
theorem dX5_meetOthers_18 : decode cX5_meetOthers 18 = .ok (.aload_n 0, 1) := by decide +kernel
theorem dX5_meetOthers_19 : decode cX5_meetOthers 19 = .ok (.aload_n 1, 1) := by decide +kernel
theorem dX5_meetOthers_20 : decode cX5_meetOthers 20 = .ok (.getfield 163, 3) := by decide +kernel
theorem dX5_meetOthers_23 : decode cX5_meetOthers 23 = .ok (.ifCond .ne 7, 3) := by decide +kernel
theorem dX5_meetOthers_26 : decode cX5_meetOthers 26 = .ok (.iconst 1, 1) := by decide +kernel
theorem dX5_meetOthers_27 : decode cX5_meetOthers 27 = .ok (.goto 4, 3) := by decide +kernel
theorem dX5_meetOthers_30 : decode cX5_meetOthers 30 = .ok (.iconst 0, 1) := by decide +kernel
theorem dX5_meetOthers_31 : decode cX5_meetOthers 31 = .ok (.invokevirtual 167, 3) := by decide +kernel
theorem dX5_meetOthers_34 : decode cX5_meetOthers 34 = .ok (.astore_n 3, 1) := by decide +kernel
theorem dX5_meetOthers_35 : decode cX5_meetOthers 35 = .ok (.aload_n 3, 1) := by decide +kernel
theorem dX5_meetOthers_36 : decode cX5_meetOthers 36 = .ok (.ifnull 14, 3) := by decide +kernel
theorem dX5_meetOthers_39 : decode cX5_meetOthers 39 = .ok (.aload_n 3, 1) := by decide +kernel
theorem dX5_meetOthers_40 : decode cX5_meetOthers 40 = .ok (.aload_n 1, 1) := by decide +kernel
theorem dX5_meetOthers_41 : decode cX5_meetOthers 41 = .ok (.getfield 171, 3) := by decide +kernel
theorem dX5_meetOthers_44 : decode cX5_meetOthers 44 = .ok (.invokevirtual 174, 3) := by decide +kernel
theorem dX5_meetOthers_47 : decode cX5_meetOthers 47 = .ok (.ifCond .ne 4, 3) := by decide +kernel
theorem dX5_meetOthers_50 : decode cX5_meetOthers 50 = .ok (.return_, 1) := by decide +kernel
theorem dX5_meetOthers_51 : decode cX5_meetOthers 51 = .ok (.aload_n 1, 1) := by decide +kernel
theorem dX5_meetOthers_52 : decode cX5_meetOthers 52 = .ok (.getfield 163, 3) := by decide +kernel
theorem dX5_meetOthers_55 : decode cX5_meetOthers 55 = .ok (.ifCond .eq 16, 3) := by decide +kernel
theorem dX5_meetOthers_58 : decode cX5_meetOthers 58 = .ok (.aload_n 0, 1) := by decide +kernel
theorem dX5_meetOthers_59 : decode cX5_meetOthers 59 = .ok (.aload_n 1, 1) := by decide +kernel
theorem dX5_meetOthers_60 : decode cX5_meetOthers 60 = .ok (.aload_n 3, 1) := by decide +kernel
theorem dX5_meetOthers_61 : decode cX5_meetOthers 61 = .ok (.aload_n 3, 1) := by decide +kernel
theorem dX5_meetOthers_62 : decode cX5_meetOthers 62 = .ok (.getfield 171, 3) := by decide +kernel
theorem dX5_meetOthers_65 : decode cX5_meetOthers 65 = .ok (.invokevirtual 178, 3) := by decide +kernel
theorem dX5_meetOthers_68 : decode cX5_meetOthers 68 = .ok (.goto 13, 3) := by decide +kernel
theorem dX5_meetOthers_71 : decode cX5_meetOthers 71 = .ok (.aload_n 0, 1) := by decide +kernel
theorem dX5_meetOthers_72 : decode cX5_meetOthers 72 = .ok (.aload_n 3, 1) := by decide +kernel
theorem dX5_meetOthers_73 : decode cX5_meetOthers 73 = .ok (.aload_n 1, 1) := by decide +kernel
theorem dX5_meetOthers_74 : decode cX5_meetOthers 74 = .ok (.aload_n 3, 1) := by decide +kernel
theorem dX5_meetOthers_75 : decode cX5_meetOthers 75 = .ok (.getfield 171, 3) := by decide +kernel
theorem dX5_meetOthers_78 : decode cX5_meetOthers 78 = .ok (.invokevirtual 178, 3) := by decide +kernel
theorem dX5_meetOthers_81 : decode cX5_meetOthers 81 = .ok (.iinc 2 1, 3) := by decide +kernel
theorem dX5_meetOthers_84 : decode cX5_meetOthers 84 = .ok (.goto (-82), 3) := by decide +kernel
theorem dX5_meetOthers_87 : decode cX5_meetOthers 87 = .ok (.return_, 1) := by decide +kernel
theorem dX5_trade_0 : decode cX5_trade 0 = .ok (.aload_n 0, 1) := by decide +kernel
theorem dX5_trade_1 : decode cX5_trade 1 = .ok (.aload_n 1, 1) := by decide +kernel
theorem dX5_trade_2 : decode cX5_trade 2 = .ok (.getfield 182, 3) := by decide +kernel
theorem dX5_trade_5 : decode cX5_trade 5 = .ok (.invokevirtual 128, 3) := by decide +kernel
theorem dX5_trade_8 : decode cX5_trade 8 = .ok (.astore 4, 2) := by decide +kernel
theorem dX5_trade_10 : decode cX5_trade 10 = .ok (.aload_n 0, 1) := by decide +kernel
theorem dX5_trade_11 : decode cX5_trade 11 = .ok (.aload_n 2, 1) := by decide +kernel
theorem dX5_trade_12 : decode cX5_trade 12 = .ok (.getfield 182, 3) := by decide +kernel
theorem dX5_trade_15 : decode cX5_trade 15 = .ok (.invokevirtual 128, 3) := by decide +kernel
theorem dX5_trade_18 : decode cX5_trade 18 = .ok (.astore 5, 2) := by decide +kernel
theorem dX5_trade_20 : decode cX5_trade 20 = .ok (.aload 4, 2) := by decide +kernel
theorem dX5_trade_22 : decode cX5_trade 22 = .ok (.ifnull 8, 3) := by decide +kernel
theorem dX5_trade_25 : decode cX5_trade 25 = .ok (.aload 5, 2) := by decide +kernel
theorem dX5_trade_27 : decode cX5_trade 27 = .ok (.ifnonnull 4, 3) := by decide +kernel
theorem dX5_trade_30 : decode cX5_trade 30 = .ok (.return_, 1) := by decide +kernel
theorem dX5_trade_31 : decode cX5_trade 31 = .ok (.aload_n 1, 1) := by decide +kernel
theorem dX5_trade_32 : decode cX5_trade 32 = .ok (.getfield 154, 3) := by decide +kernel
theorem dX5_trade_35 : decode cX5_trade 35 = .ok (.aload_n 2, 1) := by decide +kernel
theorem dX5_trade_36 : decode cX5_trade 36 = .ok (.getfield 154, 3) := by decide +kernel
theorem dX5_trade_39 : decode cX5_trade 39 = .ok (.invokestatic 81, 3) := by decide +kernel
theorem dX5_trade_42 : decode cX5_trade 42 = .ok (.istore 6, 2) := by decide +kernel
theorem dX5_trade_44 : decode cX5_trade 44 = .ok (.aload_n 1, 1) := by decide +kernel
theorem dX5_trade_45 : decode cX5_trade 45 = .ok (.dup, 1) := by decide +kernel
theorem dX5_trade_46 : decode cX5_trade 46 = .ok (.getfield 154, 3) := by decide +kernel
theorem dX5_trade_49 : decode cX5_trade 49 = .ok (.iload 6, 2) := by decide +kernel
theorem dX5_trade_51 : decode cX5_trade 51 = .ok (.isub, 1) := by decide +kernel
theorem dX5_trade_52 : decode cX5_trade 52 = .ok (.putfield 154, 3) := by decide +kernel
theorem dX5_trade_55 : decode cX5_trade 55 = .ok (.aload_n 2, 1) := by decide +kernel
theorem dX5_trade_56 : decode cX5_trade 56 = .ok (.dup, 1) := by decide +kernel
theorem dX5_trade_57 : decode cX5_trade 57 = .ok (.getfield 154, 3) := by decide +kernel
theorem dX5_trade_60 : decode cX5_trade 60 = .ok (.iload 6, 2) := by decide +kernel
theorem dX5_trade_62 : decode cX5_trade 62 = .ok (.isub, 1) := by decide +kernel
theorem dX5_trade_63 : decode cX5_trade 63 = .ok (.putfield 154, 3) := by decide +kernel
theorem dX5_trade_66 : decode cX5_trade 66 = .ok (.aload_n 2, 1) := by decide +kernel
theorem dX5_trade_67 : decode cX5_trade 67 = .ok (.getfield 144, 3) := by decide +kernel
theorem dX5_trade_70 : decode cX5_trade 70 = .ok (.iload 6, 2) := by decide +kernel
theorem dX5_trade_72 : decode cX5_trade 72 = .ok (.aload 4, 2) := by decide +kernel
theorem dX5_trade_74 : decode cX5_trade 74 = .ok (.getfield 87, 3) := by decide +kernel
theorem dX5_trade_77 : decode cX5_trade 77 = .ok (.invokevirtual 147, 3) := by decide +kernel
theorem dX5_trade_80 : decode cX5_trade 80 = .ok (.aload 5, 2) := by decide +kernel
theorem dX5_trade_82 : decode cX5_trade 82 = .ok (.dup, 1) := by decide +kernel
theorem dX5_trade_83 : decode cX5_trade 83 = .ok (.getfield 97, 3) := by decide +kernel
theorem dX5_trade_86 : decode cX5_trade 86 = .ok (.iload 6, 2) := by decide +kernel
theorem dX5_trade_88 : decode cX5_trade 88 = .ok (.iload_n 3, 1) := by decide +kernel
theorem dX5_trade_89 : decode cX5_trade 89 = .ok (.imul, 1) := by decide +kernel
theorem dX5_trade_90 : decode cX5_trade 90 = .ok (.iadd, 1) := by decide +kernel
theorem dX5_trade_91 : decode cX5_trade 91 = .ok (.putfield 97, 3) := by decide +kernel
theorem dX5_trade_94 : decode cX5_trade 94 = .ok (.aload 4, 2) := by decide +kernel
theorem dX5_trade_96 : decode cX5_trade 96 = .ok (.dup, 1) := by decide +kernel
theorem dX5_trade_97 : decode cX5_trade 97 = .ok (.getfield 97, 3) := by decide +kernel
theorem dX5_trade_100 : decode cX5_trade 100 = .ok (.iload 6, 2) := by decide +kernel
theorem dX5_trade_102 : decode cX5_trade 102 = .ok (.aload_n 1, 1) := by decide +kernel
theorem dX5_trade_103 : decode cX5_trade 103 = .ok (.getfield 171, 3) := by decide +kernel
theorem dX5_trade_106 : decode cX5_trade 106 = .ok (.iload_n 3, 1) := by decide +kernel
theorem dX5_trade_107 : decode cX5_trade 107 = .ok (.isub, 1) := by decide +kernel
theorem dX5_trade_108 : decode cX5_trade 108 = .ok (.imul, 1) := by decide +kernel
theorem dX5_trade_109 : decode cX5_trade 109 = .ok (.iadd, 1) := by decide +kernel
theorem dX5_trade_110 : decode cX5_trade 110 = .ok (.putfield 97, 3) := by decide +kernel
theorem dX5_trade_113 : decode cX5_trade 113 = .ok (.aload_n 0, 1) := by decide +kernel
theorem dX5_trade_114 : decode cX5_trade 114 = .ok (.dup, 1) := by decide +kernel
theorem dX5_trade_115 : decode cX5_trade 115 = .ok (.getfield 59, 3) := by decide +kernel
theorem dX5_trade_118 : decode cX5_trade 118 = .ok (.iload 6, 2) := by decide +kernel
theorem dX5_trade_120 : decode cX5_trade 120 = .ok (.iadd, 1) := by decide +kernel
theorem dX5_trade_121 : decode cX5_trade 121 = .ok (.putfield 59, 3) := by decide +kernel
theorem dX5_trade_124 : decode cX5_trade 124 = .ok (.aload_n 0, 1) := by decide +kernel
theorem dX5_trade_125 : decode cX5_trade 125 = .ok (.iload_n 3, 1) := by decide +kernel
theorem dX5_trade_126 : decode cX5_trade 126 = .ok (.putfield 62, 3) := by decide +kernel
theorem dX5_trade_129 : decode cX5_trade 129 = .ok (.return_, 1) := by decide +kernel
theorem dX5_giveBack_0 : decode cX5_giveBack 0 = .ok (.aload_n 0, 1) := by decide +kernel
theorem dX5_giveBack_1 : decode cX5_giveBack 1 = .ok (.aload_n 1, 1) := by decide +kernel
theorem dX5_giveBack_2 : decode cX5_giveBack 2 = .ok (.getfield 182, 3) := by decide +kernel
theorem dX5_giveBack_5 : decode cX5_giveBack 5 = .ok (.invokevirtual 128, 3) := by decide +kernel
theorem dX5_giveBack_8 : decode cX5_giveBack 8 = .ok (.astore_n 2, 1) := by decide +kernel
theorem dX5_giveBack_9 : decode cX5_giveBack 9 = .ok (.aload_n 2, 1) := by decide +kernel
theorem dX5_giveBack_10 : decode cX5_giveBack 10 = .ok (.ifnonnull 4, 3) := by decide +kernel
theorem dX5_giveBack_13 : decode cX5_giveBack 13 = .ok (.return_, 1) := by decide +kernel
theorem dX5_giveBack_14 : decode cX5_giveBack 14 = .ok (.aload_n 2, 1) := by decide +kernel
theorem dX5_giveBack_15 : decode cX5_giveBack 15 = .ok (.dup, 1) := by decide +kernel
theorem dX5_giveBack_16 : decode cX5_giveBack 16 = .ok (.getfield 97, 3) := by decide +kernel
theorem dX5_giveBack_19 : decode cX5_giveBack 19 = .ok (.aload_n 1, 1) := by decide +kernel
theorem dX5_giveBack_20 : decode cX5_giveBack 20 = .ok (.invokevirtual 185, 3) := by decide +kernel
theorem dX5_giveBack_23 : decode cX5_giveBack 23 = .ok (.iadd, 1) := by decide +kernel
theorem dX5_giveBack_24 : decode cX5_giveBack 24 = .ok (.putfield 97, 3) := by decide +kernel
theorem dX5_giveBack_27 : decode cX5_giveBack 27 = .ok (.aload_n 1, 1) := by decide +kernel
theorem dX5_giveBack_28 : decode cX5_giveBack 28 = .ok (.getfield 144, 3) := by decide +kernel
theorem dX5_giveBack_31 : decode cX5_giveBack 31 = .ok (.aload_n 1, 1) := by decide +kernel
theorem dX5_giveBack_32 : decode cX5_giveBack 32 = .ok (.getfield 144, 3) := by decide +kernel
theorem dX5_giveBack_35 : decode cX5_giveBack 35 = .ok (.getfield 111, 3) := by decide +kernel
theorem dX5_giveBack_38 : decode cX5_giveBack 38 = .ok (.aload_n 2, 1) := by decide +kernel
theorem dX5_giveBack_39 : decode cX5_giveBack 39 = .ok (.getfield 87, 3) := by decide +kernel
theorem dX5_giveBack_42 : decode cX5_giveBack 42 = .ok (.invokevirtual 147, 3) := by decide +kernel
theorem dX5_giveBack_45 : decode cX5_giveBack 45 = .ok (.aload_n 1, 1) := by decide +kernel
theorem dX5_giveBack_46 : decode cX5_giveBack 46 = .ok (.iconst 0, 1) := by decide +kernel
theorem dX5_giveBack_47 : decode cX5_giveBack 47 = .ok (.putfield 154, 3) := by decide +kernel
theorem dX5_giveBack_50 : decode cX5_giveBack 50 = .ok (.return_, 1) := by decide +kernel
theorem dX5_freePlace_0 : decode cX5_freePlace 0 = .ok (.aload_n 0, 1) := by decide +kernel
theorem dX5_freePlace_1 : decode cX5_freePlace 1 = .ok (.getfield 35, 3) := by decide +kernel
theorem dX5_freePlace_4 : decode cX5_freePlace 4 = .ok (.astore_n 1, 1) := by decide +kernel
theorem dX5_freePlace_5 : decode cX5_freePlace 5 = .ok (.aload_n 1, 1) := by decide +kernel
theorem dX5_freePlace_6 : decode cX5_freePlace 6 = .ok (.arraylength, 1) := by decide +kernel
theorem dX5_freePlace_7 : decode cX5_freePlace 7 = .ok (.istore_n 2, 1) := by decide +kernel
theorem dX5_freePlace_8 : decode cX5_freePlace 8 = .ok (.iconst 0, 1) := by decide +kernel
theorem dX5_freePlace_9 : decode cX5_freePlace 9 = .ok (.istore_n 3, 1) := by decide +kernel
theorem dX5_freePlace_10 : decode cX5_freePlace 10 = .ok (.iload_n 3, 1) := by decide +kernel
theorem dX5_freePlace_11 : decode cX5_freePlace 11 = .ok (.iload_n 2, 1) := by decide +kernel
theorem dX5_freePlace_12 : decode cX5_freePlace 12 = .ok (.if_icmp .ge 25, 3) := by decide +kernel
theorem dX5_freePlace_15 : decode cX5_freePlace 15 = .ok (.aload_n 1, 1) := by decide +kernel
theorem dX5_freePlace_16 : decode cX5_freePlace 16 = .ok (.iload_n 3, 1) := by decide +kernel
theorem dX5_freePlace_17 : decode cX5_freePlace 17 = .ok (.aaload, 1) := by decide +kernel
theorem dX5_freePlace_18 : decode cX5_freePlace 18 = .ok (.astore 4, 2) := by decide +kernel
theorem dX5_freePlace_20 : decode cX5_freePlace 20 = .ok (.aload 4, 2) := by decide +kernel
theorem dX5_freePlace_22 : decode cX5_freePlace 22 = .ok (.getfield 154, 3) := by decide +kernel
theorem dX5_freePlace_25 : decode cX5_freePlace 25 = .ok (.ifCond .ne 6, 3) := by decide +kernel
theorem dX5_freePlace_28 : decode cX5_freePlace 28 = .ok (.aload 4, 2) := by decide +kernel
theorem dX5_freePlace_30 : decode cX5_freePlace 30 = .ok (.areturn, 1) := by decide +kernel
theorem dX5_freePlace_31 : decode cX5_freePlace 31 = .ok (.iinc 3 1, 3) := by decide +kernel
theorem dX5_freePlace_34 : decode cX5_freePlace 34 = .ok (.goto (-24), 3) := by decide +kernel
theorem dX5_freePlace_37 : decode cX5_freePlace 37 = .ok (.aconst_null, 1) := by decide +kernel
theorem dX5_freePlace_38 : decode cX5_freePlace 38 = .ok (.areturn, 1) := by decide +kernel
theorem dX5_standingWith_0 : decode cX5_standingWith 0 = .ok (.aload_n 0, 1) := by decide +kernel
theorem dX5_standingWith_1 : decode cX5_standingWith 1 = .ok (.getfield 35, 3) := by decide +kernel
theorem dX5_standingWith_4 : decode cX5_standingWith 4 = .ok (.astore_n 2, 1) := by decide +kernel
theorem dX5_standingWith_5 : decode cX5_standingWith 5 = .ok (.aload_n 2, 1) := by decide +kernel
theorem dX5_standingWith_6 : decode cX5_standingWith 6 = .ok (.arraylength, 1) := by decide +kernel
theorem dX5_standingWith_7 : decode cX5_standingWith 7 = .ok (.istore_n 3, 1) := by decide +kernel
theorem dX5_standingWith_8 : decode cX5_standingWith 8 = .ok (.iconst 0, 1) := by decide +kernel
theorem dX5_standingWith_9 : decode cX5_standingWith 9 = .ok (.istore 4, 2) := by decide +kernel
theorem dX5_standingWith_11 : decode cX5_standingWith 11 = .ok (.iload 4, 2) := by decide +kernel
theorem dX5_standingWith_13 : decode cX5_standingWith 13 = .ok (.iload_n 3, 1) := by decide +kernel
theorem dX5_standingWith_14 : decode cX5_standingWith 14 = .ok (.if_icmp .ge 35, 3) := by decide +kernel
theorem dX5_standingWith_17 : decode cX5_standingWith 17 = .ok (.aload_n 2, 1) := by decide +kernel
theorem dX5_standingWith_18 : decode cX5_standingWith 18 = .ok (.iload 4, 2) := by decide +kernel
theorem dX5_standingWith_20 : decode cX5_standingWith 20 = .ok (.aaload, 1) := by decide +kernel
theorem dX5_standingWith_21 : decode cX5_standingWith 21 = .ok (.astore 5, 2) := by decide +kernel
theorem dX5_standingWith_23 : decode cX5_standingWith 23 = .ok (.aload 5, 2) := by decide +kernel
theorem dX5_standingWith_25 : decode cX5_standingWith 25 = .ok (.getfield 154, 3) := by decide +kernel
theorem dX5_standingWith_28 : decode cX5_standingWith 28 = .ok (.ifCond .le 15, 3) := by decide +kernel
theorem dX5_standingWith_31 : decode cX5_standingWith 31 = .ok (.aload 5, 2) := by decide +kernel
theorem dX5_standingWith_33 : decode cX5_standingWith 33 = .ok (.getfield 188, 3) := by decide +kernel
theorem dX5_standingWith_36 : decode cX5_standingWith 36 = .ok (.iload_n 1, 1) := by decide +kernel
theorem dX5_standingWith_37 : decode cX5_standingWith 37 = .ok (.if_icmp .ne 6, 3) := by decide +kernel
theorem dX5_standingWith_40 : decode cX5_standingWith 40 = .ok (.aload 5, 2) := by decide +kernel
theorem dX5_standingWith_42 : decode cX5_standingWith 42 = .ok (.areturn, 1) := by decide +kernel
theorem dX5_standingWith_43 : decode cX5_standingWith 43 = .ok (.iinc 4 1, 3) := by decide +kernel
theorem dX5_standingWith_46 : decode cX5_standingWith 46 = .ok (.goto (-35), 3) := by decide +kernel
theorem dX5_standingWith_49 : decode cX5_standingWith 49 = .ok (.aconst_null, 1) := by decide +kernel
theorem dX5_standingWith_50 : decode cX5_standingWith 50 = .ok (.areturn, 1) := by decide +kernel
theorem dX5_bestOf_0 : decode cX5_bestOf 0 = .ok (.aconst_null, 1) := by decide +kernel
theorem dX5_bestOf_1 : decode cX5_bestOf 1 = .ok (.astore_n 2, 1) := by decide +kernel
theorem dX5_bestOf_2 : decode cX5_bestOf 2 = .ok (.aload_n 0, 1) := by decide +kernel
theorem dX5_bestOf_3 : decode cX5_bestOf 3 = .ok (.getfield 35, 3) := by decide +kernel
theorem dX5_bestOf_6 : decode cX5_bestOf 6 = .ok (.astore_n 3, 1) := by decide +kernel
theorem dX5_bestOf_7 : decode cX5_bestOf 7 = .ok (.aload_n 3, 1) := by decide +kernel
theorem dX5_bestOf_8 : decode cX5_bestOf 8 = .ok (.arraylength, 1) := by decide +kernel
theorem dX5_bestOf_9 : decode cX5_bestOf 9 = .ok (.istore 4, 2) := by decide +kernel
theorem dX5_bestOf_11 : decode cX5_bestOf 11 = .ok (.iconst 0, 1) := by decide +kernel
theorem dX5_bestOf_12 : decode cX5_bestOf 12 = .ok (.istore 5, 2) := by decide +kernel
theorem dX5_bestOf_14 : decode cX5_bestOf 14 = .ok (.iload 5, 2) := by decide +kernel
theorem dX5_bestOf_16 : decode cX5_bestOf 16 = .ok (.iload 4, 2) := by decide +kernel
theorem dX5_bestOf_18 : decode cX5_bestOf 18 = .ok (.if_icmp .ge 40, 3) := by decide +kernel
theorem dX5_bestOf_21 : decode cX5_bestOf 21 = .ok (.aload_n 3, 1) := by decide +kernel
theorem dX5_bestOf_22 : decode cX5_bestOf 22 = .ok (.iload 5, 2) := by decide +kernel
theorem dX5_bestOf_24 : decode cX5_bestOf 24 = .ok (.aaload, 1) := by decide +kernel
theorem dX5_bestOf_25 : decode cX5_bestOf 25 = .ok (.astore 6, 2) := by decide +kernel
theorem dX5_bestOf_27 : decode cX5_bestOf 27 = .ok (.aload 6, 2) := by decide +kernel
theorem dX5_bestOf_29 : decode cX5_bestOf 29 = .ok (.iload_n 1, 1) := by decide +kernel
theorem dX5_bestOf_30 : decode cX5_bestOf 30 = .ok (.invokevirtual 191, 3) := by decide +kernel
theorem dX5_bestOf_33 : decode cX5_bestOf 33 = .ok (.ifCond .eq 19, 3) := by decide +kernel
theorem dX5_bestOf_36 : decode cX5_bestOf 36 = .ok (.aload_n 2, 1) := by decide +kernel
theorem dX5_bestOf_37 : decode cX5_bestOf 37 = .ok (.ifnull 12, 3) := by decide +kernel
theorem dX5_bestOf_40 : decode cX5_bestOf 40 = .ok (.aload 6, 2) := by decide +kernel
theorem dX5_bestOf_42 : decode cX5_bestOf 42 = .ok (.aload_n 2, 1) := by decide +kernel
theorem dX5_bestOf_43 : decode cX5_bestOf 43 = .ok (.invokevirtual 195, 3) := by decide +kernel
theorem dX5_bestOf_46 : decode cX5_bestOf 46 = .ok (.ifCond .eq 6, 3) := by decide +kernel
theorem dX5_bestOf_49 : decode cX5_bestOf 49 = .ok (.aload 6, 2) := by decide +kernel
theorem dX5_bestOf_51 : decode cX5_bestOf 51 = .ok (.astore_n 2, 1) := by decide +kernel
theorem dX5_bestOf_52 : decode cX5_bestOf 52 = .ok (.iinc 5 1, 3) := by decide +kernel
theorem dX5_bestOf_55 : decode cX5_bestOf 55 = .ok (.goto (-41), 3) := by decide +kernel
theorem dX5_bestOf_58 : decode cX5_bestOf 58 = .ok (.aload_n 2, 1) := by decide +kernel
theorem dX5_bestOf_59 : decode cX5_bestOf 59 = .ok (.areturn, 1) := by decide +kernel
theorem dX5_ranked_0 : decode cX5_ranked 0 = .ok (.aload_n 0, 1) := by decide +kernel
theorem dX5_ranked_1 : decode cX5_ranked 1 = .ok (.getfield 35, 3) := by decide +kernel
theorem dX5_ranked_4 : decode cX5_ranked 4 = .ok (.astore_n 3, 1) := by decide +kernel
theorem dX5_ranked_5 : decode cX5_ranked 5 = .ok (.aload_n 3, 1) := by decide +kernel
theorem dX5_ranked_6 : decode cX5_ranked 6 = .ok (.arraylength, 1) := by decide +kernel
theorem dX5_ranked_7 : decode cX5_ranked 7 = .ok (.istore 4, 2) := by decide +kernel
theorem dX5_ranked_9 : decode cX5_ranked 9 = .ok (.iconst 0, 1) := by decide +kernel
theorem dX5_ranked_10 : decode cX5_ranked 10 = .ok (.istore 5, 2) := by decide +kernel
theorem dX5_ranked_12 : decode cX5_ranked 12 = .ok (.iload 5, 2) := by decide +kernel
theorem dX5_ranked_14 : decode cX5_ranked 14 = .ok (.iload 4, 2) := by decide +kernel
theorem dX5_ranked_16 : decode cX5_ranked 16 = .ok (.if_icmp .ge 37, 3) := by decide +kernel
theorem dX5_ranked_19 : decode cX5_ranked 19 = .ok (.aload_n 3, 1) := by decide +kernel
theorem dX5_ranked_20 : decode cX5_ranked 20 = .ok (.iload 5, 2) := by decide +kernel
theorem dX5_ranked_22 : decode cX5_ranked 22 = .ok (.aaload, 1) := by decide +kernel
theorem dX5_ranked_23 : decode cX5_ranked 23 = .ok (.astore 6, 2) := by decide +kernel
theorem dX5_ranked_25 : decode cX5_ranked 25 = .ok (.aload 6, 2) := by decide +kernel
theorem dX5_ranked_27 : decode cX5_ranked 27 = .ok (.iload_n 1, 1) := by decide +kernel
theorem dX5_ranked_28 : decode cX5_ranked 28 = .ok (.invokevirtual 191, 3) := by decide +kernel
theorem dX5_ranked_31 : decode cX5_ranked 31 = .ok (.ifCond .eq 16, 3) := by decide +kernel
theorem dX5_ranked_34 : decode cX5_ranked 34 = .ok (.aload_n 0, 1) := by decide +kernel
theorem dX5_ranked_35 : decode cX5_ranked 35 = .ok (.aload 6, 2) := by decide +kernel
theorem dX5_ranked_37 : decode cX5_ranked 37 = .ok (.invokevirtual 199, 3) := by decide +kernel
theorem dX5_ranked_40 : decode cX5_ranked 40 = .ok (.iload_n 2, 1) := by decide +kernel
theorem dX5_ranked_41 : decode cX5_ranked 41 = .ok (.if_icmp .ne 6, 3) := by decide +kernel
theorem dX5_ranked_44 : decode cX5_ranked 44 = .ok (.aload 6, 2) := by decide +kernel
theorem dX5_ranked_46 : decode cX5_ranked 46 = .ok (.areturn, 1) := by decide +kernel
theorem dX5_ranked_47 : decode cX5_ranked 47 = .ok (.iinc 5 1, 3) := by decide +kernel
theorem dX5_ranked_50 : decode cX5_ranked 50 = .ok (.goto (-38), 3) := by decide +kernel
theorem dX5_ranked_53 : decode cX5_ranked 53 = .ok (.aconst_null, 1) := by decide +kernel
theorem dX5_ranked_54 : decode cX5_ranked 54 = .ok (.areturn, 1) := by decide +kernel
theorem dX5_betterThan_0 : decode cX5_betterThan 0 = .ok (.iconst 0, 1) := by decide +kernel
theorem dX5_betterThan_1 : decode cX5_betterThan 1 = .ok (.istore_n 2, 1) := by decide +kernel
theorem dX5_betterThan_2 : decode cX5_betterThan 2 = .ok (.aload_n 0, 1) := by decide +kernel
theorem dX5_betterThan_3 : decode cX5_betterThan 3 = .ok (.getfield 35, 3) := by decide +kernel
theorem dX5_betterThan_6 : decode cX5_betterThan 6 = .ok (.astore_n 3, 1) := by decide +kernel
theorem dX5_betterThan_7 : decode cX5_betterThan 7 = .ok (.aload_n 3, 1) := by decide +kernel
theorem dX5_betterThan_8 : decode cX5_betterThan 8 = .ok (.arraylength, 1) := by decide +kernel
theorem dX5_betterThan_9 : decode cX5_betterThan 9 = .ok (.istore 4, 2) := by decide +kernel
theorem dX5_betterThan_11 : decode cX5_betterThan 11 = .ok (.iconst 0, 1) := by decide +kernel
theorem dX5_betterThan_12 : decode cX5_betterThan 12 = .ok (.istore 5, 2) := by decide +kernel
theorem dX5_betterThan_14 : decode cX5_betterThan 14 = .ok (.iload 5, 2) := by decide +kernel
theorem dX5_betterThan_16 : decode cX5_betterThan 16 = .ok (.iload 4, 2) := by decide +kernel
theorem dX5_betterThan_18 : decode cX5_betterThan 18 = .ok (.if_icmp .ge 39, 3) := by decide +kernel
theorem dX5_betterThan_21 : decode cX5_betterThan 21 = .ok (.aload_n 3, 1) := by decide +kernel
theorem dX5_betterThan_22 : decode cX5_betterThan 22 = .ok (.iload 5, 2) := by decide +kernel
theorem dX5_betterThan_24 : decode cX5_betterThan 24 = .ok (.aaload, 1) := by decide +kernel
theorem dX5_betterThan_25 : decode cX5_betterThan 25 = .ok (.astore 6, 2) := by decide +kernel
theorem dX5_betterThan_27 : decode cX5_betterThan 27 = .ok (.aload 6, 2) := by decide +kernel
theorem dX5_betterThan_29 : decode cX5_betterThan 29 = .ok (.aload_n 1, 1) := by decide +kernel
theorem dX5_betterThan_30 : decode cX5_betterThan 30 = .ok (.getfield 163, 3) := by decide +kernel
theorem dX5_betterThan_33 : decode cX5_betterThan 33 = .ok (.invokevirtual 191, 3) := by decide +kernel
theorem dX5_betterThan_36 : decode cX5_betterThan 36 = .ok (.ifCond .eq 15, 3) := by decide +kernel
theorem dX5_betterThan_39 : decode cX5_betterThan 39 = .ok (.aload 6, 2) := by decide +kernel
theorem dX5_betterThan_41 : decode cX5_betterThan 41 = .ok (.aload_n 1, 1) := by decide +kernel
theorem dX5_betterThan_42 : decode cX5_betterThan 42 = .ok (.invokevirtual 195, 3) := by decide +kernel
theorem dX5_betterThan_45 : decode cX5_betterThan 45 = .ok (.ifCond .eq 6, 3) := by decide +kernel
theorem dX5_betterThan_48 : decode cX5_betterThan 48 = .ok (.iinc 2 1, 3) := by decide +kernel
theorem dX5_betterThan_51 : decode cX5_betterThan 51 = .ok (.iinc 5 1, 3) := by decide +kernel
theorem dX5_betterThan_54 : decode cX5_betterThan 54 = .ok (.goto (-40), 3) := by decide +kernel
theorem dX5_betterThan_57 : decode cX5_betterThan 57 = .ok (.iload_n 2, 1) := by decide +kernel
theorem dX5_betterThan_58 : decode cX5_betterThan 58 = .ok (.ireturn, 1) := by decide +kernel
theorem dX5_standingCount_0 : decode cX5_standingCount 0 = .ok (.iconst 0, 1) := by decide +kernel
theorem dX5_standingCount_1 : decode cX5_standingCount 1 = .ok (.istore_n 1, 1) := by decide +kernel
theorem dX5_standingCount_2 : decode cX5_standingCount 2 = .ok (.aload_n 0, 1) := by decide +kernel
theorem dX5_standingCount_3 : decode cX5_standingCount 3 = .ok (.getfield 35, 3) := by decide +kernel
theorem dX5_standingCount_6 : decode cX5_standingCount 6 = .ok (.astore_n 2, 1) := by decide +kernel
theorem dX5_standingCount_7 : decode cX5_standingCount 7 = .ok (.aload_n 2, 1) := by decide +kernel
theorem dX5_standingCount_8 : decode cX5_standingCount 8 = .ok (.arraylength, 1) := by decide +kernel
theorem dX5_standingCount_9 : decode cX5_standingCount 9 = .ok (.istore_n 3, 1) := by decide +kernel
theorem dX5_standingCount_10 : decode cX5_standingCount 10 = .ok (.iconst 0, 1) := by decide +kernel
theorem dX5_standingCount_11 : decode cX5_standingCount 11 = .ok (.istore 4, 2) := by decide +kernel
theorem dX5_standingCount_13 : decode cX5_standingCount 13 = .ok (.iload 4, 2) := by decide +kernel
theorem dX5_standingCount_15 : decode cX5_standingCount 15 = .ok (.iload_n 3, 1) := by decide +kernel
theorem dX5_standingCount_16 : decode cX5_standingCount 16 = .ok (.if_icmp .ge 26, 3) := by decide +kernel
theorem dX5_standingCount_19 : decode cX5_standingCount 19 = .ok (.aload_n 2, 1) := by decide +kernel
theorem dX5_standingCount_20 : decode cX5_standingCount 20 = .ok (.iload 4, 2) := by decide +kernel
theorem dX5_standingCount_22 : decode cX5_standingCount 22 = .ok (.aaload, 1) := by decide +kernel
theorem dX5_standingCount_23 : decode cX5_standingCount 23 = .ok (.astore 5, 2) := by decide +kernel
theorem dX5_standingCount_25 : decode cX5_standingCount 25 = .ok (.aload 5, 2) := by decide +kernel
theorem dX5_standingCount_27 : decode cX5_standingCount 27 = .ok (.getfield 154, 3) := by decide +kernel
theorem dX5_standingCount_30 : decode cX5_standingCount 30 = .ok (.ifCond .le 6, 3) := by decide +kernel
theorem dX5_standingCount_33 : decode cX5_standingCount 33 = .ok (.iinc 1 1, 3) := by decide +kernel
theorem dX5_standingCount_36 : decode cX5_standingCount 36 = .ok (.iinc 4 1, 3) := by decide +kernel
theorem dX5_standingCount_39 : decode cX5_standingCount 39 = .ok (.goto (-26), 3) := by decide +kernel
theorem dX5_standingCount_42 : decode cX5_standingCount 42 = .ok (.iload_n 1, 1) := by decide +kernel
theorem dX5_standingCount_43 : decode cX5_standingCount 43 = .ok (.ireturn, 1) := by decide +kernel
theorem dX5_offeredBy_0 : decode cX5_offeredBy 0 = .ok (.iconst 0, 1) := by decide +kernel
theorem dX5_offeredBy_1 : decode cX5_offeredBy 1 = .ok (.istore_n 2, 1) := by decide +kernel
theorem dX5_offeredBy_2 : decode cX5_offeredBy 2 = .ok (.aload_n 0, 1) := by decide +kernel
theorem dX5_offeredBy_3 : decode cX5_offeredBy 3 = .ok (.getfield 35, 3) := by decide +kernel
theorem dX5_offeredBy_6 : decode cX5_offeredBy 6 = .ok (.astore_n 3, 1) := by decide +kernel
theorem dX5_offeredBy_7 : decode cX5_offeredBy 7 = .ok (.aload_n 3, 1) := by decide +kernel
theorem dX5_offeredBy_8 : decode cX5_offeredBy 8 = .ok (.arraylength, 1) := by decide +kernel
theorem dX5_offeredBy_9 : decode cX5_offeredBy 9 = .ok (.istore 4, 2) := by decide +kernel
theorem dX5_offeredBy_11 : decode cX5_offeredBy 11 = .ok (.iconst 0, 1) := by decide +kernel
theorem dX5_offeredBy_12 : decode cX5_offeredBy 12 = .ok (.istore 5, 2) := by decide +kernel
theorem dX5_offeredBy_14 : decode cX5_offeredBy 14 = .ok (.iload 5, 2) := by decide +kernel
theorem dX5_offeredBy_16 : decode cX5_offeredBy 16 = .ok (.iload 4, 2) := by decide +kernel
theorem dX5_offeredBy_18 : decode cX5_offeredBy 18 = .ok (.if_icmp .ge 35, 3) := by decide +kernel
theorem dX5_offeredBy_21 : decode cX5_offeredBy 21 = .ok (.aload_n 3, 1) := by decide +kernel
theorem dX5_offeredBy_22 : decode cX5_offeredBy 22 = .ok (.iload 5, 2) := by decide +kernel
theorem dX5_offeredBy_24 : decode cX5_offeredBy 24 = .ok (.aaload, 1) := by decide +kernel
theorem dX5_offeredBy_25 : decode cX5_offeredBy 25 = .ok (.astore 6, 2) := by decide +kernel
theorem dX5_offeredBy_27 : decode cX5_offeredBy 27 = .ok (.aload 6, 2) := by decide +kernel
theorem dX5_offeredBy_29 : decode cX5_offeredBy 29 = .ok (.getfield 182, 3) := by decide +kernel
theorem dX5_offeredBy_32 : decode cX5_offeredBy 32 = .ok (.iload_n 1, 1) := by decide +kernel
theorem dX5_offeredBy_33 : decode cX5_offeredBy 33 = .ok (.if_icmp .ne 14, 3) := by decide +kernel
theorem dX5_offeredBy_36 : decode cX5_offeredBy 36 = .ok (.iload_n 2, 1) := by decide +kernel
theorem dX5_offeredBy_37 : decode cX5_offeredBy 37 = .ok (.aload 6, 2) := by decide +kernel
theorem dX5_offeredBy_39 : decode cX5_offeredBy 39 = .ok (.getfield 144, 3) := by decide +kernel
theorem dX5_offeredBy_42 : decode cX5_offeredBy 42 = .ok (.getfield 111, 3) := by decide +kernel
theorem dX5_offeredBy_45 : decode cX5_offeredBy 45 = .ok (.iadd, 1) := by decide +kernel
theorem dX5_offeredBy_46 : decode cX5_offeredBy 46 = .ok (.istore_n 2, 1) := by decide +kernel
theorem dX5_offeredBy_47 : decode cX5_offeredBy 47 = .ok (.iinc 5 1, 3) := by decide +kernel
theorem dX5_offeredBy_50 : decode cX5_offeredBy 50 = .ok (.goto (-36), 3) := by decide +kernel
theorem dX5_offeredBy_53 : decode cX5_offeredBy 53 = .ok (.iload_n 2, 1) := by decide +kernel
theorem dX5_offeredBy_54 : decode cX5_offeredBy 54 = .ok (.ireturn, 1) := by decide +kernel
theorem dX5_heldBackBy_0 : decode cX5_heldBackBy 0 = .ok (.iconst 0, 1) := by decide +kernel
theorem dX5_heldBackBy_1 : decode cX5_heldBackBy 1 = .ok (.istore_n 2, 1) := by decide +kernel
theorem dX5_heldBackBy_2 : decode cX5_heldBackBy 2 = .ok (.aload_n 0, 1) := by decide +kernel
theorem dX5_heldBackBy_3 : decode cX5_heldBackBy 3 = .ok (.getfield 35, 3) := by decide +kernel
theorem dX5_heldBackBy_6 : decode cX5_heldBackBy 6 = .ok (.astore_n 3, 1) := by decide +kernel
theorem dX5_heldBackBy_7 : decode cX5_heldBackBy 7 = .ok (.aload_n 3, 1) := by decide +kernel
theorem dX5_heldBackBy_8 : decode cX5_heldBackBy 8 = .ok (.arraylength, 1) := by decide +kernel
theorem dX5_heldBackBy_9 : decode cX5_heldBackBy 9 = .ok (.istore 4, 2) := by decide +kernel
theorem dX5_heldBackBy_11 : decode cX5_heldBackBy 11 = .ok (.iconst 0, 1) := by decide +kernel
theorem dX5_heldBackBy_12 : decode cX5_heldBackBy 12 = .ok (.istore 5, 2) := by decide +kernel
theorem dX5_heldBackBy_14 : decode cX5_heldBackBy 14 = .ok (.iload 5, 2) := by decide +kernel
theorem dX5_heldBackBy_16 : decode cX5_heldBackBy 16 = .ok (.iload 4, 2) := by decide +kernel
theorem dX5_heldBackBy_18 : decode cX5_heldBackBy 18 = .ok (.if_icmp .ge 32, 3) := by decide +kernel
theorem dX5_heldBackBy_21 : decode cX5_heldBackBy 21 = .ok (.aload_n 3, 1) := by decide +kernel
theorem dX5_heldBackBy_22 : decode cX5_heldBackBy 22 = .ok (.iload 5, 2) := by decide +kernel
theorem dX5_heldBackBy_24 : decode cX5_heldBackBy 24 = .ok (.aaload, 1) := by decide +kernel
theorem dX5_heldBackBy_25 : decode cX5_heldBackBy 25 = .ok (.astore 6, 2) := by decide +kernel
theorem dX5_heldBackBy_27 : decode cX5_heldBackBy 27 = .ok (.aload 6, 2) := by decide +kernel
theorem dX5_heldBackBy_29 : decode cX5_heldBackBy 29 = .ok (.getfield 182, 3) := by decide +kernel
theorem dX5_heldBackBy_32 : decode cX5_heldBackBy 32 = .ok (.iload_n 1, 1) := by decide +kernel
theorem dX5_heldBackBy_33 : decode cX5_heldBackBy 33 = .ok (.if_icmp .ne 11, 3) := by decide +kernel
theorem dX5_heldBackBy_36 : decode cX5_heldBackBy 36 = .ok (.iload_n 2, 1) := by decide +kernel
theorem dX5_heldBackBy_37 : decode cX5_heldBackBy 37 = .ok (.aload 6, 2) := by decide +kernel
theorem dX5_heldBackBy_39 : decode cX5_heldBackBy 39 = .ok (.invokevirtual 185, 3) := by decide +kernel
theorem dX5_heldBackBy_42 : decode cX5_heldBackBy 42 = .ok (.iadd, 1) := by decide +kernel
theorem dX5_heldBackBy_43 : decode cX5_heldBackBy 43 = .ok (.istore_n 2, 1) := by decide +kernel
theorem dX5_heldBackBy_44 : decode cX5_heldBackBy 44 = .ok (.iinc 5 1, 3) := by decide +kernel
theorem dX5_heldBackBy_47 : decode cX5_heldBackBy 47 = .ok (.goto (-33), 3) := by decide +kernel
theorem dX5_heldBackBy_50 : decode cX5_heldBackBy 50 = .ok (.iload_n 2, 1) := by decide +kernel
theorem dX5_heldBackBy_51 : decode cX5_heldBackBy 51 = .ok (.ireturn, 1) := by decide +kernel
theorem dX5_allPermits_0 : decode cX5_allPermits 0 = .ok (.iconst 0, 1) := by decide +kernel
theorem dX5_allPermits_1 : decode cX5_allPermits 1 = .ok (.istore_n 1, 1) := by decide +kernel
theorem dX5_allPermits_2 : decode cX5_allPermits 2 = .ok (.iconst 0, 1) := by decide +kernel
theorem dX5_allPermits_3 : decode cX5_allPermits 3 = .ok (.istore_n 2, 1) := by decide +kernel
theorem dX5_allPermits_4 : decode cX5_allPermits 4 = .ok (.iload_n 2, 1) := by decide +kernel
theorem dX5_allPermits_5 : decode cX5_allPermits 5 = .ok (.aload_n 0, 1) := by decide +kernel
theorem dX5_allPermits_6 : decode cX5_allPermits 6 = .ok (.getfield 29, 3) := by decide +kernel
theorem dX5_allPermits_9 : decode cX5_allPermits 9 = .ok (.arraylength, 1) := by decide +kernel
theorem dX5_allPermits_10 : decode cX5_allPermits 10 = .ok (.if_icmp .ge 30, 3) := by decide +kernel
theorem dX5_allPermits_13 : decode cX5_allPermits 13 = .ok (.iload_n 1, 1) := by decide +kernel
theorem dX5_allPermits_14 : decode cX5_allPermits 14 = .ok (.aload_n 0, 1) := by decide +kernel
theorem dX5_allPermits_15 : decode cX5_allPermits 15 = .ok (.getfield 29, 3) := by decide +kernel
theorem dX5_allPermits_18 : decode cX5_allPermits 18 = .ok (.iload_n 2, 1) := by decide +kernel
theorem dX5_allPermits_19 : decode cX5_allPermits 19 = .ok (.aaload, 1) := by decide +kernel
theorem dX5_allPermits_20 : decode cX5_allPermits 20 = .ok (.getfield 87, 3) := by decide +kernel
theorem dX5_allPermits_23 : decode cX5_allPermits 23 = .ok (.getfield 111, 3) := by decide +kernel
theorem dX5_allPermits_26 : decode cX5_allPermits 26 = .ok (.aload_n 0, 1) := by decide +kernel
theorem dX5_allPermits_27 : decode cX5_allPermits 27 = .ok (.iload_n 2, 1) := by decide +kernel
theorem dX5_allPermits_28 : decode cX5_allPermits 28 = .ok (.invokevirtual 203, 3) := by decide +kernel
theorem dX5_allPermits_31 : decode cX5_allPermits 31 = .ok (.iadd, 1) := by decide +kernel
theorem dX5_allPermits_32 : decode cX5_allPermits 32 = .ok (.iadd, 1) := by decide +kernel
theorem dX5_allPermits_33 : decode cX5_allPermits 33 = .ok (.istore_n 1, 1) := by decide +kernel
theorem dX5_allPermits_34 : decode cX5_allPermits 34 = .ok (.iinc 2 1, 3) := by decide +kernel
theorem dX5_allPermits_37 : decode cX5_allPermits 37 = .ok (.goto (-33), 3) := by decide +kernel
theorem dX5_allPermits_40 : decode cX5_allPermits 40 = .ok (.iload_n 1, 1) := by decide +kernel
theorem dX5_allPermits_41 : decode cX5_allPermits 41 = .ok (.ireturn, 1) := by decide +kernel
theorem dX5_allCoins_0 : decode cX5_allCoins 0 = .ok (.iconst 0, 1) := by decide +kernel
theorem dX5_allCoins_1 : decode cX5_allCoins 1 = .ok (.istore_n 1, 1) := by decide +kernel
theorem dX5_allCoins_2 : decode cX5_allCoins 2 = .ok (.iconst 0, 1) := by decide +kernel
theorem dX5_allCoins_3 : decode cX5_allCoins 3 = .ok (.istore_n 2, 1) := by decide +kernel
theorem dX5_allCoins_4 : decode cX5_allCoins 4 = .ok (.iload_n 2, 1) := by decide +kernel
theorem dX5_allCoins_5 : decode cX5_allCoins 5 = .ok (.aload_n 0, 1) := by decide +kernel
theorem dX5_allCoins_6 : decode cX5_allCoins 6 = .ok (.getfield 29, 3) := by decide +kernel
theorem dX5_allCoins_9 : decode cX5_allCoins 9 = .ok (.arraylength, 1) := by decide +kernel
theorem dX5_allCoins_10 : decode cX5_allCoins 10 = .ok (.if_icmp .ge 27, 3) := by decide +kernel
theorem dX5_allCoins_13 : decode cX5_allCoins 13 = .ok (.iload_n 1, 1) := by decide +kernel
theorem dX5_allCoins_14 : decode cX5_allCoins 14 = .ok (.aload_n 0, 1) := by decide +kernel
theorem dX5_allCoins_15 : decode cX5_allCoins 15 = .ok (.getfield 29, 3) := by decide +kernel
theorem dX5_allCoins_18 : decode cX5_allCoins 18 = .ok (.iload_n 2, 1) := by decide +kernel
theorem dX5_allCoins_19 : decode cX5_allCoins 19 = .ok (.aaload, 1) := by decide +kernel
theorem dX5_allCoins_20 : decode cX5_allCoins 20 = .ok (.getfield 97, 3) := by decide +kernel
theorem dX5_allCoins_23 : decode cX5_allCoins 23 = .ok (.aload_n 0, 1) := by decide +kernel
theorem dX5_allCoins_24 : decode cX5_allCoins 24 = .ok (.iload_n 2, 1) := by decide +kernel
theorem dX5_allCoins_25 : decode cX5_allCoins 25 = .ok (.invokevirtual 206, 3) := by decide +kernel
theorem dX5_allCoins_28 : decode cX5_allCoins 28 = .ok (.iadd, 1) := by decide +kernel
theorem dX5_allCoins_29 : decode cX5_allCoins 29 = .ok (.iadd, 1) := by decide +kernel
theorem dX5_allCoins_30 : decode cX5_allCoins 30 = .ok (.istore_n 1, 1) := by decide +kernel
theorem dX5_allCoins_31 : decode cX5_allCoins 31 = .ok (.iinc 2 1, 3) := by decide +kernel
theorem dX5_allCoins_34 : decode cX5_allCoins 34 = .ok (.goto (-30), 3) := by decide +kernel
theorem dX5_allCoins_37 : decode cX5_allCoins 37 = .ok (.iload_n 1, 1) := by decide +kernel
theorem dX5_allCoins_38 : decode cX5_allCoins 38 = .ok (.ireturn, 1) := by decide +kernel
theorem dX6_init_0 : decode cX6_init 0 = .ok (.aload_n 0, 1) := by decide +kernel
theorem dX6_init_1 : decode cX6_init 1 = .ok (.invokespecial 3, 3) := by decide +kernel
theorem dX6_init_4 : decode cX6_init 4 = .ok (.aload_n 0, 1) := by decide +kernel
theorem dX6_init_5 : decode cX6_init 5 = .ok (.new 9, 3) := by decide +kernel
theorem dX6_init_8 : decode cX6_init 8 = .ok (.dup, 1) := by decide +kernel
theorem dX6_init_9 : decode cX6_init 9 = .ok (.invokespecial 11, 3) := by decide +kernel
theorem dX6_init_12 : decode cX6_init 12 = .ok (.putfield 12, 3) := by decide +kernel
theorem dX6_init_15 : decode cX6_init 15 = .ok (.aload_n 0, 1) := by decide +kernel
theorem dX6_init_16 : decode cX6_init 16 = .ok (.new 9, 3) := by decide +kernel
theorem dX6_init_19 : decode cX6_init 19 = .ok (.dup, 1) := by decide +kernel
theorem dX6_init_20 : decode cX6_init 20 = .ok (.invokespecial 11, 3) := by decide +kernel
theorem dX6_init_23 : decode cX6_init 23 = .ok (.putfield 16, 3) := by decide +kernel
theorem dX6_init_26 : decode cX6_init 26 = .ok (.aload_n 0, 1) := by decide +kernel
theorem dX6_init_27 : decode cX6_init 27 = .ok (.new 9, 3) := by decide +kernel
theorem dX6_init_30 : decode cX6_init 30 = .ok (.dup, 1) := by decide +kernel
theorem dX6_init_31 : decode cX6_init 31 = .ok (.invokespecial 11, 3) := by decide +kernel
theorem dX6_init_34 : decode cX6_init 34 = .ok (.putfield 19, 3) := by decide +kernel
theorem dX6_init_37 : decode cX6_init 37 = .ok (.aload_n 0, 1) := by decide +kernel
theorem dX6_init_38 : decode cX6_init 38 = .ok (.iconst 4, 1) := by decide +kernel
theorem dX6_init_39 : decode cX6_init 39 = .ok (.anewarray 9, 3) := by decide +kernel
theorem dX6_init_42 : decode cX6_init 42 = .ok (.putfield 22, 3) := by decide +kernel
theorem dX6_init_45 : decode cX6_init 45 = .ok (.iconst 0, 1) := by decide +kernel
theorem dX6_init_46 : decode cX6_init 46 = .ok (.istore_n 1, 1) := by decide +kernel
theorem dX6_init_47 : decode cX6_init 47 = .ok (.iload_n 1, 1) := by decide +kernel
theorem dX6_init_48 : decode cX6_init 48 = .ok (.aload_n 0, 1) := by decide +kernel
theorem dX6_init_49 : decode cX6_init 49 = .ok (.getfield 22, 3) := by decide +kernel
theorem dX6_init_52 : decode cX6_init 52 = .ok (.arraylength, 1) := by decide +kernel
theorem dX6_init_53 : decode cX6_init 53 = .ok (.if_icmp .ge 22, 3) := by decide +kernel
theorem dX6_init_56 : decode cX6_init 56 = .ok (.aload_n 0, 1) := by decide +kernel
theorem dX6_init_57 : decode cX6_init 57 = .ok (.getfield 22, 3) := by decide +kernel
theorem dX6_init_60 : decode cX6_init 60 = .ok (.iload_n 1, 1) := by decide +kernel
theorem dX6_init_61 : decode cX6_init 61 = .ok (.new 9, 3) := by decide +kernel
theorem dX6_init_64 : decode cX6_init 64 = .ok (.dup, 1) := by decide +kernel
theorem dX6_init_65 : decode cX6_init 65 = .ok (.invokespecial 11, 3) := by decide +kernel
theorem dX6_init_68 : decode cX6_init 68 = .ok (.aastore, 1) := by decide +kernel
theorem dX6_init_69 : decode cX6_init 69 = .ok (.iinc 1 1, 3) := by decide +kernel
theorem dX6_init_72 : decode cX6_init 72 = .ok (.goto (-25), 3) := by decide +kernel
theorem dX6_init_75 : decode cX6_init 75 = .ok (.aload_n 0, 1) := by decide +kernel
theorem dX6_init_76 : decode cX6_init 76 = .ok (.new 26, 3) := by decide +kernel
theorem dX6_init_79 : decode cX6_init 79 = .ok (.dup, 1) := by decide +kernel
theorem dX6_init_80 : decode cX6_init 80 = .ok (.invokespecial 28, 3) := by decide +kernel
theorem dX6_init_83 : decode cX6_init 83 = .ok (.putfield 29, 3) := by decide +kernel
theorem dX6_init_86 : decode cX6_init 86 = .ok (.return_, 1) := by decide +kernel
theorem dX6_issue_0 : decode cX6_issue 0 = .ok (.aload_n 0, 1) := by decide +kernel
theorem dX6_issue_1 : decode cX6_issue 1 = .ok (.getfield 12, 3) := by decide +kernel
theorem dX6_issue_4 : decode cX6_issue 4 = .ok (.iload_n 1, 1) := by decide +kernel
theorem dX6_issue_5 : decode cX6_issue 5 = .ok (.invokevirtual 33, 3) := by decide +kernel
theorem dX6_issue_8 : decode cX6_issue 8 = .ok (.astore_n 3, 1) := by decide +kernel
theorem dX6_issue_9 : decode cX6_issue 9 = .ok (.aload_n 3, 1) := by decide +kernel
theorem dX6_issue_10 : decode cX6_issue 10 = .ok (.ifnonnull 5, 3) := by decide +kernel
theorem dX6_issue_13 : decode cX6_issue 13 = .ok (.iconst (-1), 1) := by decide +kernel
theorem dX6_issue_14 : decode cX6_issue 14 = .ok (.ireturn, 1) := by decide +kernel
theorem dX6_issue_15 : decode cX6_issue 15 = .ok (.iload_n 2, 1) := by decide +kernel
theorem dX6_issue_16 : decode cX6_issue 16 = .ok (.iconst 1, 1) := by decide +kernel
theorem dX6_issue_17 : decode cX6_issue 17 = .ok (.sipush 999, 3) := by decide +kernel
theorem dX6_issue_20 : decode cX6_issue 20 = .ok (.invokestatic 37, 3) := by decide +kernel
theorem dX6_issue_23 : decode cX6_issue 23 = .ok (.ifCond .ne 6, 3) := by decide +kernel
theorem dX6_issue_26 : decode cX6_issue 26 = .ok (.bipush (-2), 2) := by decide +kernel
theorem dX6_issue_28 : decode cX6_issue 28 = .ok (.ireturn, 1) := by decide +kernel
theorem dX6_issue_29 : decode cX6_issue 29 = .ok (.aload_n 0, 1) := by decide +kernel
theorem dX6_issue_30 : decode cX6_issue 30 = .ok (.invokevirtual 41, 3) := by decide +kernel
theorem dX6_issue_33 : decode cX6_issue 33 = .ok (.aload_n 0, 1) := by decide +kernel
theorem dX6_issue_34 : decode cX6_issue 34 = .ok (.getfield 12, 3) := by decide +kernel
theorem dX6_issue_37 : decode cX6_issue 37 = .ok (.aload_n 3, 1) := by decide +kernel
theorem dX6_issue_38 : decode cX6_issue 38 = .ok (.iload_n 2, 1) := by decide +kernel
theorem dX6_issue_39 : decode cX6_issue 39 = .ok (.invokevirtual 44, 3) := by decide +kernel
theorem dX6_issue_42 : decode cX6_issue 42 = .ok (.ireturn, 1) := by decide +kernel
theorem dX6_fire_0 : decode cX6_fire 0 = .ok (.aload_n 0, 1) := by decide +kernel
theorem dX6_fire_1 : decode cX6_fire 1 = .ok (.getfield 12, 3) := by decide +kernel
theorem dX6_fire_4 : decode cX6_fire 4 = .ok (.iload_n 1, 1) := by decide +kernel
theorem dX6_fire_5 : decode cX6_fire 5 = .ok (.invokevirtual 33, 3) := by decide +kernel
theorem dX6_fire_8 : decode cX6_fire 8 = .ok (.astore 4, 2) := by decide +kernel
theorem dX6_fire_10 : decode cX6_fire 10 = .ok (.aload 4, 2) := by decide +kernel
theorem dX6_fire_12 : decode cX6_fire 12 = .ok (.ifnonnull 5, 3) := by decide +kernel
theorem dX6_fire_15 : decode cX6_fire 15 = .ok (.iconst (-1), 1) := by decide +kernel
theorem dX6_fire_16 : decode cX6_fire 16 = .ok (.ireturn, 1) := by decide +kernel
theorem dX6_fire_17 : decode cX6_fire 17 = .ok (.iload_n 2, 1) := by decide +kernel
theorem dX6_fire_18 : decode cX6_fire 18 = .ok (.iconst 1, 1) := by decide +kernel
theorem dX6_fire_19 : decode cX6_fire 19 = .ok (.sipush 999, 3) := by decide +kernel
theorem dX6_fire_22 : decode cX6_fire 22 = .ok (.invokestatic 37, 3) := by decide +kernel
theorem dX6_fire_25 : decode cX6_fire 25 = .ok (.ifCond .eq 12, 3) := by decide +kernel
theorem dX6_fire_28 : decode cX6_fire 28 = .ok (.iload_n 3, 1) := by decide +kernel
theorem dX6_fire_29 : decode cX6_fire 29 = .ok (.iconst 0, 1) := by decide +kernel
theorem dX6_fire_30 : decode cX6_fire 30 = .ok (.iload_n 2, 1) := by decide +kernel
theorem dX6_fire_31 : decode cX6_fire 31 = .ok (.invokestatic 37, 3) := by decide +kernel
theorem dX6_fire_34 : decode cX6_fire 34 = .ok (.ifCond .ne 6, 3) := by decide +kernel
theorem dX6_fire_37 : decode cX6_fire 37 = .ok (.bipush (-2), 2) := by decide +kernel
theorem dX6_fire_39 : decode cX6_fire 39 = .ok (.ireturn, 1) := by decide +kernel
theorem dX6_fire_40 : decode cX6_fire 40 = .ok (.aload_n 0, 1) := by decide +kernel
theorem dX6_fire_41 : decode cX6_fire 41 = .ok (.invokevirtual 41, 3) := by decide +kernel
theorem dX6_fire_44 : decode cX6_fire 44 = .ok (.aload 4, 2) := by decide +kernel
theorem dX6_fire_46 : decode cX6_fire 46 = .ok (.dup, 1) := by decide +kernel
theorem dX6_fire_47 : decode cX6_fire 47 = .ok (.getfield 48, 3) := by decide +kernel
theorem dX6_fire_50 : decode cX6_fire 50 = .ok (.iload_n 2, 1) := by decide +kernel
theorem dX6_fire_51 : decode cX6_fire 51 = .ok (.iadd, 1) := by decide +kernel
theorem dX6_fire_52 : decode cX6_fire 52 = .ok (.putfield 48, 3) := by decide +kernel
theorem dX6_fire_55 : decode cX6_fire 55 = .ok (.aload 4, 2) := by decide +kernel
theorem dX6_fire_57 : decode cX6_fire 57 = .ok (.dup, 1) := by decide +kernel
theorem dX6_fire_58 : decode cX6_fire 58 = .ok (.getfield 54, 3) := by decide +kernel
theorem dX6_fire_61 : decode cX6_fire 61 = .ok (.iload_n 3, 1) := by decide +kernel
theorem dX6_fire_62 : decode cX6_fire 62 = .ok (.iadd, 1) := by decide +kernel
theorem dX6_fire_63 : decode cX6_fire 63 = .ok (.putfield 54, 3) := by decide +kernel
theorem dX6_fire_66 : decode cX6_fire 66 = .ok (.aload 4, 2) := by decide +kernel
theorem dX6_fire_68 : decode cX6_fire 68 = .ok (.getfield 54, 3) := by decide +kernel
theorem dX6_fire_71 : decode cX6_fire 71 = .ok (.ireturn, 1) := by decide +kernel
theorem dX6_audit_0 : decode cX6_audit 0 = .ok (.aload_n 0, 1) := by decide +kernel
theorem dX6_audit_1 : decode cX6_audit 1 = .ok (.getfield 12, 3) := by decide +kernel
theorem dX6_audit_4 : decode cX6_audit 4 = .ok (.iload_n 1, 1) := by decide +kernel
theorem dX6_audit_5 : decode cX6_audit 5 = .ok (.invokevirtual 33, 3) := by decide +kernel
theorem dX6_audit_8 : decode cX6_audit 8 = .ok (.astore_n 2, 1) := by decide +kernel
theorem dX6_audit_9 : decode cX6_audit 9 = .ok (.aload_n 2, 1) := by decide +kernel
theorem dX6_audit_10 : decode cX6_audit 10 = .ok (.ifnonnull 5, 3) := by decide +kernel
theorem dX6_audit_13 : decode cX6_audit 13 = .ok (.iconst (-1), 1) := by decide +kernel
theorem dX6_audit_14 : decode cX6_audit 14 = .ok (.ireturn, 1) := by decide +kernel
theorem dX6_audit_15 : decode cX6_audit 15 = .ok (.aload_n 2, 1) := by decide +kernel
theorem dX6_audit_16 : decode cX6_audit 16 = .ok (.getfield 48, 3) := by decide +kernel
theorem dX6_audit_19 : decode cX6_audit 19 = .ok (.aload_n 2, 1) := by decide +kernel
theorem dX6_audit_20 : decode cX6_audit 20 = .ok (.getfield 54, 3) := by decide +kernel
theorem dX6_audit_23 : decode cX6_audit 23 = .ok (.isub, 1) := by decide +kernel
theorem dX6_audit_24 : decode cX6_audit 24 = .ok (.istore_n 3, 1) := by decide +kernel
theorem dX6_audit_25 : decode cX6_audit 25 = .ok (.iload_n 3, 1) := by decide +kernel
theorem dX6_audit_26 : decode cX6_audit 26 = .ok (.ifCond .ne 6, 3) := by decide +kernel
theorem dX6_audit_29 : decode cX6_audit 29 = .ok (.bipush (-5), 2) := by decide +kernel
theorem dX6_audit_31 : decode cX6_audit 31 = .ok (.ireturn, 1) := by decide +kernel
theorem dX6_audit_32 : decode cX6_audit 32 = .ok (.aload_n 0, 1) := by decide +kernel
theorem dX6_audit_33 : decode cX6_audit 33 = .ok (.invokevirtual 41, 3) := by decide +kernel
theorem dX6_audit_36 : decode cX6_audit 36 = .ok (.aload_n 2, 1) := by decide +kernel
theorem dX6_audit_37 : decode cX6_audit 37 = .ok (.dup, 1) := by decide +kernel
theorem dX6_audit_38 : decode cX6_audit 38 = .ok (.getfield 54, 3) := by decide +kernel
theorem dX6_audit_41 : decode cX6_audit 41 = .ok (.iload_n 3, 1) := by decide +kernel
theorem dX6_audit_42 : decode cX6_audit 42 = .ok (.iadd, 1) := by decide +kernel
theorem dX6_audit_43 : decode cX6_audit 43 = .ok (.putfield 54, 3) := by decide +kernel
theorem dX6_audit_46 : decode cX6_audit 46 = .ok (.aload_n 2, 1) := by decide +kernel
theorem dX6_audit_47 : decode cX6_audit 47 = .ok (.dup, 1) := by decide +kernel
theorem dX6_audit_48 : decode cX6_audit 48 = .ok (.getfield 57, 3) := by decide +kernel
theorem dX6_audit_51 : decode cX6_audit 51 = .ok (.iload_n 3, 1) := by decide +kernel
theorem dX6_audit_52 : decode cX6_audit 52 = .ok (.aload_n 0, 1) := by decide +kernel
theorem dX6_audit_53 : decode cX6_audit 53 = .ok (.getfield 12, 3) := by decide +kernel
theorem dX6_audit_56 : decode cX6_audit 56 = .ok (.getfield 60, 3) := by decide +kernel
theorem dX6_audit_59 : decode cX6_audit 59 = .ok (.iconst 4, 1) := by decide +kernel
theorem dX6_audit_60 : decode cX6_audit 60 = .ok (.iaload, 1) := by decide +kernel
theorem dX6_audit_61 : decode cX6_audit 61 = .ok (.imul, 1) := by decide +kernel
theorem dX6_audit_62 : decode cX6_audit 62 = .ok (.iadd, 1) := by decide +kernel
