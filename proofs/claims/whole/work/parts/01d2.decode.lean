theorem dX5_standingCount_39 : decode cX5_standingCount 39 = .ok (.goto (-26), 3) := by decide +kernel
theorem dX5_standingCount_42 : decode cX5_standingCount 42 = .ok (.iload_n 1, 1) := by decide +kernel
theorem dX5_standingCount_43 : decode cX5_standingCount 43 = .ok (.ireturn, 1) := by decide +kernel
theorem dX5_offeredBy_0 : decode cX5_offeredBy 0 = .ok (.iconst 0, 1) := by decide +kernel
theorem dX5_offeredBy_1 : decode cX5_offeredBy 1 = .ok (.istore_n 2, 1) := by decide +kernel
theorem dX5_offeredBy_2 : decode cX5_offeredBy 2 = .ok (.aload_n 0, 1) := by decide +kernel
theorem dX5_offeredBy_3 : decode cX5_offeredBy 3 = .ok (.getfield 35, 3) := by decide +kernel
theorem dX5_offeredBy_6 : decode cX5_offeredBy 6 = .ok (.astore_n 3, 1) := by decide +kernel
theorem dX5_offeredBy_7 : decode cX5_offeredBy 7 = .ok (.aload_n 3, 1) := by decide +kernel
theorem dX5_offeredBy_8 : decode cX5_offeredBy 8 = .ok (.arraylength, 1) := by decide +kernel
theorem dX5_offeredBy_9 : decode cX5_offeredBy 9 = .ok (.istore 4, 2) := by decide +kernel
theorem dX5_offeredBy_11 : decode cX5_offeredBy 11 = .ok (.iconst 0, 1) := by decide +kernel
theorem dX5_offeredBy_12 : decode cX5_offeredBy 12 = .ok (.istore 5, 2) := by decide +kernel
theorem dX5_offeredBy_14 : decode cX5_offeredBy 14 = .ok (.iload 5, 2) := by decide +kernel
theorem dX5_offeredBy_16 : decode cX5_offeredBy 16 = .ok (.iload 4, 2) := by decide +kernel
theorem dX5_offeredBy_18 : decode cX5_offeredBy 18 = .ok (.if_icmp .ge 35, 3) := by decide +kernel
theorem dX5_offeredBy_21 : decode cX5_offeredBy 21 = .ok (.aload_n 3, 1) := by decide +kernel
theorem dX5_offeredBy_22 : decode cX5_offeredBy 22 = .ok (.iload 5, 2) := by decide +kernel
theorem dX5_offeredBy_24 : decode cX5_offeredBy 24 = .ok (.aaload, 1) := by decide +kernel
theorem dX5_offeredBy_25 : decode cX5_offeredBy 25 = .ok (.astore 6, 2) := by decide +kernel
theorem dX5_offeredBy_27 : decode cX5_offeredBy 27 = .ok (.aload 6, 2) := by decide +kernel
theorem dX5_offeredBy_29 : decode cX5_offeredBy 29 = .ok (.getfield 182, 3) := by decide +kernel
theorem dX5_offeredBy_32 : decode cX5_offeredBy 32 = .ok (.iload_n 1, 1) := by decide +kernel
theorem dX5_offeredBy_33 : decode cX5_offeredBy 33 = .ok (.if_icmp .ne 14, 3) := by decide +kernel
theorem dX5_offeredBy_36 : decode cX5_offeredBy 36 = .ok (.iload_n 2, 1) := by decide +kernel
theorem dX5_offeredBy_37 : decode cX5_offeredBy 37 = .ok (.aload 6, 2) := by decide +kernel
theorem dX5_offeredBy_39 : decode cX5_offeredBy 39 = .ok (.getfield 144, 3) := by decide +kernel
theorem dX5_offeredBy_42 : decode cX5_offeredBy 42 = .ok (.getfield 111, 3) := by decide +kernel
theorem dX5_offeredBy_45 : decode cX5_offeredBy 45 = .ok (.iadd, 1) := by decide +kernel
theorem dX5_offeredBy_46 : decode cX5_offeredBy 46 = .ok (.istore_n 2, 1) := by decide +kernel
theorem dX5_offeredBy_47 : decode cX5_offeredBy 47 = .ok (.iinc 5 1, 3) := by decide +kernel
theorem dX5_offeredBy_50 : decode cX5_offeredBy 50 = .ok (.goto (-36), 3) := by decide +kernel
theorem dX5_offeredBy_53 : decode cX5_offeredBy 53 = .ok (.iload_n 2, 1) := by decide +kernel
theorem dX5_offeredBy_54 : decode cX5_offeredBy 54 = .ok (.ireturn, 1) := by decide +kernel
theorem dX5_heldBackBy_0 : decode cX5_heldBackBy 0 = .ok (.iconst 0, 1) := by decide +kernel
theorem dX5_heldBackBy_1 : decode cX5_heldBackBy 1 = .ok (.istore_n 2, 1) := by decide +kernel
theorem dX5_heldBackBy_2 : decode cX5_heldBackBy 2 = .ok (.aload_n 0, 1) := by decide +kernel
theorem dX5_heldBackBy_3 : decode cX5_heldBackBy 3 = .ok (.getfield 35, 3) := by decide +kernel
theorem dX5_heldBackBy_6 : decode cX5_heldBackBy 6 = .ok (.astore_n 3, 1) := by decide +kernel
theorem dX5_heldBackBy_7 : decode cX5_heldBackBy 7 = .ok (.aload_n 3, 1) := by decide +kernel
theorem dX5_heldBackBy_8 : decode cX5_heldBackBy 8 = .ok (.arraylength, 1) := by decide +kernel
theorem dX5_heldBackBy_9 : decode cX5_heldBackBy 9 = .ok (.istore 4, 2) := by decide +kernel
theorem dX5_heldBackBy_11 : decode cX5_heldBackBy 11 = .ok (.iconst 0, 1) := by decide +kernel
theorem dX5_heldBackBy_12 : decode cX5_heldBackBy 12 = .ok (.istore 5, 2) := by decide +kernel
theorem dX5_heldBackBy_14 : decode cX5_heldBackBy 14 = .ok (.iload 5, 2) := by decide +kernel
theorem dX5_heldBackBy_16 : decode cX5_heldBackBy 16 = .ok (.iload 4, 2) := by decide +kernel
theorem dX5_heldBackBy_18 : decode cX5_heldBackBy 18 = .ok (.if_icmp .ge 32, 3) := by decide +kernel
theorem dX5_heldBackBy_21 : decode cX5_heldBackBy 21 = .ok (.aload_n 3, 1) := by decide +kernel
theorem dX5_heldBackBy_22 : decode cX5_heldBackBy 22 = .ok (.iload 5, 2) := by decide +kernel
theorem dX5_heldBackBy_24 : decode cX5_heldBackBy 24 = .ok (.aaload, 1) := by decide +kernel
theorem dX5_heldBackBy_25 : decode cX5_heldBackBy 25 = .ok (.astore 6, 2) := by decide +kernel
theorem dX5_heldBackBy_27 : decode cX5_heldBackBy 27 = .ok (.aload 6, 2) := by decide +kernel
theorem dX5_heldBackBy_29 : decode cX5_heldBackBy 29 = .ok (.getfield 182, 3) := by decide +kernel
theorem dX5_heldBackBy_32 : decode cX5_heldBackBy 32 = .ok (.iload_n 1, 1) := by decide +kernel
theorem dX5_heldBackBy_33 : decode cX5_heldBackBy 33 = .ok (.if_icmp .ne 11, 3) := by decide +kernel
theorem dX5_heldBackBy_36 : decode cX5_heldBackBy 36 = .ok (.iload_n 2, 1) := by decide +kernel
theorem dX5_heldBackBy_37 : decode cX5_heldBackBy 37 = .ok (.aload 6, 2) := by decide +kernel
theorem dX5_heldBackBy_39 : decode cX5_heldBackBy 39 = .ok (.invokevirtual 185, 3) := by decide +kernel
theorem dX5_heldBackBy_42 : decode cX5_heldBackBy 42 = .ok (.iadd, 1) := by decide +kernel
theorem dX5_heldBackBy_43 : decode cX5_heldBackBy 43 = .ok (.istore_n 2, 1) := by decide +kernel
theorem dX5_heldBackBy_44 : decode cX5_heldBackBy 44 = .ok (.iinc 5 1, 3) := by decide +kernel
theorem dX5_heldBackBy_47 : decode cX5_heldBackBy 47 = .ok (.goto (-33), 3) := by decide +kernel
theorem dX5_heldBackBy_50 : decode cX5_heldBackBy 50 = .ok (.iload_n 2, 1) := by decide +kernel
theorem dX5_heldBackBy_51 : decode cX5_heldBackBy 51 = .ok (.ireturn, 1) := by decide +kernel
theorem dX5_allPermits_0 : decode cX5_allPermits 0 = .ok (.iconst 0, 1) := by decide +kernel
theorem dX5_allPermits_1 : decode cX5_allPermits 1 = .ok (.istore_n 1, 1) := by decide +kernel
theorem dX5_allPermits_2 : decode cX5_allPermits 2 = .ok (.iconst 0, 1) := by decide +kernel
theorem dX5_allPermits_3 : decode cX5_allPermits 3 = .ok (.istore_n 2, 1) := by decide +kernel
theorem dX5_allPermits_4 : decode cX5_allPermits 4 = .ok (.iload_n 2, 1) := by decide +kernel
theorem dX5_allPermits_5 : decode cX5_allPermits 5 = .ok (.aload_n 0, 1) := by decide +kernel
theorem dX5_allPermits_6 : decode cX5_allPermits 6 = .ok (.getfield 29, 3) := by decide +kernel
theorem dX5_allPermits_9 : decode cX5_allPermits 9 = .ok (.arraylength, 1) := by decide +kernel
theorem dX5_allPermits_10 : decode cX5_allPermits 10 = .ok (.if_icmp .ge 30, 3) := by decide +kernel
theorem dX5_allPermits_13 : decode cX5_allPermits 13 = .ok (.iload_n 1, 1) := by decide +kernel
theorem dX5_allPermits_14 : decode cX5_allPermits 14 = .ok (.aload_n 0, 1) := by decide +kernel
theorem dX5_allPermits_15 : decode cX5_allPermits 15 = .ok (.getfield 29, 3) := by decide +kernel
theorem dX5_allPermits_18 : decode cX5_allPermits 18 = .ok (.iload_n 2, 1) := by decide +kernel
theorem dX5_allPermits_19 : decode cX5_allPermits 19 = .ok (.aaload, 1) := by decide +kernel
theorem dX5_allPermits_20 : decode cX5_allPermits 20 = .ok (.getfield 87, 3) := by decide +kernel
theorem dX5_allPermits_23 : decode cX5_allPermits 23 = .ok (.getfield 111, 3) := by decide +kernel
theorem dX5_allPermits_26 : decode cX5_allPermits 26 = .ok (.aload_n 0, 1) := by decide +kernel
theorem dX5_allPermits_27 : decode cX5_allPermits 27 = .ok (.iload_n 2, 1) := by decide +kernel
theorem dX5_allPermits_28 : decode cX5_allPermits 28 = .ok (.invokevirtual 203, 3) := by decide +kernel
theorem dX5_allPermits_31 : decode cX5_allPermits 31 = .ok (.iadd, 1) := by decide +kernel
theorem dX5_allPermits_32 : decode cX5_allPermits 32 = .ok (.iadd, 1) := by decide +kernel
theorem dX5_allPermits_33 : decode cX5_allPermits 33 = .ok (.istore_n 1, 1) := by decide +kernel
theorem dX5_allPermits_34 : decode cX5_allPermits 34 = .ok (.iinc 2 1, 3) := by decide +kernel
theorem dX5_allPermits_37 : decode cX5_allPermits 37 = .ok (.goto (-33), 3) := by decide +kernel
theorem dX5_allPermits_40 : decode cX5_allPermits 40 = .ok (.iload_n 1, 1) := by decide +kernel
theorem dX5_allPermits_41 : decode cX5_allPermits 41 = .ok (.ireturn, 1) := by decide +kernel
theorem dX5_allCoins_0 : decode cX5_allCoins 0 = .ok (.iconst 0, 1) := by decide +kernel
theorem dX5_allCoins_1 : decode cX5_allCoins 1 = .ok (.istore_n 1, 1) := by decide +kernel
theorem dX5_allCoins_2 : decode cX5_allCoins 2 = .ok (.iconst 0, 1) := by decide +kernel
theorem dX5_allCoins_3 : decode cX5_allCoins 3 = .ok (.istore_n 2, 1) := by decide +kernel
theorem dX5_allCoins_4 : decode cX5_allCoins 4 = .ok (.iload_n 2, 1) := by decide +kernel
theorem dX5_allCoins_5 : decode cX5_allCoins 5 = .ok (.aload_n 0, 1) := by decide +kernel
theorem dX5_allCoins_6 : decode cX5_allCoins 6 = .ok (.getfield 29, 3) := by decide +kernel
theorem dX5_allCoins_9 : decode cX5_allCoins 9 = .ok (.arraylength, 1) := by decide +kernel
theorem dX5_allCoins_10 : decode cX5_allCoins 10 = .ok (.if_icmp .ge 27, 3) := by decide +kernel
theorem dX5_allCoins_13 : decode cX5_allCoins 13 = .ok (.iload_n 1, 1) := by decide +kernel
theorem dX5_allCoins_14 : decode cX5_allCoins 14 = .ok (.aload_n 0, 1) := by decide +kernel
theorem dX5_allCoins_15 : decode cX5_allCoins 15 = .ok (.getfield 29, 3) := by decide +kernel
theorem dX5_allCoins_18 : decode cX5_allCoins 18 = .ok (.iload_n 2, 1) := by decide +kernel
theorem dX5_allCoins_19 : decode cX5_allCoins 19 = .ok (.aaload, 1) := by decide +kernel
theorem dX5_allCoins_20 : decode cX5_allCoins 20 = .ok (.getfield 97, 3) := by decide +kernel
theorem dX5_allCoins_23 : decode cX5_allCoins 23 = .ok (.aload_n 0, 1) := by decide +kernel
theorem dX5_allCoins_24 : decode cX5_allCoins 24 = .ok (.iload_n 2, 1) := by decide +kernel
theorem dX5_allCoins_25 : decode cX5_allCoins 25 = .ok (.invokevirtual 206, 3) := by decide +kernel
theorem dX5_allCoins_28 : decode cX5_allCoins 28 = .ok (.iadd, 1) := by decide +kernel
theorem dX5_allCoins_29 : decode cX5_allCoins 29 = .ok (.iadd, 1) := by decide +kernel
theorem dX5_allCoins_30 : decode cX5_allCoins 30 = .ok (.istore_n 1, 1) := by decide +kernel
theorem dX5_allCoins_31 : decode cX5_allCoins 31 = .ok (.iinc 2 1, 3) := by decide +kernel
theorem dX5_allCoins_34 : decode cX5_allCoins 34 = .ok (.goto (-30), 3) := by decide +kernel
theorem dX5_allCoins_37 : decode cX5_allCoins 37 = .ok (.iload_n 1, 1) := by decide +kernel
theorem dX5_allCoins_38 : decode cX5_allCoins 38 = .ok (.ireturn, 1) := by decide +kernel
theorem dX6_init_0 : decode cX6_init 0 = .ok (.aload_n 0, 1) := by decide +kernel
theorem dX6_init_1 : decode cX6_init 1 = .ok (.invokespecial 3, 3) := by decide +kernel
theorem dX6_init_4 : decode cX6_init 4 = .ok (.aload_n 0, 1) := by decide +kernel
theorem dX6_init_5 : decode cX6_init 5 = .ok (.new 9, 3) := by decide +kernel
theorem dX6_init_8 : decode cX6_init 8 = .ok (.dup, 1) := by decide +kernel
theorem dX6_init_9 : decode cX6_init 9 = .ok (.invokespecial 11, 3) := by decide +kernel
theorem dX6_init_12 : decode cX6_init 12 = .ok (.putfield 12, 3) := by decide +kernel
theorem dX6_init_15 : decode cX6_init 15 = .ok (.aload_n 0, 1) := by decide +kernel
theorem dX6_init_16 : decode cX6_init 16 = .ok (.new 9, 3) := by decide +kernel
theorem dX6_init_19 : decode cX6_init 19 = .ok (.dup, 1) := by decide +kernel
theorem dX6_init_20 : decode cX6_init 20 = .ok (.invokespecial 11, 3) := by decide +kernel
theorem dX6_init_23 : decode cX6_init 23 = .ok (.putfield 16, 3) := by decide +kernel
theorem dX6_init_26 : decode cX6_init 26 = .ok (.aload_n 0, 1) := by decide +kernel
theorem dX6_init_27 : decode cX6_init 27 = .ok (.new 9, 3) := by decide +kernel
theorem dX6_init_30 : decode cX6_init 30 = .ok (.dup, 1) := by decide +kernel
theorem dX6_init_31 : decode cX6_init 31 = .ok (.invokespecial 11, 3) := by decide +kernel
theorem dX6_init_34 : decode cX6_init 34 = .ok (.putfield 19, 3) := by decide +kernel
theorem dX6_init_37 : decode cX6_init 37 = .ok (.aload_n 0, 1) := by decide +kernel
theorem dX6_init_38 : decode cX6_init 38 = .ok (.iconst 4, 1) := by decide +kernel
theorem dX6_init_39 : decode cX6_init 39 = .ok (.anewarray 9, 3) := by decide +kernel
theorem dX6_init_42 : decode cX6_init 42 = .ok (.putfield 22, 3) := by decide +kernel
theorem dX6_init_45 : decode cX6_init 45 = .ok (.iconst 0, 1) := by decide +kernel
theorem dX6_init_46 : decode cX6_init 46 = .ok (.istore_n 1, 1) := by decide +kernel
theorem dX6_init_47 : decode cX6_init 47 = .ok (.iload_n 1, 1) := by decide +kernel
theorem dX6_init_48 : decode cX6_init 48 = .ok (.aload_n 0, 1) := by decide +kernel
theorem dX6_init_49 : decode cX6_init 49 = .ok (.getfield 22, 3) := by decide +kernel
theorem dX6_init_52 : decode cX6_init 52 = .ok (.arraylength, 1) := by decide +kernel
theorem dX6_init_53 : decode cX6_init 53 = .ok (.if_icmp .ge 22, 3) := by decide +kernel
theorem dX6_init_56 : decode cX6_init 56 = .ok (.aload_n 0, 1) := by decide +kernel
theorem dX6_init_57 : decode cX6_init 57 = .ok (.getfield 22, 3) := by decide +kernel
theorem dX6_init_60 : decode cX6_init 60 = .ok (.iload_n 1, 1) := by decide +kernel
theorem dX6_init_61 : decode cX6_init 61 = .ok (.new 9, 3) := by decide +kernel
theorem dX6_init_64 : decode cX6_init 64 = .ok (.dup, 1) := by decide +kernel
theorem dX6_init_65 : decode cX6_init 65 = .ok (.invokespecial 11, 3) := by decide +kernel
theorem dX6_init_68 : decode cX6_init 68 = .ok (.aastore, 1) := by decide +kernel
theorem dX6_init_69 : decode cX6_init 69 = .ok (.iinc 1 1, 3) := by decide +kernel
theorem dX6_init_72 : decode cX6_init 72 = .ok (.goto (-25), 3) := by decide +kernel
theorem dX6_init_75 : decode cX6_init 75 = .ok (.aload_n 0, 1) := by decide +kernel
theorem dX6_init_76 : decode cX6_init 76 = .ok (.new 26, 3) := by decide +kernel
theorem dX6_init_79 : decode cX6_init 79 = .ok (.dup, 1) := by decide +kernel
theorem dX6_init_80 : decode cX6_init 80 = .ok (.invokespecial 28, 3) := by decide +kernel
theorem dX6_init_83 : decode cX6_init 83 = .ok (.putfield 29, 3) := by decide +kernel
theorem dX6_init_86 : decode cX6_init 86 = .ok (.return_, 1) := by decide +kernel
theorem dX6_issue_0 : decode cX6_issue 0 = .ok (.aload_n 0, 1) := by decide +kernel
theorem dX6_issue_1 : decode cX6_issue 1 = .ok (.getfield 12, 3) := by decide +kernel
theorem dX6_issue_4 : decode cX6_issue 4 = .ok (.iload_n 1, 1) := by decide +kernel
theorem dX6_issue_5 : decode cX6_issue 5 = .ok (.invokevirtual 33, 3) := by decide +kernel
theorem dX6_issue_8 : decode cX6_issue 8 = .ok (.astore_n 3, 1) := by decide +kernel
theorem dX6_issue_9 : decode cX6_issue 9 = .ok (.aload_n 3, 1) := by decide +kernel
theorem dX6_issue_10 : decode cX6_issue 10 = .ok (.ifnonnull 5, 3) := by decide +kernel
theorem dX6_issue_13 : decode cX6_issue 13 = .ok (.iconst (-1), 1) := by decide +kernel
theorem dX6_issue_14 : decode cX6_issue 14 = .ok (.ireturn, 1) := by decide +kernel
theorem dX6_issue_15 : decode cX6_issue 15 = .ok (.iload_n 2, 1) := by decide +kernel
theorem dX6_issue_16 : decode cX6_issue 16 = .ok (.iconst 1, 1) := by decide +kernel
theorem dX6_issue_17 : decode cX6_issue 17 = .ok (.sipush 999, 3) := by decide +kernel
theorem dX6_issue_20 : decode cX6_issue 20 = .ok (.invokestatic 37, 3) := by decide +kernel
theorem dX6_issue_23 : decode cX6_issue 23 = .ok (.ifCond .ne 6, 3) := by decide +kernel
theorem dX6_issue_26 : decode cX6_issue 26 = .ok (.bipush (-2), 2) := by decide +kernel
theorem dX6_issue_28 : decode cX6_issue 28 = .ok (.ireturn, 1) := by decide +kernel
theorem dX6_issue_29 : decode cX6_issue 29 = .ok (.aload_n 0, 1) := by decide +kernel
theorem dX6_issue_30 : decode cX6_issue 30 = .ok (.invokevirtual 41, 3) := by decide +kernel
theorem dX6_issue_33 : decode cX6_issue 33 = .ok (.aload_n 0, 1) := by decide +kernel
theorem dX6_issue_34 : decode cX6_issue 34 = .ok (.getfield 12, 3) := by decide +kernel
theorem dX6_issue_37 : decode cX6_issue 37 = .ok (.aload_n 3, 1) := by decide +kernel
theorem dX6_issue_38 : decode cX6_issue 38 = .ok (.iload_n 2, 1) := by decide +kernel
theorem dX6_issue_39 : decode cX6_issue 39 = .ok (.invokevirtual 44, 3) := by decide +kernel
theorem dX6_issue_42 : decode cX6_issue 42 = .ok (.ireturn, 1) := by decide +kernel
theorem dX6_fire_0 : decode cX6_fire 0 = .ok (.aload_n 0, 1) := by decide +kernel
theorem dX6_fire_1 : decode cX6_fire 1 = .ok (.getfield 12, 3) := by decide +kernel
theorem dX6_fire_4 : decode cX6_fire 4 = .ok (.iload_n 1, 1) := by decide +kernel
theorem dX6_fire_5 : decode cX6_fire 5 = .ok (.invokevirtual 33, 3) := by decide +kernel
theorem dX6_fire_8 : decode cX6_fire 8 = .ok (.astore 4, 2) := by decide +kernel
theorem dX6_fire_10 : decode cX6_fire 10 = .ok (.aload 4, 2) := by decide +kernel
theorem dX6_fire_12 : decode cX6_fire 12 = .ok (.ifnonnull 5, 3) := by decide +kernel
theorem dX6_fire_15 : decode cX6_fire 15 = .ok (.iconst (-1), 1) := by decide +kernel
theorem dX6_fire_16 : decode cX6_fire 16 = .ok (.ireturn, 1) := by decide +kernel
theorem dX6_fire_17 : decode cX6_fire 17 = .ok (.iload_n 2, 1) := by decide +kernel
theorem dX6_fire_18 : decode cX6_fire 18 = .ok (.iconst 1, 1) := by decide +kernel
theorem dX6_fire_19 : decode cX6_fire 19 = .ok (.sipush 999, 3) := by decide +kernel
theorem dX6_fire_22 : decode cX6_fire 22 = .ok (.invokestatic 37, 3) := by decide +kernel
theorem dX6_fire_25 : decode cX6_fire 25 = .ok (.ifCond .eq 12, 3) := by decide +kernel
theorem dX6_fire_28 : decode cX6_fire 28 = .ok (.iload_n 3, 1) := by decide +kernel
theorem dX6_fire_29 : decode cX6_fire 29 = .ok (.iconst 0, 1) := by decide +kernel
theorem dX6_fire_30 : decode cX6_fire 30 = .ok (.iload_n 2, 1) := by decide +kernel
theorem dX6_fire_31 : decode cX6_fire 31 = .ok (.invokestatic 37, 3) := by decide +kernel
theorem dX6_fire_34 : decode cX6_fire 34 = .ok (.ifCond .ne 6, 3) := by decide +kernel
theorem dX6_fire_37 : decode cX6_fire 37 = .ok (.bipush (-2), 2) := by decide +kernel
theorem dX6_fire_39 : decode cX6_fire 39 = .ok (.ireturn, 1) := by decide +kernel
theorem dX6_fire_40 : decode cX6_fire 40 = .ok (.aload_n 0, 1) := by decide +kernel
theorem dX6_fire_41 : decode cX6_fire 41 = .ok (.invokevirtual 41, 3) := by decide +kernel
theorem dX6_fire_44 : decode cX6_fire 44 = .ok (.aload 4, 2) := by decide +kernel
theorem dX6_fire_46 : decode cX6_fire 46 = .ok (.dup, 1) := by decide +kernel
theorem dX6_fire_47 : decode cX6_fire 47 = .ok (.getfield 48, 3) := by decide +kernel
theorem dX6_fire_50 : decode cX6_fire 50 = .ok (.iload_n 2, 1) := by decide +kernel
theorem dX6_fire_51 : decode cX6_fire 51 = .ok (.iadd, 1) := by decide +kernel
theorem dX6_fire_52 : decode cX6_fire 52 = .ok (.putfield 48, 3) := by decide +kernel
theorem dX6_fire_55 : decode cX6_fire 55 = .ok (.aload 4, 2) := by decide +kernel
theorem dX6_fire_57 : decode cX6_fire 57 = .ok (.dup, 1) := by decide +kernel
theorem dX6_fire_58 : decode cX6_fire 58 = .ok (.getfield 54, 3) := by decide +kernel
theorem dX6_fire_61 : decode cX6_fire 61 = .ok (.iload_n 3, 1) := by decide +kernel
theorem dX6_fire_62 : decode cX6_fire 62 = .ok (.iadd, 1) := by decide +kernel
theorem dX6_fire_63 : decode cX6_fire 63 = .ok (.putfield 54, 3) := by decide +kernel
theorem dX6_fire_66 : decode cX6_fire 66 = .ok (.aload 4, 2) := by decide +kernel
theorem dX6_fire_68 : decode cX6_fire 68 = .ok (.getfield 54, 3) := by decide +kernel
theorem dX6_fire_71 : decode cX6_fire 71 = .ok (.ireturn, 1) := by decide +kernel
theorem dX6_audit_0 : decode cX6_audit 0 = .ok (.aload_n 0, 1) := by decide +kernel
theorem dX6_audit_1 : decode cX6_audit 1 = .ok (.getfield 12, 3) := by decide +kernel
theorem dX6_audit_4 : decode cX6_audit 4 = .ok (.iload_n 1, 1) := by decide +kernel
theorem dX6_audit_5 : decode cX6_audit 5 = .ok (.invokevirtual 33, 3) := by decide +kernel
theorem dX6_audit_8 : decode cX6_audit 8 = .ok (.astore_n 2, 1) := by decide +kernel
theorem dX6_audit_9 : decode cX6_audit 9 = .ok (.aload_n 2, 1) := by decide +kernel
theorem dX6_audit_10 : decode cX6_audit 10 = .ok (.ifnonnull 5, 3) := by decide +kernel
theorem dX6_audit_13 : decode cX6_audit 13 = .ok (.iconst (-1), 1) := by decide +kernel
theorem dX6_audit_14 : decode cX6_audit 14 = .ok (.ireturn, 1) := by decide +kernel
theorem dX6_audit_15 : decode cX6_audit 15 = .ok (.aload_n 2, 1) := by decide +kernel
theorem dX6_audit_16 : decode cX6_audit 16 = .ok (.getfield 48, 3) := by decide +kernel
theorem dX6_audit_19 : decode cX6_audit 19 = .ok (.aload_n 2, 1) := by decide +kernel
theorem dX6_audit_20 : decode cX6_audit 20 = .ok (.getfield 54, 3) := by decide +kernel
theorem dX6_audit_23 : decode cX6_audit 23 = .ok (.isub, 1) := by decide +kernel
theorem dX6_audit_24 : decode cX6_audit 24 = .ok (.istore_n 3, 1) := by decide +kernel
theorem dX6_audit_25 : decode cX6_audit 25 = .ok (.iload_n 3, 1) := by decide +kernel
theorem dX6_audit_26 : decode cX6_audit 26 = .ok (.ifCond .ne 6, 3) := by decide +kernel
theorem dX6_audit_29 : decode cX6_audit 29 = .ok (.bipush (-5), 2) := by decide +kernel
theorem dX6_audit_31 : decode cX6_audit 31 = .ok (.ireturn, 1) := by decide +kernel
theorem dX6_audit_32 : decode cX6_audit 32 = .ok (.aload_n 0, 1) := by decide +kernel
theorem dX6_audit_33 : decode cX6_audit 33 = .ok (.invokevirtual 41, 3) := by decide +kernel
theorem dX6_audit_36 : decode cX6_audit 36 = .ok (.aload_n 2, 1) := by decide +kernel
theorem dX6_audit_37 : decode cX6_audit 37 = .ok (.dup, 1) := by decide +kernel
theorem dX6_audit_38 : decode cX6_audit 38 = .ok (.getfield 54, 3) := by decide +kernel
theorem dX6_audit_41 : decode cX6_audit 41 = .ok (.iload_n 3, 1) := by decide +kernel
theorem dX6_audit_42 : decode cX6_audit 42 = .ok (.iadd, 1) := by decide +kernel
theorem dX6_audit_43 : decode cX6_audit 43 = .ok (.putfield 54, 3) := by decide +kernel
theorem dX6_audit_46 : decode cX6_audit 46 = .ok (.aload_n 2, 1) := by decide +kernel
theorem dX6_audit_47 : decode cX6_audit 47 = .ok (.dup, 1) := by decide +kernel
theorem dX6_audit_48 : decode cX6_audit 48 = .ok (.getfield 57, 3) := by decide +kernel
theorem dX6_audit_51 : decode cX6_audit 51 = .ok (.iload_n 3, 1) := by decide +kernel
theorem dX6_audit_52 : decode cX6_audit 52 = .ok (.aload_n 0, 1) := by decide +kernel
theorem dX6_audit_53 : decode cX6_audit 53 = .ok (.getfield 12, 3) := by decide +kernel
theorem dX6_audit_56 : decode cX6_audit 56 = .ok (.getfield 60, 3) := by decide +kernel
theorem dX6_audit_59 : decode cX6_audit 59 = .ok (.iconst 4, 1) := by decide +kernel
theorem dX6_audit_60 : decode cX6_audit 60 = .ok (.iaload, 1) := by decide +kernel
theorem dX6_audit_61 : decode cX6_audit 61 = .ok (.imul, 1) := by decide +kernel
theorem dX6_audit_62 : decode cX6_audit 62 = .ok (.iadd, 1) := by decide +kernel
theorem dX6_audit_63 : decode cX6_audit 63 = .ok (.putfield 57, 3) := by decide +kernel
theorem dX6_audit_66 : decode cX6_audit 66 = .ok (.iload_n 3, 1) := by decide +kernel
theorem dX6_audit_67 : decode cX6_audit 67 = .ok (.ireturn, 1) := by decide +kernel
theorem dX6_bid_0 : decode cX6_bid 0 = .ok (.aload_n 0, 1) := by decide +kernel
theorem dX6_bid_1 : decode cX6_bid 1 = .ok (.iconst 1, 1) := by decide +kernel
theorem dX6_bid_2 : decode cX6_bid 2 = .ok (.iload_n 1, 1) := by decide +kernel
theorem dX6_bid_3 : decode cX6_bid 3 = .ok (.iload_n 2, 1) := by decide +kernel
theorem dX6_bid_4 : decode cX6_bid 4 = .ok (.iload_n 3, 1) := by decide +kernel
theorem dX6_bid_5 : decode cX6_bid 5 = .ok (.invokevirtual 64, 3) := by decide +kernel
theorem dX6_bid_8 : decode cX6_bid 8 = .ok (.ireturn, 1) := by decide +kernel
theorem dX6_ask_0 : decode cX6_ask 0 = .ok (.aload_n 0, 1) := by decide +kernel
theorem dX6_ask_1 : decode cX6_ask 1 = .ok (.iconst 0, 1) := by decide +kernel
theorem dX6_ask_2 : decode cX6_ask 2 = .ok (.iload_n 1, 1) := by decide +kernel
theorem dX6_ask_3 : decode cX6_ask 3 = .ok (.iload_n 2, 1) := by decide +kernel
theorem dX6_ask_4 : decode cX6_ask 4 = .ok (.iload_n 3, 1) := by decide +kernel
theorem dX6_ask_5 : decode cX6_ask 5 = .ok (.invokevirtual 64, 3) := by decide +kernel
theorem dX6_ask_8 : decode cX6_ask 8 = .ok (.ireturn, 1) := by decide +kernel
theorem dX6_orderAll_0 : decode cX6_orderAll 0 = .ok (.aload_n 0, 1) := by decide +kernel
theorem dX6_orderAll_1 : decode cX6_orderAll 1 = .ok (.getfield 29, 3) := by decide +kernel
theorem dX6_orderAll_4 : decode cX6_orderAll 4 = .ok (.invokevirtual 68, 3) := by decide +kernel
theorem dX6_orderAll_7 : decode cX6_orderAll 7 = .ok (.istore_n 1, 1) := by decide +kernel
theorem dX6_orderAll_8 : decode cX6_orderAll 8 = .ok (.iload_n 1, 1) := by decide +kernel
theorem dX6_orderAll_9 : decode cX6_orderAll 9 = .ok (.iconst (-1), 1) := by decide +kernel
theorem dX6_orderAll_10 : decode cX6_orderAll 10 = .ok (.if_icmp .eq 8, 3) := by decide +kernel
theorem dX6_orderAll_13 : decode cX6_orderAll 13 = .ok (.bipush (-100), 2) := by decide +kernel
theorem dX6_orderAll_15 : decode cX6_orderAll 15 = .ok (.iload_n 1, 1) := by decide +kernel
theorem dX6_orderAll_16 : decode cX6_orderAll 16 = .ok (.isub, 1) := by decide +kernel
theorem dX6_orderAll_17 : decode cX6_orderAll 17 = .ok (.ireturn, 1) := by decide +kernel
theorem dX6_orderAll_18 : decode cX6_orderAll 18 = .ok (.aload_n 0, 1) := by decide +kernel
theorem dX6_orderAll_19 : decode cX6_orderAll 19 = .ok (.getfield 16, 3) := by decide +kernel
theorem dX6_orderAll_22 : decode cX6_orderAll 22 = .ok (.aload_n 0, 1) := by decide +kernel
theorem dX6_orderAll_23 : decode cX6_orderAll 23 = .ok (.getfield 12, 3) := by decide +kernel
theorem dX6_orderAll_26 : decode cX6_orderAll 26 = .ok (.invokevirtual 72, 3) := by decide +kernel
theorem dX6_orderAll_29 : decode cX6_orderAll 29 = .ok (.iconst 0, 1) := by decide +kernel
theorem dX6_orderAll_30 : decode cX6_orderAll 30 = .ok (.istore_n 2, 1) := by decide +kernel
theorem dX6_orderAll_31 : decode cX6_orderAll 31 = .ok (.iconst 0, 1) := by decide +kernel
theorem dX6_orderAll_32 : decode cX6_orderAll 32 = .ok (.istore_n 3, 1) := by decide +kernel
theorem dX6_orderAll_33 : decode cX6_orderAll 33 = .ok (.iload_n 3, 1) := by decide +kernel
theorem dX6_orderAll_34 : decode cX6_orderAll 34 = .ok (.aload_n 0, 1) := by decide +kernel
theorem dX6_orderAll_35 : decode cX6_orderAll 35 = .ok (.getfield 29, 3) := by decide +kernel
theorem dX6_orderAll_38 : decode cX6_orderAll 38 = .ok (.getfield 76, 3) := by decide +kernel
theorem dX6_orderAll_41 : decode cX6_orderAll 41 = .ok (.if_icmp .ge 103, 3) := by decide +kernel
theorem dX6_orderAll_44 : decode cX6_orderAll 44 = .ok (.iload_n 3, 1) := by decide +kernel
theorem dX6_orderAll_45 : decode cX6_orderAll 45 = .ok (.aload_n 0, 1) := by decide +kernel
theorem dX6_orderAll_46 : decode cX6_orderAll 46 = .ok (.getfield 29, 3) := by decide +kernel
theorem dX6_orderAll_49 : decode cX6_orderAll 49 = .ok (.getfield 79, 3) := by decide +kernel
theorem dX6_orderAll_52 : decode cX6_orderAll 52 = .ok (.arraylength, 1) := by decide +kernel
theorem dX6_orderAll_53 : decode cX6_orderAll 53 = .ok (.if_icmp .ge 91, 3) := by decide +kernel
theorem dX6_orderAll_56 : decode cX6_orderAll 56 = .ok (.aload_n 0, 1) := by decide +kernel
theorem dX6_orderAll_57 : decode cX6_orderAll 57 = .ok (.getfield 29, 3) := by decide +kernel
theorem dX6_orderAll_60 : decode cX6_orderAll 60 = .ok (.getfield 79, 3) := by decide +kernel
theorem dX6_orderAll_63 : decode cX6_orderAll 63 = .ok (.iload_n 3, 1) := by decide +kernel
theorem dX6_orderAll_64 : decode cX6_orderAll 64 = .ok (.aaload, 1) := by decide +kernel
theorem dX6_orderAll_65 : decode cX6_orderAll 65 = .ok (.astore 4, 2) := by decide +kernel
theorem dX6_orderAll_67 : decode cX6_orderAll 67 = .ok (.aload_n 0, 1) := by decide +kernel
theorem dX6_orderAll_68 : decode cX6_orderAll 68 = .ok (.getfield 12, 3) := by decide +kernel
theorem dX6_orderAll_71 : decode cX6_orderAll 71 = .ok (.aload 4, 2) := by decide +kernel
theorem dX6_orderAll_73 : decode cX6_orderAll 73 = .ok (.getfield 83, 3) := by decide +kernel
theorem dX6_orderAll_76 : decode cX6_orderAll 76 = .ok (.aload 4, 2) := by decide +kernel
theorem dX6_orderAll_78 : decode cX6_orderAll 78 = .ok (.getfield 89, 3) := by decide +kernel
theorem dX6_orderAll_81 : decode cX6_orderAll 81 = .ok (.aload 4, 2) := by decide +kernel
theorem dX6_orderAll_83 : decode cX6_orderAll 83 = .ok (.getfield 92, 3) := by decide +kernel
theorem dX6_orderAll_86 : decode cX6_orderAll 86 = .ok (.aload 4, 2) := by decide +kernel
theorem dX6_orderAll_88 : decode cX6_orderAll 88 = .ok (.getfield 95, 3) := by decide +kernel
theorem dX6_orderAll_91 : decode cX6_orderAll 91 = .ok (.invokevirtual 98, 3) := by decide +kernel
theorem dX6_orderAll_94 : decode cX6_orderAll 94 = .ok (.istore 5, 2) := by decide +kernel
theorem dX6_orderAll_96 : decode cX6_orderAll 96 = .ok (.iload 5, 2) := by decide +kernel
theorem dX6_orderAll_98 : decode cX6_orderAll 98 = .ok (.ifCond .eq 10, 3) := by decide +kernel
theorem dX6_orderAll_101 : decode cX6_orderAll 101 = .ok (.aload_n 0, 1) := by decide +kernel
theorem dX6_orderAll_102 : decode cX6_orderAll 102 = .ok (.invokevirtual 101, 3) := by decide +kernel
theorem dX6_orderAll_105 : decode cX6_orderAll 105 = .ok (.iload 5, 2) := by decide +kernel
theorem dX6_orderAll_107 : decode cX6_orderAll 107 = .ok (.ireturn, 1) := by decide +kernel
theorem dX6_orderAll_108 : decode cX6_orderAll 108 = .ok (.iload_n 2, 1) := by decide +kernel
theorem dX6_orderAll_109 : decode cX6_orderAll 109 = .ok (.aload_n 0, 1) := by decide +kernel
theorem dX6_orderAll_110 : decode cX6_orderAll 110 = .ok (.getfield 12, 3) := by decide +kernel
theorem dX6_orderAll_113 : decode cX6_orderAll 113 = .ok (.aload 4, 2) := by decide +kernel
theorem dX6_orderAll_115 : decode cX6_orderAll 115 = .ok (.getfield 83, 3) := by decide +kernel
theorem dX6_orderAll_118 : decode cX6_orderAll 118 = .ok (.aload 4, 2) := by decide +kernel
theorem dX6_orderAll_120 : decode cX6_orderAll 120 = .ok (.getfield 89, 3) := by decide +kernel
theorem dX6_orderAll_123 : decode cX6_orderAll 123 = .ok (.aload 4, 2) := by decide +kernel
theorem dX6_orderAll_125 : decode cX6_orderAll 125 = .ok (.getfield 92, 3) := by decide +kernel
theorem dX6_orderAll_128 : decode cX6_orderAll 128 = .ok (.aload 4, 2) := by decide +kernel
theorem dX6_orderAll_130 : decode cX6_orderAll 130 = .ok (.getfield 95, 3) := by decide +kernel
theorem dX6_orderAll_133 : decode cX6_orderAll 133 = .ok (.invokevirtual 104, 3) := by decide +kernel
theorem dX6_orderAll_136 : decode cX6_orderAll 136 = .ok (.iadd, 1) := by decide +kernel
theorem dX6_orderAll_137 : decode cX6_orderAll 137 = .ok (.istore_n 2, 1) := by decide +kernel
theorem dX6_orderAll_138 : decode cX6_orderAll 138 = .ok (.iinc 3 1, 3) := by decide +kernel
theorem dX6_orderAll_141 : decode cX6_orderAll 141 = .ok (.goto (-108), 3) := by decide +kernel
theorem dX6_orderAll_144 : decode cX6_orderAll 144 = .ok (.aload_n 0, 1) := by decide +kernel
theorem dX6_orderAll_145 : decode cX6_orderAll 145 = .ok (.invokevirtual 107, 3) := by decide +kernel
theorem dX6_orderAll_148 : decode cX6_orderAll 148 = .ok (.iload_n 2, 1) := by decide +kernel
theorem dX6_orderAll_149 : decode cX6_orderAll 149 = .ok (.ireturn, 1) := by decide +kernel
theorem dX6_takeBack_0 : decode cX6_takeBack 0 = .ok (.aload_n 0, 1) := by decide +kernel
theorem dX6_takeBack_1 : decode cX6_takeBack 1 = .ok (.getfield 12, 3) := by decide +kernel
theorem dX6_takeBack_4 : decode cX6_takeBack 4 = .ok (.iload_n 1, 1) := by decide +kernel
theorem dX6_takeBack_5 : decode cX6_takeBack 5 = .ok (.invokevirtual 110, 3) := by decide +kernel
theorem dX6_takeBack_8 : decode cX6_takeBack 8 = .ok (.astore_n 2, 1) := by decide +kernel
theorem dX6_takeBack_9 : decode cX6_takeBack 9 = .ok (.aload_n 2, 1) := by decide +kernel
theorem dX6_takeBack_10 : decode cX6_takeBack 10 = .ok (.ifnonnull 5, 3) := by decide +kernel
theorem dX6_takeBack_13 : decode cX6_takeBack 13 = .ok (.iconst (-1), 1) := by decide +kernel
theorem dX6_takeBack_14 : decode cX6_takeBack 14 = .ok (.ireturn, 1) := by decide +kernel
theorem dX6_takeBack_15 : decode cX6_takeBack 15 = .ok (.aload_n 0, 1) := by decide +kernel
theorem dX6_takeBack_16 : decode cX6_takeBack 16 = .ok (.invokevirtual 41, 3) := by decide +kernel
theorem dX6_takeBack_19 : decode cX6_takeBack 19 = .ok (.aload_n 2, 1) := by decide +kernel
theorem dX6_takeBack_20 : decode cX6_takeBack 20 = .ok (.getfield 114, 3) := by decide +kernel
theorem dX6_takeBack_23 : decode cX6_takeBack 23 = .ok (.istore_n 3, 1) := by decide +kernel
theorem dX6_takeBack_24 : decode cX6_takeBack 24 = .ok (.aload_n 0, 1) := by decide +kernel
theorem dX6_takeBack_25 : decode cX6_takeBack 25 = .ok (.getfield 12, 3) := by decide +kernel
theorem dX6_takeBack_28 : decode cX6_takeBack 28 = .ok (.aload_n 2, 1) := by decide +kernel
theorem dX6_takeBack_29 : decode cX6_takeBack 29 = .ok (.invokevirtual 119, 3) := by decide +kernel
theorem dX6_takeBack_32 : decode cX6_takeBack 32 = .ok (.iload_n 3, 1) := by decide +kernel
theorem dX6_takeBack_33 : decode cX6_takeBack 33 = .ok (.ireturn, 1) := by decide +kernel
theorem dX6_buyReserve_0 : decode cX6_buyReserve 0 = .ok (.aload_n 0, 1) := by decide +kernel
theorem dX6_buyReserve_1 : decode cX6_buyReserve 1 = .ok (.getfield 12, 3) := by decide +kernel
theorem dX6_buyReserve_4 : decode cX6_buyReserve 4 = .ok (.iload_n 1, 1) := by decide +kernel
theorem dX6_buyReserve_5 : decode cX6_buyReserve 5 = .ok (.invokevirtual 33, 3) := by decide +kernel
theorem dX6_buyReserve_8 : decode cX6_buyReserve 8 = .ok (.astore_n 3, 1) := by decide +kernel
theorem dX6_buyReserve_9 : decode cX6_buyReserve 9 = .ok (.aload_n 3, 1) := by decide +kernel
theorem dX6_buyReserve_10 : decode cX6_buyReserve 10 = .ok (.ifnonnull 5, 3) := by decide +kernel
theorem dX6_buyReserve_13 : decode cX6_buyReserve 13 = .ok (.iconst (-1), 1) := by decide +kernel
theorem dX6_buyReserve_14 : decode cX6_buyReserve 14 = .ok (.ireturn, 1) := by decide +kernel
theorem dX6_buyReserve_15 : decode cX6_buyReserve 15 = .ok (.iload_n 2, 1) := by decide +kernel
theorem dX6_buyReserve_16 : decode cX6_buyReserve 16 = .ok (.iconst 1, 1) := by decide +kernel
theorem dX6_buyReserve_17 : decode cX6_buyReserve 17 = .ok (.sipush 999, 3) := by decide +kernel
theorem dX6_buyReserve_20 : decode cX6_buyReserve 20 = .ok (.invokestatic 37, 3) := by decide +kernel
theorem dX6_buyReserve_23 : decode cX6_buyReserve 23 = .ok (.ifCond .ne 6, 3) := by decide +kernel
theorem dX6_buyReserve_26 : decode cX6_buyReserve 26 = .ok (.bipush (-2), 2) := by decide +kernel
theorem dX6_buyReserve_28 : decode cX6_buyReserve 28 = .ok (.ireturn, 1) := by decide +kernel
theorem dX6_buyReserve_29 : decode cX6_buyReserve 29 = .ok (.aload_n 0, 1) := by decide +kernel
theorem dX6_buyReserve_30 : decode cX6_buyReserve 30 = .ok (.getfield 12, 3) := by decide +kernel
theorem dX6_buyReserve_33 : decode cX6_buyReserve 33 = .ok (.getfield 123, 3) := by decide +kernel
theorem dX6_buyReserve_36 : decode cX6_buyReserve 36 = .ok (.iload_n 2, 1) := by decide +kernel
theorem dX6_buyReserve_37 : decode cX6_buyReserve 37 = .ok (.if_icmp .lt 21, 3) := by decide +kernel
theorem dX6_buyReserve_40 : decode cX6_buyReserve 40 = .ok (.aload_n 3, 1) := by decide +kernel
theorem dX6_buyReserve_41 : decode cX6_buyReserve 41 = .ok (.getfield 126, 3) := by decide +kernel
theorem dX6_buyReserve_44 : decode cX6_buyReserve 44 = .ok (.iload_n 2, 1) := by decide +kernel
theorem dX6_buyReserve_45 : decode cX6_buyReserve 45 = .ok (.aload_n 0, 1) := by decide +kernel
theorem dX6_buyReserve_46 : decode cX6_buyReserve 46 = .ok (.getfield 12, 3) := by decide +kernel
theorem dX6_buyReserve_49 : decode cX6_buyReserve 49 = .ok (.getfield 60, 3) := by decide +kernel
theorem dX6_buyReserve_52 : decode cX6_buyReserve 52 = .ok (.iconst 1, 1) := by decide +kernel
theorem dX6_buyReserve_53 : decode cX6_buyReserve 53 = .ok (.iaload, 1) := by decide +kernel
theorem dX6_buyReserve_54 : decode cX6_buyReserve 54 = .ok (.imul, 1) := by decide +kernel
theorem dX6_buyReserve_55 : decode cX6_buyReserve 55 = .ok (.if_icmp .ge 6, 3) := by decide +kernel
theorem dX6_buyReserve_58 : decode cX6_buyReserve 58 = .ok (.bipush (-3), 2) := by decide +kernel
theorem dX6_buyReserve_60 : decode cX6_buyReserve 60 = .ok (.ireturn, 1) := by decide +kernel
theorem dX6_buyReserve_61 : decode cX6_buyReserve 61 = .ok (.aload_n 0, 1) := by decide +kernel
theorem dX6_buyReserve_62 : decode cX6_buyReserve 62 = .ok (.invokevirtual 41, 3) := by decide +kernel
theorem dX6_buyReserve_65 : decode cX6_buyReserve 65 = .ok (.aload_n 0, 1) := by decide +kernel
theorem dX6_buyReserve_66 : decode cX6_buyReserve 66 = .ok (.getfield 12, 3) := by decide +kernel
theorem dX6_buyReserve_69 : decode cX6_buyReserve 69 = .ok (.aload_n 3, 1) := by decide +kernel
theorem dX6_buyReserve_70 : decode cX6_buyReserve 70 = .ok (.iload_n 2, 1) := by decide +kernel
theorem dX6_buyReserve_71 : decode cX6_buyReserve 71 = .ok (.invokevirtual 129, 3) := by decide +kernel
theorem dX6_buyReserve_74 : decode cX6_buyReserve 74 = .ok (.aload_n 0, 1) := by decide +kernel
theorem dX6_buyReserve_75 : decode cX6_buyReserve 75 = .ok (.getfield 12, 3) := by decide +kernel
theorem dX6_buyReserve_78 : decode cX6_buyReserve 78 = .ok (.getfield 123, 3) := by decide +kernel
theorem dX6_buyReserve_81 : decode cX6_buyReserve 81 = .ok (.ireturn, 1) := by decide +kernel
theorem dX6_borrow_0 : decode cX6_borrow 0 = .ok (.aload_n 0, 1) := by decide +kernel
theorem dX6_borrow_1 : decode cX6_borrow 1 = .ok (.getfield 12, 3) := by decide +kernel
theorem dX6_borrow_4 : decode cX6_borrow 4 = .ok (.iload_n 1, 1) := by decide +kernel
theorem dX6_borrow_5 : decode cX6_borrow 5 = .ok (.invokevirtual 33, 3) := by decide +kernel
theorem dX6_borrow_8 : decode cX6_borrow 8 = .ok (.astore_n 3, 1) := by decide +kernel
theorem dX6_borrow_9 : decode cX6_borrow 9 = .ok (.aload_n 3, 1) := by decide +kernel
theorem dX6_borrow_10 : decode cX6_borrow 10 = .ok (.ifnonnull 5, 3) := by decide +kernel
theorem dX6_borrow_13 : decode cX6_borrow 13 = .ok (.iconst (-1), 1) := by decide +kernel
theorem dX6_borrow_14 : decode cX6_borrow 14 = .ok (.ireturn, 1) := by decide +kernel
theorem dX6_borrow_15 : decode cX6_borrow 15 = .ok (.iload_n 2, 1) := by decide +kernel
theorem dX6_borrow_16 : decode cX6_borrow 16 = .ok (.iconst 1, 1) := by decide +kernel
theorem dX6_borrow_17 : decode cX6_borrow 17 = .ok (.sipush 999, 3) := by decide +kernel
theorem dX6_borrow_20 : decode cX6_borrow 20 = .ok (.invokestatic 37, 3) := by decide +kernel
theorem dX6_borrow_23 : decode cX6_borrow 23 = .ok (.ifCond .ne 6, 3) := by decide +kernel
theorem dX6_borrow_26 : decode cX6_borrow 26 = .ok (.bipush (-2), 2) := by decide +kernel
theorem dX6_borrow_28 : decode cX6_borrow 28 = .ok (.ireturn, 1) := by decide +kernel
theorem dX6_borrow_29 : decode cX6_borrow 29 = .ok (.aload_n 3, 1) := by decide +kernel
theorem dX6_borrow_30 : decode cX6_borrow 30 = .ok (.getfield 133, 3) := by decide +kernel
theorem dX6_borrow_33 : decode cX6_borrow 33 = .ok (.iload_n 2, 1) := by decide +kernel
theorem dX6_borrow_34 : decode cX6_borrow 34 = .ok (.iadd, 1) := by decide +kernel
theorem dX6_borrow_35 : decode cX6_borrow 35 = .ok (.aload_n 3, 1) := by decide +kernel
theorem dX6_borrow_36 : decode cX6_borrow 36 = .ok (.getfield 54, 3) := by decide +kernel
theorem dX6_borrow_39 : decode cX6_borrow 39 = .ok (.aload_n 0, 1) := by decide +kernel
theorem dX6_borrow_40 : decode cX6_borrow 40 = .ok (.getfield 12, 3) := by decide +kernel
theorem dX6_borrow_43 : decode cX6_borrow 43 = .ok (.getfield 60, 3) := by decide +kernel
theorem dX6_borrow_46 : decode cX6_borrow 46 = .ok (.iconst 2, 1) := by decide +kernel
theorem dX6_borrow_47 : decode cX6_borrow 47 = .ok (.iaload, 1) := by decide +kernel
theorem dX6_borrow_48 : decode cX6_borrow 48 = .ok (.imul, 1) := by decide +kernel
theorem dX6_borrow_49 : decode cX6_borrow 49 = .ok (.bipush 100, 2) := by decide +kernel
theorem dX6_borrow_51 : decode cX6_borrow 51 = .ok (.idiv, 1) := by decide +kernel
theorem dX6_borrow_52 : decode cX6_borrow 52 = .ok (.if_icmp .le 6, 3) := by decide +kernel
theorem dX6_borrow_55 : decode cX6_borrow 55 = .ok (.bipush (-3), 2) := by decide +kernel
theorem dX6_borrow_57 : decode cX6_borrow 57 = .ok (.ireturn, 1) := by decide +kernel
theorem dX6_borrow_58 : decode cX6_borrow 58 = .ok (.aload_n 0, 1) := by decide +kernel
theorem dX6_borrow_59 : decode cX6_borrow 59 = .ok (.invokevirtual 41, 3) := by decide +kernel
theorem dX6_borrow_62 : decode cX6_borrow 62 = .ok (.aload_n 3, 1) := by decide +kernel
theorem dX6_borrow_63 : decode cX6_borrow 63 = .ok (.dup, 1) := by decide +kernel
theorem dX6_borrow_64 : decode cX6_borrow 64 = .ok (.getfield 133, 3) := by decide +kernel
theorem dX6_borrow_67 : decode cX6_borrow 67 = .ok (.iload_n 2, 1) := by decide +kernel
theorem dX6_borrow_68 : decode cX6_borrow 68 = .ok (.iadd, 1) := by decide +kernel
theorem dX6_borrow_69 : decode cX6_borrow 69 = .ok (.putfield 133, 3) := by decide +kernel
theorem dX6_borrow_72 : decode cX6_borrow 72 = .ok (.aload_n 3, 1) := by decide +kernel
theorem dX6_borrow_73 : decode cX6_borrow 73 = .ok (.getfield 133, 3) := by decide +kernel
theorem dX6_borrow_76 : decode cX6_borrow 76 = .ok (.ireturn, 1) := by decide +kernel
theorem dX6_set_0 : decode cX6_set 0 = .ok (.iload_n 1, 1) := by decide +kernel
theorem dX6_set_1 : decode cX6_set 1 = .ok (.iload_n 2, 1) := by decide +kernel
theorem dX6_set_2 : decode cX6_set 2 = .ok (.invokestatic 136, 3) := by decide +kernel
theorem dX6_set_5 : decode cX6_set 5 = .ok (.ifCond .ne 6, 3) := by decide +kernel
theorem dX6_set_8 : decode cX6_set 8 = .ok (.bipush (-2), 2) := by decide +kernel
theorem dX6_set_10 : decode cX6_set 10 = .ok (.ireturn, 1) := by decide +kernel
theorem dX6_set_11 : decode cX6_set 11 = .ok (.aload_n 0, 1) := by decide +kernel
theorem dX6_set_12 : decode cX6_set 12 = .ok (.getfield 12, 3) := by decide +kernel
theorem dX6_set_15 : decode cX6_set 15 = .ok (.getfield 60, 3) := by decide +kernel
theorem dX6_set_18 : decode cX6_set 18 = .ok (.iload_n 1, 1) := by decide +kernel
theorem dX6_set_19 : decode cX6_set 19 = .ok (.iaload, 1) := by decide +kernel
theorem dX6_set_20 : decode cX6_set 20 = .ok (.istore_n 3, 1) := by decide +kernel
theorem dX6_set_21 : decode cX6_set 21 = .ok (.iload_n 3, 1) := by decide +kernel
theorem dX6_set_22 : decode cX6_set 22 = .ok (.iload_n 2, 1) := by decide +kernel
theorem dX6_set_23 : decode cX6_set 23 = .ok (.if_icmp .ne 6, 3) := by decide +kernel
theorem dX6_set_26 : decode cX6_set 26 = .ok (.bipush (-5), 2) := by decide +kernel
theorem dX6_set_28 : decode cX6_set 28 = .ok (.ireturn, 1) := by decide +kernel
theorem dX6_set_29 : decode cX6_set 29 = .ok (.aload_n 0, 1) := by decide +kernel
theorem dX6_set_30 : decode cX6_set 30 = .ok (.invokevirtual 41, 3) := by decide +kernel
theorem dX6_set_33 : decode cX6_set 33 = .ok (.aload_n 0, 1) := by decide +kernel
theorem dX6_set_34 : decode cX6_set 34 = .ok (.getfield 12, 3) := by decide +kernel
theorem dX6_set_37 : decode cX6_set 37 = .ok (.getfield 60, 3) := by decide +kernel
theorem dX6_set_40 : decode cX6_set 40 = .ok (.iload_n 1, 1) := by decide +kernel
theorem dX6_set_41 : decode cX6_set 41 = .ok (.iload_n 2, 1) := by decide +kernel
theorem dX6_set_42 : decode cX6_set 42 = .ok (.iastore, 1) := by decide +kernel
theorem dX6_set_43 : decode cX6_set 43 = .ok (.iload_n 3, 1) := by decide +kernel
theorem dX6_set_44 : decode cX6_set 44 = .ok (.ireturn, 1) := by decide +kernel
theorem dX6_endYear_0 : decode cX6_endYear 0 = .ok (.aload_n 0, 1) := by decide +kernel
theorem dX6_endYear_1 : decode cX6_endYear 1 = .ok (.getfield 12, 3) := by decide +kernel
theorem dX6_endYear_4 : decode cX6_endYear 4 = .ok (.getfield 140, 3) := by decide +kernel
theorem dX6_endYear_7 : decode cX6_endYear 7 = .ok (.sipush 999, 3) := by decide +kernel
theorem dX6_endYear_10 : decode cX6_endYear 10 = .ok (.if_icmp .lt 6, 3) := by decide +kernel
theorem dX6_endYear_13 : decode cX6_endYear 13 = .ok (.bipush (-3), 2) := by decide +kernel
theorem dX6_endYear_15 : decode cX6_endYear 15 = .ok (.ireturn, 1) := by decide +kernel
theorem dX6_endYear_16 : decode cX6_endYear 16 = .ok (.aload_n 0, 1) := by decide +kernel
theorem dX6_endYear_17 : decode cX6_endYear 17 = .ok (.invokevirtual 41, 3) := by decide +kernel
theorem dX6_endYear_20 : decode cX6_endYear 20 = .ok (.aload_n 0, 1) := by decide +kernel
theorem dX6_endYear_21 : decode cX6_endYear 21 = .ok (.getfield 12, 3) := by decide +kernel
theorem dX6_endYear_24 : decode cX6_endYear 24 = .ok (.invokevirtual 143, 3) := by decide +kernel
theorem dX6_endYear_27 : decode cX6_endYear 27 = .ok (.ireturn, 1) := by decide +kernel
theorem dX6_type_0 : decode cX6_type 0 = .ok (.aload_n 0, 1) := by decide +kernel
theorem dX6_type_1 : decode cX6_type 1 = .ok (.getfield 29, 3) := by decide +kernel
theorem dX6_type_4 : decode cX6_type 4 = .ok (.iload_n 1, 1) := by decide +kernel
theorem dX6_type_5 : decode cX6_type 5 = .ok (.invokevirtual 146, 3) := by decide +kernel
theorem dX6_type_8 : decode cX6_type 8 = .ok (.ifCond .eq 13, 3) := by decide +kernel
theorem dX6_type_11 : decode cX6_type 11 = .ok (.aload_n 0, 1) := by decide +kernel
theorem dX6_type_12 : decode cX6_type 12 = .ok (.getfield 29, 3) := by decide +kernel
theorem dX6_type_15 : decode cX6_type 15 = .ok (.getfield 150, 3) := by decide +kernel
theorem dX6_type_18 : decode cX6_type 18 = .ok (.goto 5, 3) := by decide +kernel
theorem dX6_type_21 : decode cX6_type 21 = .ok (.bipush (-3), 2) := by decide +kernel
theorem dX6_type_23 : decode cX6_type 23 = .ok (.ireturn, 1) := by decide +kernel
theorem dX6_clearText_0 : decode cX6_clearText 0 = .ok (.aload_n 0, 1) := by decide +kernel
theorem dX6_clearText_1 : decode cX6_clearText 1 = .ok (.getfield 29, 3) := by decide +kernel
theorem dX6_clearText_4 : decode cX6_clearText 4 = .ok (.getfield 150, 3) := by decide +kernel
theorem dX6_clearText_7 : decode cX6_clearText 7 = .ok (.istore_n 1, 1) := by decide +kernel
theorem dX6_clearText_8 : decode cX6_clearText 8 = .ok (.aload_n 0, 1) := by decide +kernel
theorem dX6_clearText_9 : decode cX6_clearText 9 = .ok (.getfield 29, 3) := by decide +kernel
theorem dX6_clearText_12 : decode cX6_clearText 12 = .ok (.iconst 0, 1) := by decide +kernel
theorem dX6_clearText_13 : decode cX6_clearText 13 = .ok (.putfield 150, 3) := by decide +kernel
theorem dX6_clearText_16 : decode cX6_clearText 16 = .ok (.iload_n 1, 1) := by decide +kernel
theorem dX6_clearText_17 : decode cX6_clearText 17 = .ok (.ireturn, 1) := by decide +kernel
theorem dX6_undo_0 : decode cX6_undo 0 = .ok (.aload_n 0, 1) := by decide +kernel
theorem dX6_undo_1 : decode cX6_undo 1 = .ok (.getfield 153, 3) := by decide +kernel
theorem dX6_undo_4 : decode cX6_undo 4 = .ok (.ifCond .ne 6, 3) := by decide +kernel
theorem dX6_undo_7 : decode cX6_undo 7 = .ok (.bipush (-5), 2) := by decide +kernel
theorem dX6_undo_9 : decode cX6_undo 9 = .ok (.ireturn, 1) := by decide +kernel
theorem dX6_undo_10 : decode cX6_undo 10 = .ok (.aload_n 0, 1) := by decide +kernel
theorem dX6_undo_11 : decode cX6_undo 11 = .ok (.getfield 22, 3) := by decide +kernel
theorem dX6_undo_14 : decode cX6_undo 14 = .ok (.iconst 0, 1) := by decide +kernel
theorem dX6_undo_15 : decode cX6_undo 15 = .ok (.aaload, 1) := by decide +kernel
theorem dX6_undo_16 : decode cX6_undo 16 = .ok (.astore_n 1, 1) := by decide +kernel
theorem dX6_undo_17 : decode cX6_undo 17 = .ok (.iconst 1, 1) := by decide +kernel
theorem dX6_undo_18 : decode cX6_undo 18 = .ok (.istore_n 2, 1) := by decide +kernel
theorem dX6_undo_19 : decode cX6_undo 19 = .ok (.iload_n 2, 1) := by decide +kernel
theorem dX6_undo_20 : decode cX6_undo 20 = .ok (.aload_n 0, 1) := by decide +kernel
theorem dX6_undo_21 : decode cX6_undo 21 = .ok (.getfield 22, 3) := by decide +kernel
theorem dX6_undo_24 : decode cX6_undo 24 = .ok (.arraylength, 1) := by decide +kernel
theorem dX6_undo_25 : decode cX6_undo 25 = .ok (.if_icmp .ge 23, 3) := by decide +kernel
theorem dX6_undo_28 : decode cX6_undo 28 = .ok (.aload_n 0, 1) := by decide +kernel
theorem dX6_undo_29 : decode cX6_undo 29 = .ok (.getfield 22, 3) := by decide +kernel
theorem dX6_undo_32 : decode cX6_undo 32 = .ok (.iload_n 2, 1) := by decide +kernel
theorem dX6_undo_33 : decode cX6_undo 33 = .ok (.iconst 1, 1) := by decide +kernel
theorem dX6_undo_34 : decode cX6_undo 34 = .ok (.isub, 1) := by decide +kernel
theorem dX6_undo_35 : decode cX6_undo 35 = .ok (.aload_n 0, 1) := by decide +kernel
theorem dX6_undo_36 : decode cX6_undo 36 = .ok (.getfield 22, 3) := by decide +kernel
theorem dX6_undo_39 : decode cX6_undo 39 = .ok (.iload_n 2, 1) := by decide +kernel
theorem dX6_undo_40 : decode cX6_undo 40 = .ok (.aaload, 1) := by decide +kernel
theorem dX6_undo_41 : decode cX6_undo 41 = .ok (.aastore, 1) := by decide +kernel
theorem dX6_undo_42 : decode cX6_undo 42 = .ok (.iinc 2 1, 3) := by decide +kernel
theorem dX6_undo_45 : decode cX6_undo 45 = .ok (.goto (-26), 3) := by decide +kernel
theorem dX6_undo_48 : decode cX6_undo 48 = .ok (.aload_n 0, 1) := by decide +kernel
theorem dX6_undo_49 : decode cX6_undo 49 = .ok (.getfield 22, 3) := by decide +kernel
theorem dX6_undo_52 : decode cX6_undo 52 = .ok (.aload_n 0, 1) := by decide +kernel
theorem dX6_undo_53 : decode cX6_undo 53 = .ok (.getfield 22, 3) := by decide +kernel
theorem dX6_undo_56 : decode cX6_undo 56 = .ok (.arraylength, 1) := by decide +kernel
theorem dX6_undo_57 : decode cX6_undo 57 = .ok (.iconst 1, 1) := by decide +kernel
theorem dX6_undo_58 : decode cX6_undo 58 = .ok (.isub, 1) := by decide +kernel
theorem dX6_undo_59 : decode cX6_undo 59 = .ok (.aload_n 0, 1) := by decide +kernel
theorem dX6_undo_60 : decode cX6_undo 60 = .ok (.getfield 12, 3) := by decide +kernel
theorem dX6_undo_63 : decode cX6_undo 63 = .ok (.aastore, 1) := by decide +kernel
theorem dX6_undo_64 : decode cX6_undo 64 = .ok (.aload_n 0, 1) := by decide +kernel
theorem dX6_undo_65 : decode cX6_undo 65 = .ok (.aload_n 1, 1) := by decide +kernel
theorem dX6_undo_66 : decode cX6_undo 66 = .ok (.putfield 12, 3) := by decide +kernel
theorem dX6_undo_69 : decode cX6_undo 69 = .ok (.aload_n 0, 1) := by decide +kernel
theorem dX6_undo_70 : decode cX6_undo 70 = .ok (.dup, 1) := by decide +kernel
theorem dX6_undo_71 : decode cX6_undo 71 = .ok (.getfield 153, 3) := by decide +kernel
theorem dX6_undo_74 : decode cX6_undo 74 = .ok (.iconst 1, 1) := by decide +kernel
theorem dX6_undo_75 : decode cX6_undo 75 = .ok (.isub, 1) := by decide +kernel
theorem dX6_undo_76 : decode cX6_undo 76 = .ok (.putfield 153, 3) := by decide +kernel
theorem dX6_undo_79 : decode cX6_undo 79 = .ok (.aload_n 0, 1) := by decide +kernel
theorem dX6_undo_80 : decode cX6_undo 80 = .ok (.getfield 153, 3) := by decide +kernel
theorem dX6_undo_83 : decode cX6_undo 83 = .ok (.ireturn, 1) := by decide +kernel
theorem dX6_keep_0 : decode cX6_keep 0 = .ok (.aload_n 0, 1) := by decide +kernel
theorem dX6_keep_1 : decode cX6_keep 1 = .ok (.getfield 19, 3) := by decide +kernel
theorem dX6_keep_4 : decode cX6_keep 4 = .ok (.aload_n 0, 1) := by decide +kernel
theorem dX6_keep_5 : decode cX6_keep 5 = .ok (.getfield 12, 3) := by decide +kernel
theorem dX6_keep_8 : decode cX6_keep 8 = .ok (.invokevirtual 72, 3) := by decide +kernel
theorem dX6_keep_11 : decode cX6_keep 11 = .ok (.aload_n 0, 1) := by decide +kernel
theorem dX6_keep_12 : decode cX6_keep 12 = .ok (.iconst 1, 1) := by decide +kernel
theorem dX6_keep_13 : decode cX6_keep 13 = .ok (.putfield 156, 3) := by decide +kernel
theorem dX6_keep_16 : decode cX6_keep 16 = .ok (.aload_n 0, 1) := by decide +kernel
theorem dX6_keep_17 : decode cX6_keep 17 = .ok (.getfield 12, 3) := by decide +kernel
theorem dX6_keep_20 : decode cX6_keep 20 = .ok (.getfield 140, 3) := by decide +kernel
theorem dX6_keep_23 : decode cX6_keep 23 = .ok (.ireturn, 1) := by decide +kernel
theorem dX6_restore_0 : decode cX6_restore 0 = .ok (.aload_n 0, 1) := by decide +kernel
theorem dX6_restore_1 : decode cX6_restore 1 = .ok (.getfield 156, 3) := by decide +kernel
theorem dX6_restore_4 : decode cX6_restore 4 = .ok (.ifCond .ne 6, 3) := by decide +kernel
theorem dX6_restore_7 : decode cX6_restore 7 = .ok (.bipush (-5), 2) := by decide +kernel
theorem dX6_restore_9 : decode cX6_restore 9 = .ok (.ireturn, 1) := by decide +kernel
theorem dX6_restore_10 : decode cX6_restore 10 = .ok (.aload_n 0, 1) := by decide +kernel
theorem dX6_restore_11 : decode cX6_restore 11 = .ok (.invokevirtual 41, 3) := by decide +kernel
theorem dX6_restore_14 : decode cX6_restore 14 = .ok (.aload_n 0, 1) := by decide +kernel
theorem dX6_restore_15 : decode cX6_restore 15 = .ok (.getfield 12, 3) := by decide +kernel
theorem dX6_restore_18 : decode cX6_restore 18 = .ok (.aload_n 0, 1) := by decide +kernel
theorem dX6_restore_19 : decode cX6_restore 19 = .ok (.getfield 19, 3) := by decide +kernel
theorem dX6_restore_22 : decode cX6_restore 22 = .ok (.invokevirtual 72, 3) := by decide +kernel
theorem dX6_restore_25 : decode cX6_restore 25 = .ok (.aload_n 0, 1) := by decide +kernel
theorem dX6_restore_26 : decode cX6_restore 26 = .ok (.getfield 12, 3) := by decide +kernel
theorem dX6_restore_29 : decode cX6_restore 29 = .ok (.getfield 140, 3) := by decide +kernel
theorem dX6_restore_32 : decode cX6_restore 32 = .ok (.ireturn, 1) := by decide +kernel
theorem dX6_kiln_0 : decode cX6_kiln 0 = .ok (.aload_n 0, 1) := by decide +kernel
theorem dX6_kiln_1 : decode cX6_kiln 1 = .ok (.getfield 12, 3) := by decide +kernel
theorem dX6_kiln_4 : decode cX6_kiln 4 = .ok (.iload_n 1, 1) := by decide +kernel
theorem dX6_kiln_5 : decode cX6_kiln 5 = .ok (.invokevirtual 33, 3) := by decide +kernel
theorem dX6_kiln_8 : decode cX6_kiln 8 = .ok (.astore_n 3, 1) := by decide +kernel
theorem dX6_kiln_9 : decode cX6_kiln 9 = .ok (.aload_n 3, 1) := by decide +kernel
theorem dX6_kiln_10 : decode cX6_kiln 10 = .ok (.ifnonnull 5, 3) := by decide +kernel
theorem dX6_kiln_13 : decode cX6_kiln 13 = .ok (.iconst (-1), 1) := by decide +kernel
theorem dX6_kiln_14 : decode cX6_kiln 14 = .ok (.ireturn, 1) := by decide +kernel
theorem dX6_kiln_15 : decode cX6_kiln 15 = .ok (.iload_n 2, 1) := by decide +kernel
theorem dX6_kiln_16 : decode cX6_kiln 16 = .ok (.tableswitch 138 0 11 #[64, 69, 77, 82, 87, 92, 97, 102, 107, 112, 120, 129], 64) := by decide +kernel
theorem dX6_kiln_80 : decode cX6_kiln 80 = .ok (.aload_n 3, 1) := by decide +kernel
theorem dX6_kiln_81 : decode cX6_kiln 81 = .ok (.getfield 126, 3) := by decide +kernel
theorem dX6_kiln_84 : decode cX6_kiln 84 = .ok (.ireturn, 1) := by decide +kernel
theorem dX6_kiln_85 : decode cX6_kiln 85 = .ok (.aload_n 3, 1) := by decide +kernel
theorem dX6_kiln_86 : decode cX6_kiln 86 = .ok (.getfield 159, 3) := by decide +kernel
theorem dX6_kiln_89 : decode cX6_kiln 89 = .ok (.getfield 162, 3) := by decide +kernel
theorem dX6_kiln_92 : decode cX6_kiln 92 = .ok (.ireturn, 1) := by decide +kernel
theorem dX6_kiln_93 : decode cX6_kiln 93 = .ok (.aload_n 3, 1) := by decide +kernel
theorem dX6_kiln_94 : decode cX6_kiln 94 = .ok (.getfield 48, 3) := by decide +kernel
theorem dX6_kiln_97 : decode cX6_kiln 97 = .ok (.ireturn, 1) := by decide +kernel
theorem dX6_kiln_98 : decode cX6_kiln 98 = .ok (.aload_n 3, 1) := by decide +kernel
theorem dX6_kiln_99 : decode cX6_kiln 99 = .ok (.getfield 54, 3) := by decide +kernel
theorem dX6_kiln_102 : decode cX6_kiln 102 = .ok (.ireturn, 1) := by decide +kernel
theorem dX6_kiln_103 : decode cX6_kiln 103 = .ok (.aload_n 3, 1) := by decide +kernel
theorem dX6_kiln_104 : decode cX6_kiln 104 = .ok (.getfield 133, 3) := by decide +kernel
theorem dX6_kiln_107 : decode cX6_kiln 107 = .ok (.ireturn, 1) := by decide +kernel
theorem dX6_kiln_108 : decode cX6_kiln 108 = .ok (.aload_n 3, 1) := by decide +kernel
theorem dX6_kiln_109 : decode cX6_kiln 109 = .ok (.getfield 57, 3) := by decide +kernel
theorem dX6_kiln_112 : decode cX6_kiln 112 = .ok (.ireturn, 1) := by decide +kernel
theorem dX6_kiln_113 : decode cX6_kiln 113 = .ok (.aload_n 3, 1) := by decide +kernel
theorem dX6_kiln_114 : decode cX6_kiln 114 = .ok (.getfield 167, 3) := by decide +kernel
theorem dX6_kiln_117 : decode cX6_kiln 117 = .ok (.ireturn, 1) := by decide +kernel
theorem dX6_kiln_118 : decode cX6_kiln 118 = .ok (.aload_n 3, 1) := by decide +kernel
theorem dX6_kiln_119 : decode cX6_kiln 119 = .ok (.getfield 170, 3) := by decide +kernel
theorem dX6_kiln_122 : decode cX6_kiln 122 = .ok (.ireturn, 1) := by decide +kernel
theorem dX6_kiln_123 : decode cX6_kiln 123 = .ok (.aload_n 3, 1) := by decide +kernel
theorem dX6_kiln_124 : decode cX6_kiln 124 = .ok (.invokevirtual 173, 3) := by decide +kernel
theorem dX6_kiln_127 : decode cX6_kiln 127 = .ok (.ireturn, 1) := by decide +kernel
theorem dX6_kiln_128 : decode cX6_kiln 128 = .ok (.aload_n 3, 1) := by decide +kernel
theorem dX6_kiln_129 : decode cX6_kiln 129 = .ok (.getfield 159, 3) := by decide +kernel
theorem dX6_kiln_132 : decode cX6_kiln 132 = .ok (.invokevirtual 176, 3) := by decide +kernel
theorem dX6_kiln_135 : decode cX6_kiln 135 = .ok (.ireturn, 1) := by decide +kernel
theorem dX6_kiln_136 : decode cX6_kiln 136 = .ok (.aload_n 0, 1) := by decide +kernel
theorem dX6_kiln_137 : decode cX6_kiln 137 = .ok (.getfield 12, 3) := by decide +kernel
theorem dX6_kiln_140 : decode cX6_kiln 140 = .ok (.iload_n 1, 1) := by decide +kernel
theorem dX6_kiln_141 : decode cX6_kiln 141 = .ok (.invokevirtual 179, 3) := by decide +kernel
theorem dX6_kiln_144 : decode cX6_kiln 144 = .ok (.ireturn, 1) := by decide +kernel
theorem dX6_kiln_145 : decode cX6_kiln 145 = .ok (.aload_n 0, 1) := by decide +kernel
theorem dX6_kiln_146 : decode cX6_kiln 146 = .ok (.getfield 12, 3) := by decide +kernel
theorem dX6_kiln_149 : decode cX6_kiln 149 = .ok (.iload_n 1, 1) := by decide +kernel
theorem dX6_kiln_150 : decode cX6_kiln 150 = .ok (.invokevirtual 183, 3) := by decide +kernel
theorem dX6_kiln_153 : decode cX6_kiln 153 = .ok (.ireturn, 1) := by decide +kernel
theorem dX6_kiln_154 : decode cX6_kiln 154 = .ok (.bipush (-2), 2) := by decide +kernel
theorem dX6_kiln_156 : decode cX6_kiln 156 = .ok (.ireturn, 1) := by decide +kernel
theorem dX6_ofYear_0 : decode cX6_ofYear 0 = .ok (.aload_n 0, 1) := by decide +kernel
theorem dX6_ofYear_1 : decode cX6_ofYear 1 = .ok (.getfield 12, 3) := by decide +kernel
theorem dX6_ofYear_4 : decode cX6_ofYear 4 = .ok (.iload_n 1, 1) := by decide +kernel
theorem dX6_ofYear_5 : decode cX6_ofYear 5 = .ok (.invokevirtual 33, 3) := by decide +kernel
theorem dX6_ofYear_8 : decode cX6_ofYear 8 = .ok (.astore_n 3, 1) := by decide +kernel
theorem dX6_ofYear_9 : decode cX6_ofYear 9 = .ok (.aload_n 3, 1) := by decide +kernel
theorem dX6_ofYear_10 : decode cX6_ofYear 10 = .ok (.ifnonnull 5, 3) := by decide +kernel
theorem dX6_ofYear_13 : decode cX6_ofYear 13 = .ok (.iconst (-1), 1) := by decide +kernel
theorem dX6_ofYear_14 : decode cX6_ofYear 14 = .ok (.ireturn, 1) := by decide +kernel
theorem dX6_ofYear_15 : decode cX6_ofYear 15 = .ok (.iload_n 2, 1) := by decide +kernel
theorem dX6_ofYear_16 : decode cX6_ofYear 16 = .ok (.iconst 0, 1) := by decide +kernel
theorem dX6_ofYear_17 : decode cX6_ofYear 17 = .ok (.aload_n 0, 1) := by decide +kernel
theorem dX6_ofYear_18 : decode cX6_ofYear 18 = .ok (.getfield 12, 3) := by decide +kernel
theorem dX6_ofYear_21 : decode cX6_ofYear 21 = .ok (.getfield 140, 3) := by decide +kernel
theorem dX6_ofYear_24 : decode cX6_ofYear 24 = .ok (.invokestatic 37, 3) := by decide +kernel
theorem dX6_ofYear_27 : decode cX6_ofYear 27 = .ok (.ifCond .ne 6, 3) := by decide +kernel
theorem dX6_ofYear_30 : decode cX6_ofYear 30 = .ok (.bipush (-2), 2) := by decide +kernel
theorem dX6_ofYear_32 : decode cX6_ofYear 32 = .ok (.ireturn, 1) := by decide +kernel
theorem dX6_ofYear_33 : decode cX6_ofYear 33 = .ok (.aload_n 3, 1) := by decide +kernel
theorem dX6_ofYear_34 : decode cX6_ofYear 34 = .ok (.getfield 159, 3) := by decide +kernel
theorem dX6_ofYear_37 : decode cX6_ofYear 37 = .ok (.iload_n 2, 1) := by decide +kernel
theorem dX6_ofYear_38 : decode cX6_ofYear 38 = .ok (.invokevirtual 186, 3) := by decide +kernel
theorem dX6_ofYear_41 : decode cX6_ofYear 41 = .ok (.ireturn, 1) := by decide +kernel
theorem dX6_order_0 : decode cX6_order 0 = .ok (.iload_n 2, 1) := by decide +kernel
theorem dX6_order_1 : decode cX6_order 1 = .ok (.ifCond .lt 12, 3) := by decide +kernel
theorem dX6_order_4 : decode cX6_order 4 = .ok (.iload_n 3, 1) := by decide +kernel
theorem dX6_order_5 : decode cX6_order 5 = .ok (.iconst 0, 1) := by decide +kernel
theorem dX6_order_6 : decode cX6_order 6 = .ok (.iconst 3, 1) := by decide +kernel
theorem dX6_order_7 : decode cX6_order 7 = .ok (.invokestatic 37, 3) := by decide +kernel
theorem dX6_order_10 : decode cX6_order 10 = .ok (.ifCond .ne 6, 3) := by decide +kernel
theorem dX6_order_13 : decode cX6_order 13 = .ok (.bipush (-2), 2) := by decide +kernel
theorem dX6_order_15 : decode cX6_order 15 = .ok (.ireturn, 1) := by decide +kernel
theorem dX6_order_16 : decode cX6_order 16 = .ok (.aload_n 0, 1) := by decide +kernel
theorem dX6_order_17 : decode cX6_order 17 = .ok (.getfield 12, 3) := by decide +kernel
theorem dX6_order_20 : decode cX6_order 20 = .ok (.iload_n 1, 1) := by decide +kernel
theorem dX6_order_21 : decode cX6_order 21 = .ok (.iload_n 2, 1) := by decide +kernel
theorem dX6_order_22 : decode cX6_order 22 = .ok (.invokevirtual 189, 3) := by decide +kernel
theorem dX6_order_25 : decode cX6_order 25 = .ok (.astore 4, 2) := by decide +kernel
theorem dX6_order_27 : decode cX6_order 27 = .ok (.aload 4, 2) := by decide +kernel
theorem dX6_order_29 : decode cX6_order 29 = .ok (.ifnonnull 6, 3) := by decide +kernel
theorem dX6_order_32 : decode cX6_order 32 = .ok (.bipush (-5), 2) := by decide +kernel
theorem dX6_order_34 : decode cX6_order 34 = .ok (.ireturn, 1) := by decide +kernel
theorem dX6_order_35 : decode cX6_order 35 = .ok (.iload_n 3, 1) := by decide +kernel
theorem dX6_order_36 : decode cX6_order 36 = .ok (.tableswitch 46 0 2 #[28, 34, 40], 28) := by decide +kernel
theorem dX6_order_64 : decode cX6_order 64 = .ok (.aload 4, 2) := by decide +kernel
theorem dX6_order_66 : decode cX6_order 66 = .ok (.getfield 193, 3) := by decide +kernel
theorem dX6_order_69 : decode cX6_order 69 = .ok (.ireturn, 1) := by decide +kernel
theorem dX6_order_70 : decode cX6_order 70 = .ok (.aload 4, 2) := by decide +kernel
theorem dX6_order_72 : decode cX6_order 72 = .ok (.getfield 196, 3) := by decide +kernel
theorem dX6_order_75 : decode cX6_order 75 = .ok (.ireturn, 1) := by decide +kernel
theorem dX6_order_76 : decode cX6_order 76 = .ok (.aload 4, 2) := by decide +kernel
theorem dX6_order_78 : decode cX6_order 78 = .ok (.getfield 114, 3) := by decide +kernel
theorem dX6_order_81 : decode cX6_order 81 = .ok (.ireturn, 1) := by decide +kernel
theorem dX6_order_82 : decode cX6_order 82 = .ok (.aload 4, 2) := by decide +kernel
theorem dX6_order_84 : decode cX6_order 84 = .ok (.getfield 197, 3) := by decide +kernel
theorem dX6_order_87 : decode cX6_order 87 = .ok (.ireturn, 1) := by decide +kernel
theorem dX6_depth_0 : decode cX6_depth 0 = .ok (.iload_n 2, 1) := by decide +kernel
theorem dX6_depth_1 : decode cX6_depth 1 = .ok (.iconst 1, 1) := by decide +kernel
theorem dX6_depth_2 : decode cX6_depth 2 = .ok (.sipush 500, 3) := by decide +kernel
theorem dX6_depth_5 : decode cX6_depth 5 = .ok (.invokestatic 37, 3) := by decide +kernel
theorem dX6_depth_8 : decode cX6_depth 8 = .ok (.ifCond .ne 6, 3) := by decide +kernel
theorem dX6_depth_11 : decode cX6_depth 11 = .ok (.bipush (-2), 2) := by decide +kernel
theorem dX6_depth_13 : decode cX6_depth 13 = .ok (.ireturn, 1) := by decide +kernel
theorem dX6_depth_14 : decode cX6_depth 14 = .ok (.iconst 0, 1) := by decide +kernel
theorem dX6_depth_15 : decode cX6_depth 15 = .ok (.istore_n 3, 1) := by decide +kernel
theorem dX6_depth_16 : decode cX6_depth 16 = .ok (.aload_n 0, 1) := by decide +kernel
theorem dX6_depth_17 : decode cX6_depth 17 = .ok (.getfield 12, 3) := by decide +kernel
theorem dX6_depth_20 : decode cX6_depth 20 = .ok (.getfield 198, 3) := by decide +kernel
theorem dX6_depth_23 : decode cX6_depth 23 = .ok (.astore 4, 2) := by decide +kernel
theorem dX6_depth_25 : decode cX6_depth 25 = .ok (.aload 4, 2) := by decide +kernel
theorem dX6_depth_27 : decode cX6_depth 27 = .ok (.arraylength, 1) := by decide +kernel
theorem dX6_depth_28 : decode cX6_depth 28 = .ok (.istore 5, 2) := by decide +kernel
theorem dX6_depth_30 : decode cX6_depth 30 = .ok (.iconst 0, 1) := by decide +kernel
theorem dX6_depth_31 : decode cX6_depth 31 = .ok (.istore 6, 2) := by decide +kernel
theorem dX6_depth_33 : decode cX6_depth 33 = .ok (.iload 6, 2) := by decide +kernel
theorem dX6_depth_35 : decode cX6_depth 35 = .ok (.iload 5, 2) := by decide +kernel
theorem dX6_depth_37 : decode cX6_depth 37 = .ok (.if_icmp .ge 42, 3) := by decide +kernel
theorem dX6_depth_40 : decode cX6_depth 40 = .ok (.aload 4, 2) := by decide +kernel
theorem dX6_depth_42 : decode cX6_depth 42 = .ok (.iload 6, 2) := by decide +kernel
theorem dX6_depth_44 : decode cX6_depth 44 = .ok (.aaload, 1) := by decide +kernel
theorem dX6_depth_45 : decode cX6_depth 45 = .ok (.astore 7, 2) := by decide +kernel
theorem dX6_depth_47 : decode cX6_depth 47 = .ok (.aload 7, 2) := by decide +kernel
theorem dX6_depth_49 : decode cX6_depth 49 = .ok (.getfield 202, 3) := by decide +kernel
theorem dX6_depth_52 : decode cX6_depth 52 = .ok (.iload_n 1, 1) := by decide +kernel
theorem dX6_depth_53 : decode cX6_depth 53 = .ok (.if_icmp .eq 20, 3) := by decide +kernel
theorem dX6_depth_56 : decode cX6_depth 56 = .ok (.aload 7, 2) := by decide +kernel
theorem dX6_depth_58 : decode cX6_depth 58 = .ok (.iload_n 2, 1) := by decide +kernel
theorem dX6_depth_59 : decode cX6_depth 59 = .ok (.invokevirtual 203, 3) := by decide +kernel
theorem dX6_depth_62 : decode cX6_depth 62 = .ok (.ifCond .eq 11, 3) := by decide +kernel
theorem dX6_depth_65 : decode cX6_depth 65 = .ok (.iload_n 3, 1) := by decide +kernel
theorem dX6_depth_66 : decode cX6_depth 66 = .ok (.aload 7, 2) := by decide +kernel
theorem dX6_depth_68 : decode cX6_depth 68 = .ok (.getfield 114, 3) := by decide +kernel
theorem dX6_depth_71 : decode cX6_depth 71 = .ok (.iadd, 1) := by decide +kernel
theorem dX6_depth_72 : decode cX6_depth 72 = .ok (.istore_n 3, 1) := by decide +kernel
theorem dX6_depth_73 : decode cX6_depth 73 = .ok (.iinc 6 1, 3) := by decide +kernel
theorem dX6_depth_76 : decode cX6_depth 76 = .ok (.goto (-43), 3) := by decide +kernel
theorem dX6_depth_79 : decode cX6_depth 79 = .ok (.iload_n 3, 1) := by decide +kernel
theorem dX6_depth_80 : decode cX6_depth 80 = .ok (.ireturn, 1) := by decide +kernel
theorem dX6_count_0 : decode cX6_count 0 = .ok (.iload_n 1, 1) := by decide +kernel
theorem dX6_count_1 : decode cX6_count 1 = .ok (.tableswitch 289 0 20 #[99, 107, 115, 123, 131, 139, 147, 155, 163, 171, 179, 202, 210, 218, 226, 236, 246, 256, 266, 276, 281], 99) := by decide +kernel
theorem dX6_count_100 : decode cX6_count 100 = .ok (.aload_n 0, 1) := by decide +kernel
theorem dX6_count_101 : decode cX6_count 101 = .ok (.getfield 12, 3) := by decide +kernel
theorem dX6_count_104 : decode cX6_count 104 = .ok (.getfield 140, 3) := by decide +kernel
theorem dX6_count_107 : decode cX6_count 107 = .ok (.ireturn, 1) := by decide +kernel
theorem dX6_count_108 : decode cX6_count 108 = .ok (.aload_n 0, 1) := by decide +kernel
theorem dX6_count_109 : decode cX6_count 109 = .ok (.getfield 12, 3) := by decide +kernel
theorem dX6_count_112 : decode cX6_count 112 = .ok (.invokevirtual 207, 3) := by decide +kernel
theorem dX6_count_115 : decode cX6_count 115 = .ok (.ireturn, 1) := by decide +kernel
theorem dX6_count_116 : decode cX6_count 116 = .ok (.aload_n 0, 1) := by decide +kernel
theorem dX6_count_117 : decode cX6_count 117 = .ok (.getfield 12, 3) := by decide +kernel
theorem dX6_count_120 : decode cX6_count 120 = .ok (.getfield 210, 3) := by decide +kernel
theorem dX6_count_123 : decode cX6_count 123 = .ok (.ireturn, 1) := by decide +kernel
theorem dX6_count_124 : decode cX6_count 124 = .ok (.aload_n 0, 1) := by decide +kernel
theorem dX6_count_125 : decode cX6_count 125 = .ok (.getfield 12, 3) := by decide +kernel
theorem dX6_count_128 : decode cX6_count 128 = .ok (.getfield 213, 3) := by decide +kernel
theorem dX6_count_131 : decode cX6_count 131 = .ok (.ireturn, 1) := by decide +kernel
theorem dX6_count_132 : decode cX6_count 132 = .ok (.aload_n 0, 1) := by decide +kernel
theorem dX6_count_133 : decode cX6_count 133 = .ok (.getfield 12, 3) := by decide +kernel
theorem dX6_count_136 : decode cX6_count 136 = .ok (.getfield 216, 3) := by decide +kernel
theorem dX6_count_139 : decode cX6_count 139 = .ok (.ireturn, 1) := by decide +kernel
theorem dX6_count_140 : decode cX6_count 140 = .ok (.aload_n 0, 1) := by decide +kernel
theorem dX6_count_141 : decode cX6_count 141 = .ok (.getfield 12, 3) := by decide +kernel
theorem dX6_count_144 : decode cX6_count 144 = .ok (.getfield 123, 3) := by decide +kernel
theorem dX6_count_147 : decode cX6_count 147 = .ok (.ireturn, 1) := by decide +kernel
theorem dX6_count_148 : decode cX6_count 148 = .ok (.aload_n 0, 1) := by decide +kernel
theorem dX6_count_149 : decode cX6_count 149 = .ok (.getfield 12, 3) := by decide +kernel
theorem dX6_count_152 : decode cX6_count 152 = .ok (.getfield 219, 3) := by decide +kernel
theorem dX6_count_155 : decode cX6_count 155 = .ok (.ireturn, 1) := by decide +kernel
theorem dX6_count_156 : decode cX6_count 156 = .ok (.aload_n 0, 1) := by decide +kernel
theorem dX6_count_157 : decode cX6_count 157 = .ok (.getfield 12, 3) := by decide +kernel
theorem dX6_count_160 : decode cX6_count 160 = .ok (.invokevirtual 222, 3) := by decide +kernel
theorem dX6_count_163 : decode cX6_count 163 = .ok (.ireturn, 1) := by decide +kernel
theorem dX6_count_164 : decode cX6_count 164 = .ok (.aload_n 0, 1) := by decide +kernel
theorem dX6_count_165 : decode cX6_count 165 = .ok (.getfield 12, 3) := by decide +kernel
theorem dX6_count_168 : decode cX6_count 168 = .ok (.getfield 225, 3) := by decide +kernel
theorem dX6_count_171 : decode cX6_count 171 = .ok (.ireturn, 1) := by decide +kernel
theorem dX6_count_172 : decode cX6_count 172 = .ok (.aload_n 0, 1) := by decide +kernel
theorem dX6_count_173 : decode cX6_count 173 = .ok (.getfield 12, 3) := by decide +kernel
theorem dX6_count_176 : decode cX6_count 176 = .ok (.getfield 228, 3) := by decide +kernel
theorem dX6_count_179 : decode cX6_count 179 = .ok (.ireturn, 1) := by decide +kernel
theorem dX6_count_180 : decode cX6_count 180 = .ok (.aload_n 0, 1) := by decide +kernel
theorem dX6_count_181 : decode cX6_count 181 = .ok (.getfield 12, 3) := by decide +kernel
theorem dX6_count_184 : decode cX6_count 184 = .ok (.getfield 228, 3) := by decide +kernel
theorem dX6_count_187 : decode cX6_count 187 = .ok (.ifCond .ne 8, 3) := by decide +kernel
theorem dX6_count_190 : decode cX6_count 190 = .ok (.bipush (-5), 2) := by decide +kernel
theorem dX6_count_192 : decode cX6_count 192 = .ok (.goto 10, 3) := by decide +kernel
theorem dX6_count_195 : decode cX6_count 195 = .ok (.aload_n 0, 1) := by decide +kernel
theorem dX6_count_196 : decode cX6_count 196 = .ok (.getfield 12, 3) := by decide +kernel
theorem dX6_count_199 : decode cX6_count 199 = .ok (.getfield 231, 3) := by decide +kernel
theorem dX6_count_202 : decode cX6_count 202 = .ok (.ireturn, 1) := by decide +kernel
theorem dX6_count_203 : decode cX6_count 203 = .ok (.aload_n 0, 1) := by decide +kernel
theorem dX6_count_204 : decode cX6_count 204 = .ok (.getfield 12, 3) := by decide +kernel
theorem dX6_count_207 : decode cX6_count 207 = .ok (.invokevirtual 234, 3) := by decide +kernel
theorem dX6_count_210 : decode cX6_count 210 = .ok (.ireturn, 1) := by decide +kernel
theorem dX6_count_211 : decode cX6_count 211 = .ok (.aload_n 0, 1) := by decide +kernel
theorem dX6_count_212 : decode cX6_count 212 = .ok (.getfield 12, 3) := by decide +kernel
theorem dX6_count_215 : decode cX6_count 215 = .ok (.getfield 237, 3) := by decide +kernel
theorem dX6_count_218 : decode cX6_count 218 = .ok (.ireturn, 1) := by decide +kernel
theorem dX6_count_219 : decode cX6_count 219 = .ok (.aload_n 0, 1) := by decide +kernel
theorem dX6_count_220 : decode cX6_count 220 = .ok (.getfield 12, 3) := by decide +kernel
theorem dX6_count_223 : decode cX6_count 223 = .ok (.getfield 240, 3) := by decide +kernel
theorem dX6_count_226 : decode cX6_count 226 = .ok (.ireturn, 1) := by decide +kernel
theorem dX6_count_227 : decode cX6_count 227 = .ok (.aload_n 0, 1) := by decide +kernel
theorem dX6_count_228 : decode cX6_count 228 = .ok (.getfield 12, 3) := by decide +kernel
theorem dX6_count_231 : decode cX6_count 231 = .ok (.getfield 60, 3) := by decide +kernel
theorem dX6_count_234 : decode cX6_count 234 = .ok (.iconst 0, 1) := by decide +kernel
theorem dX6_count_235 : decode cX6_count 235 = .ok (.iaload, 1) := by decide +kernel
theorem dX6_count_236 : decode cX6_count 236 = .ok (.ireturn, 1) := by decide +kernel
theorem dX6_count_237 : decode cX6_count 237 = .ok (.aload_n 0, 1) := by decide +kernel
theorem dX6_count_238 : decode cX6_count 238 = .ok (.getfield 12, 3) := by decide +kernel
theorem dX6_count_241 : decode cX6_count 241 = .ok (.getfield 60, 3) := by decide +kernel
theorem dX6_count_244 : decode cX6_count 244 = .ok (.iconst 1, 1) := by decide +kernel
theorem dX6_count_245 : decode cX6_count 245 = .ok (.iaload, 1) := by decide +kernel
theorem dX6_count_246 : decode cX6_count 246 = .ok (.ireturn, 1) := by decide +kernel
theorem dX6_count_247 : decode cX6_count 247 = .ok (.aload_n 0, 1) := by decide +kernel
theorem dX6_count_248 : decode cX6_count 248 = .ok (.getfield 12, 3) := by decide +kernel
theorem dX6_count_251 : decode cX6_count 251 = .ok (.getfield 60, 3) := by decide +kernel
theorem dX6_count_254 : decode cX6_count 254 = .ok (.iconst 2, 1) := by decide +kernel
theorem dX6_count_255 : decode cX6_count 255 = .ok (.iaload, 1) := by decide +kernel
theorem dX6_count_256 : decode cX6_count 256 = .ok (.ireturn, 1) := by decide +kernel
theorem dX6_count_257 : decode cX6_count 257 = .ok (.aload_n 0, 1) := by decide +kernel
theorem dX6_count_258 : decode cX6_count 258 = .ok (.getfield 12, 3) := by decide +kernel
theorem dX6_count_261 : decode cX6_count 261 = .ok (.getfield 60, 3) := by decide +kernel
theorem dX6_count_264 : decode cX6_count 264 = .ok (.iconst 3, 1) := by decide +kernel
theorem dX6_count_265 : decode cX6_count 265 = .ok (.iaload, 1) := by decide +kernel
theorem dX6_count_266 : decode cX6_count 266 = .ok (.ireturn, 1) := by decide +kernel
theorem dX6_count_267 : decode cX6_count 267 = .ok (.aload_n 0, 1) := by decide +kernel
theorem dX6_count_268 : decode cX6_count 268 = .ok (.getfield 12, 3) := by decide +kernel
theorem dX6_count_271 : decode cX6_count 271 = .ok (.getfield 60, 3) := by decide +kernel
theorem dX6_count_274 : decode cX6_count 274 = .ok (.iconst 4, 1) := by decide +kernel
theorem dX6_count_275 : decode cX6_count 275 = .ok (.iaload, 1) := by decide +kernel
theorem dX6_count_276 : decode cX6_count 276 = .ok (.ireturn, 1) := by decide +kernel
theorem dX6_count_277 : decode cX6_count 277 = .ok (.aload_n 0, 1) := by decide +kernel
theorem dX6_count_278 : decode cX6_count 278 = .ok (.getfield 153, 3) := by decide +kernel
theorem dX6_count_281 : decode cX6_count 281 = .ok (.ireturn, 1) := by decide +kernel
theorem dX6_count_282 : decode cX6_count 282 = .ok (.aload_n 0, 1) := by decide +kernel
theorem dX6_count_283 : decode cX6_count 283 = .ok (.getfield 29, 3) := by decide +kernel
theorem dX6_count_286 : decode cX6_count 286 = .ok (.getfield 150, 3) := by decide +kernel
theorem dX6_count_289 : decode cX6_count 289 = .ok (.ireturn, 1) := by decide +kernel
theorem dX6_count_290 : decode cX6_count 290 = .ok (.bipush (-2), 2) := by decide +kernel
theorem dX6_count_292 : decode cX6_count 292 = .ok (.ireturn, 1) := by decide +kernel
theorem dX6_isWithin_0 : decode cX6_isWithin 0 = .ok (.iload_n 0, 1) := by decide +kernel
theorem dX6_isWithin_1 : decode cX6_isWithin 1 = .ok (.iload_n 1, 1) := by decide +kernel
theorem dX6_isWithin_2 : decode cX6_isWithin 2 = .ok (.if_icmp .lt 12, 3) := by decide +kernel
theorem dX6_isWithin_5 : decode cX6_isWithin 5 = .ok (.iload_n 0, 1) := by decide +kernel
theorem dX6_isWithin_6 : decode cX6_isWithin 6 = .ok (.iload_n 2, 1) := by decide +kernel
theorem dX6_isWithin_7 : decode cX6_isWithin 7 = .ok (.if_icmp .gt 7, 3) := by decide +kernel
theorem dX6_isWithin_10 : decode cX6_isWithin 10 = .ok (.iconst 1, 1) := by decide +kernel
theorem dX6_isWithin_11 : decode cX6_isWithin 11 = .ok (.goto 4, 3) := by decide +kernel
theorem dX6_isWithin_14 : decode cX6_isWithin 14 = .ok (.iconst 0, 1) := by decide +kernel
theorem dX6_isWithin_15 : decode cX6_isWithin 15 = .ok (.ireturn, 1) := by decide +kernel
theorem dX6_isSetting_0 : decode cX6_isSetting 0 = .ok (.iload_n 0, 1) := by decide +kernel
theorem dX6_isSetting_1 : decode cX6_isSetting 1 = .ok (.iconst 0, 1) := by decide +kernel
theorem dX6_isSetting_2 : decode cX6_isSetting 2 = .ok (.getstatic 243, 3) := by decide +kernel
theorem dX6_isSetting_5 : decode cX6_isSetting 5 = .ok (.arraylength, 1) := by decide +kernel
theorem dX6_isSetting_6 : decode cX6_isSetting 6 = .ok (.iconst 1, 1) := by decide +kernel
theorem dX6_isSetting_7 : decode cX6_isSetting 7 = .ok (.isub, 1) := by decide +kernel
theorem dX6_isSetting_8 : decode cX6_isSetting 8 = .ok (.invokestatic 37, 3) := by decide +kernel
theorem dX6_isSetting_11 : decode cX6_isSetting 11 = .ok (.ifCond .eq 24, 3) := by decide +kernel
theorem dX6_isSetting_14 : decode cX6_isSetting 14 = .ok (.iload_n 1, 1) := by decide +kernel
theorem dX6_isSetting_15 : decode cX6_isSetting 15 = .ok (.getstatic 246, 3) := by decide +kernel
theorem dX6_isSetting_18 : decode cX6_isSetting 18 = .ok (.iload_n 0, 1) := by decide +kernel
theorem dX6_isSetting_19 : decode cX6_isSetting 19 = .ok (.iaload, 1) := by decide +kernel
theorem dX6_isSetting_20 : decode cX6_isSetting 20 = .ok (.getstatic 249, 3) := by decide +kernel
theorem dX6_isSetting_23 : decode cX6_isSetting 23 = .ok (.iload_n 0, 1) := by decide +kernel
theorem dX6_isSetting_24 : decode cX6_isSetting 24 = .ok (.iaload, 1) := by decide +kernel
theorem dX6_isSetting_25 : decode cX6_isSetting 25 = .ok (.invokestatic 37, 3) := by decide +kernel
theorem dX6_isSetting_28 : decode cX6_isSetting 28 = .ok (.ifCond .eq 7, 3) := by decide +kernel
theorem dX6_isSetting_31 : decode cX6_isSetting 31 = .ok (.iconst 1, 1) := by decide +kernel
theorem dX6_isSetting_32 : decode cX6_isSetting 32 = .ok (.goto 4, 3) := by decide +kernel
theorem dX6_isSetting_35 : decode cX6_isSetting 35 = .ok (.iconst 0, 1) := by decide +kernel
theorem dX6_isSetting_36 : decode cX6_isSetting 36 = .ok (.ireturn, 1) := by decide +kernel
theorem dX6_oneComes_0 : decode cX6_oneComes 0 = .ok (.aload_n 0, 1) := by decide +kernel
theorem dX6_oneComes_1 : decode cX6_oneComes 1 = .ok (.getfield 12, 3) := by decide +kernel
theorem dX6_oneComes_4 : decode cX6_oneComes 4 = .ok (.iload_n 1, 1) := by decide +kernel
theorem dX6_oneComes_5 : decode cX6_oneComes 5 = .ok (.iload_n 2, 1) := by decide +kernel
theorem dX6_oneComes_6 : decode cX6_oneComes 6 = .ok (.iload_n 3, 1) := by decide +kernel
theorem dX6_oneComes_7 : decode cX6_oneComes 7 = .ok (.iload 4, 2) := by decide +kernel
theorem dX6_oneComes_9 : decode cX6_oneComes 9 = .ok (.invokevirtual 98, 3) := by decide +kernel
theorem dX6_oneComes_12 : decode cX6_oneComes 12 = .ok (.istore 5, 2) := by decide +kernel
theorem dX6_oneComes_14 : decode cX6_oneComes 14 = .ok (.iload 5, 2) := by decide +kernel
theorem dX6_oneComes_16 : decode cX6_oneComes 16 = .ok (.ifCond .eq 6, 3) := by decide +kernel
theorem dX6_oneComes_19 : decode cX6_oneComes 19 = .ok (.iload 5, 2) := by decide +kernel
theorem dX6_oneComes_21 : decode cX6_oneComes 21 = .ok (.ireturn, 1) := by decide +kernel
theorem dX6_oneComes_22 : decode cX6_oneComes 22 = .ok (.aload_n 0, 1) := by decide +kernel
theorem dX6_oneComes_23 : decode cX6_oneComes 23 = .ok (.invokevirtual 41, 3) := by decide +kernel
theorem dX6_oneComes_26 : decode cX6_oneComes 26 = .ok (.aload_n 0, 1) := by decide +kernel
theorem dX6_oneComes_27 : decode cX6_oneComes 27 = .ok (.getfield 12, 3) := by decide +kernel
theorem dX6_oneComes_30 : decode cX6_oneComes 30 = .ok (.iload_n 1, 1) := by decide +kernel
theorem dX6_oneComes_31 : decode cX6_oneComes 31 = .ok (.iload_n 2, 1) := by decide +kernel
theorem dX6_oneComes_32 : decode cX6_oneComes 32 = .ok (.iload_n 3, 1) := by decide +kernel
theorem dX6_oneComes_33 : decode cX6_oneComes 33 = .ok (.iload 4, 2) := by decide +kernel
theorem dX6_oneComes_35 : decode cX6_oneComes 35 = .ok (.invokevirtual 104, 3) := by decide +kernel
theorem dX6_oneComes_38 : decode cX6_oneComes 38 = .ok (.ireturn, 1) := by decide +kernel
theorem dX6_record_0 : decode cX6_record 0 = .ok (.aload_n 0, 1) := by decide +kernel
theorem dX6_record_1 : decode cX6_record 1 = .ok (.getfield 16, 3) := by decide +kernel
theorem dX6_record_4 : decode cX6_record 4 = .ok (.aload_n 0, 1) := by decide +kernel
theorem dX6_record_5 : decode cX6_record 5 = .ok (.getfield 12, 3) := by decide +kernel
theorem dX6_record_8 : decode cX6_record 8 = .ok (.invokevirtual 72, 3) := by decide +kernel
theorem dX6_record_11 : decode cX6_record 11 = .ok (.aload_n 0, 1) := by decide +kernel
theorem dX6_record_12 : decode cX6_record 12 = .ok (.invokevirtual 107, 3) := by decide +kernel
theorem dX6_record_15 : decode cX6_record 15 = .ok (.return_, 1) := by decide +kernel
theorem dX6_pushSpare_0 : decode cX6_pushSpare 0 = .ok (.aload_n 0, 1) := by decide +kernel
theorem dX6_pushSpare_1 : decode cX6_pushSpare 1 = .ok (.getfield 22, 3) := by decide +kernel
theorem dX6_pushSpare_4 : decode cX6_pushSpare 4 = .ok (.aload_n 0, 1) := by decide +kernel
theorem dX6_pushSpare_5 : decode cX6_pushSpare 5 = .ok (.getfield 22, 3) := by decide +kernel
theorem dX6_pushSpare_8 : decode cX6_pushSpare 8 = .ok (.arraylength, 1) := by decide +kernel
theorem dX6_pushSpare_9 : decode cX6_pushSpare 9 = .ok (.iconst 1, 1) := by decide +kernel
theorem dX6_pushSpare_10 : decode cX6_pushSpare 10 = .ok (.isub, 1) := by decide +kernel
theorem dX6_pushSpare_11 : decode cX6_pushSpare 11 = .ok (.aaload, 1) := by decide +kernel
theorem dX6_pushSpare_12 : decode cX6_pushSpare 12 = .ok (.astore_n 1, 1) := by decide +kernel
theorem dX6_pushSpare_13 : decode cX6_pushSpare 13 = .ok (.aload_n 0, 1) := by decide +kernel
theorem dX6_pushSpare_14 : decode cX6_pushSpare 14 = .ok (.getfield 22, 3) := by decide +kernel
theorem dX6_pushSpare_17 : decode cX6_pushSpare 17 = .ok (.arraylength, 1) := by decide +kernel
theorem dX6_pushSpare_18 : decode cX6_pushSpare 18 = .ok (.iconst 1, 1) := by decide +kernel
theorem dX6_pushSpare_19 : decode cX6_pushSpare 19 = .ok (.isub, 1) := by decide +kernel
theorem dX6_pushSpare_20 : decode cX6_pushSpare 20 = .ok (.istore_n 2, 1) := by decide +kernel
theorem dX6_pushSpare_21 : decode cX6_pushSpare 21 = .ok (.iload_n 2, 1) := by decide +kernel
theorem dX6_pushSpare_22 : decode cX6_pushSpare 22 = .ok (.ifCond .le 23, 3) := by decide +kernel
theorem dX6_pushSpare_25 : decode cX6_pushSpare 25 = .ok (.aload_n 0, 1) := by decide +kernel
theorem dX6_pushSpare_26 : decode cX6_pushSpare 26 = .ok (.getfield 22, 3) := by decide +kernel
theorem dX6_pushSpare_29 : decode cX6_pushSpare 29 = .ok (.iload_n 2, 1) := by decide +kernel
theorem dX6_pushSpare_30 : decode cX6_pushSpare 30 = .ok (.aload_n 0, 1) := by decide +kernel
theorem dX6_pushSpare_31 : decode cX6_pushSpare 31 = .ok (.getfield 22, 3) := by decide +kernel
theorem dX6_pushSpare_34 : decode cX6_pushSpare 34 = .ok (.iload_n 2, 1) := by decide +kernel
theorem dX6_pushSpare_35 : decode cX6_pushSpare 35 = .ok (.iconst 1, 1) := by decide +kernel
theorem dX6_pushSpare_36 : decode cX6_pushSpare 36 = .ok (.isub, 1) := by decide +kernel
theorem dX6_pushSpare_37 : decode cX6_pushSpare 37 = .ok (.aaload, 1) := by decide +kernel
theorem dX6_pushSpare_38 : decode cX6_pushSpare 38 = .ok (.aastore, 1) := by decide +kernel
theorem dX6_pushSpare_39 : decode cX6_pushSpare 39 = .ok (.iinc 2 (-1), 3) := by decide +kernel
theorem dX6_pushSpare_42 : decode cX6_pushSpare 42 = .ok (.goto (-21), 3) := by decide +kernel
theorem dX6_pushSpare_45 : decode cX6_pushSpare 45 = .ok (.aload_n 0, 1) := by decide +kernel
theorem dX6_pushSpare_46 : decode cX6_pushSpare 46 = .ok (.getfield 22, 3) := by decide +kernel
theorem dX6_pushSpare_49 : decode cX6_pushSpare 49 = .ok (.iconst 0, 1) := by decide +kernel
theorem dX6_pushSpare_50 : decode cX6_pushSpare 50 = .ok (.aload_n 0, 1) := by decide +kernel
theorem dX6_pushSpare_51 : decode cX6_pushSpare 51 = .ok (.getfield 16, 3) := by decide +kernel
theorem dX6_pushSpare_54 : decode cX6_pushSpare 54 = .ok (.aastore, 1) := by decide +kernel
theorem dX6_pushSpare_55 : decode cX6_pushSpare 55 = .ok (.aload_n 0, 1) := by decide +kernel
theorem dX6_pushSpare_56 : decode cX6_pushSpare 56 = .ok (.aload_n 1, 1) := by decide +kernel
theorem dX6_pushSpare_57 : decode cX6_pushSpare 57 = .ok (.putfield 16, 3) := by decide +kernel
theorem dX6_pushSpare_60 : decode cX6_pushSpare 60 = .ok (.aload_n 0, 1) := by decide +kernel
theorem dX6_pushSpare_61 : decode cX6_pushSpare 61 = .ok (.aload_n 0, 1) := by decide +kernel
theorem dX6_pushSpare_62 : decode cX6_pushSpare 62 = .ok (.getfield 153, 3) := by decide +kernel
theorem dX6_pushSpare_65 : decode cX6_pushSpare 65 = .ok (.iconst 1, 1) := by decide +kernel
theorem dX6_pushSpare_66 : decode cX6_pushSpare 66 = .ok (.iadd, 1) := by decide +kernel
theorem dX6_pushSpare_67 : decode cX6_pushSpare 67 = .ok (.aload_n 0, 1) := by decide +kernel
theorem dX6_pushSpare_68 : decode cX6_pushSpare 68 = .ok (.getfield 22, 3) := by decide +kernel
theorem dX6_pushSpare_71 : decode cX6_pushSpare 71 = .ok (.arraylength, 1) := by decide +kernel
theorem dX6_pushSpare_72 : decode cX6_pushSpare 72 = .ok (.invokestatic 252, 3) := by decide +kernel
theorem dX6_pushSpare_75 : decode cX6_pushSpare 75 = .ok (.putfield 153, 3) := by decide +kernel
theorem dX6_pushSpare_78 : decode cX6_pushSpare 78 = .ok (.return_, 1) := by decide +kernel
theorem dX6_swapWithSpare_0 : decode cX6_swapWithSpare 0 = .ok (.aload_n 0, 1) := by decide +kernel
theorem dX6_swapWithSpare_1 : decode cX6_swapWithSpare 1 = .ok (.getfield 12, 3) := by decide +kernel
theorem dX6_swapWithSpare_4 : decode cX6_swapWithSpare 4 = .ok (.astore_n 1, 1) := by decide +kernel
theorem dX6_swapWithSpare_5 : decode cX6_swapWithSpare 5 = .ok (.aload_n 0, 1) := by decide +kernel
theorem dX6_swapWithSpare_6 : decode cX6_swapWithSpare 6 = .ok (.aload_n 0, 1) := by decide +kernel
theorem dX6_swapWithSpare_7 : decode cX6_swapWithSpare 7 = .ok (.getfield 16, 3) := by decide +kernel
theorem dX6_swapWithSpare_10 : decode cX6_swapWithSpare 10 = .ok (.putfield 12, 3) := by decide +kernel
theorem dX6_swapWithSpare_13 : decode cX6_swapWithSpare 13 = .ok (.aload_n 0, 1) := by decide +kernel
theorem dX6_swapWithSpare_14 : decode cX6_swapWithSpare 14 = .ok (.aload_n 1, 1) := by decide +kernel
theorem dX6_swapWithSpare_15 : decode cX6_swapWithSpare 15 = .ok (.putfield 16, 3) := by decide +kernel
theorem dX6_swapWithSpare_18 : decode cX6_swapWithSpare 18 = .ok (.return_, 1) := by decide +kernel
theorem dX7_init_0 : decode cX7_init 0 = .ok (.aload_n 0, 1) := by decide +kernel
theorem dX7_init_1 : decode cX7_init 1 = .ok (.invokespecial 1, 3) := by decide +kernel
theorem dX7_init_4 : decode cX7_init 4 = .ok (.aload_n 0, 1) := by decide +kernel
theorem dX7_init_5 : decode cX7_init 5 = .ok (.sipush 23144, 3) := by decide +kernel
theorem dX7_init_8 : decode cX7_init 8 = .ok (.newarray .int, 2) := by decide +kernel
theorem dX7_init_10 : decode cX7_init 10 = .ok (.putfield 7, 3) := by decide +kernel
theorem dX7_init_13 : decode cX7_init 13 = .ok (.aload_n 0, 1) := by decide +kernel
theorem dX7_init_14 : decode cX7_init 14 = .ok (.sipush 23144, 3) := by decide +kernel
theorem dX7_init_17 : decode cX7_init 17 = .ok (.newarray .int, 2) := by decide +kernel
theorem dX7_init_19 : decode cX7_init 19 = .ok (.putfield 13, 3) := by decide +kernel
theorem dX7_init_22 : decode cX7_init 22 = .ok (.aload_n 0, 1) := by decide +kernel
theorem dX7_init_23 : decode cX7_init 23 = .ok (.sipush 23144, 3) := by decide +kernel
theorem dX7_init_26 : decode cX7_init 26 = .ok (.newarray .int, 2) := by decide +kernel
theorem dX7_init_28 : decode cX7_init 28 = .ok (.putfield 16, 3) := by decide +kernel
theorem dX7_init_31 : decode cX7_init 31 = .ok (.aload_n 0, 1) := by decide +kernel
theorem dX7_init_32 : decode cX7_init 32 = .ok (.ldc 19, 2) := by decide +kernel
theorem dX7_init_34 : decode cX7_init 34 = .ok (.newarray .int, 2) := by decide +kernel
theorem dX7_init_36 : decode cX7_init 36 = .ok (.putfield 20, 3) := by decide +kernel
theorem dX7_init_39 : decode cX7_init 39 = .ok (.aload_n 0, 1) := by decide +kernel
theorem dX7_init_40 : decode cX7_init 40 = .ok (.bipush 60, 2) := by decide +kernel
theorem dX7_init_42 : decode cX7_init 42 = .ok (.newarray .int, 2) := by decide +kernel
theorem dX7_init_44 : decode cX7_init 44 = .ok (.putfield 23, 3) := by decide +kernel
theorem dX7_init_47 : decode cX7_init 47 = .ok (.aload_n 0, 1) := by decide +kernel
theorem dX7_init_48 : decode cX7_init 48 = .ok (.bipush 80, 2) := by decide +kernel
theorem dX7_init_50 : decode cX7_init 50 = .ok (.newarray .int, 2) := by decide +kernel
theorem dX7_init_52 : decode cX7_init 52 = .ok (.putfield 26, 3) := by decide +kernel
theorem dX7_init_55 : decode cX7_init 55 = .ok (.aload_n 0, 1) := by decide +kernel
theorem dX7_init_56 : decode cX7_init 56 = .ok (.getfield 7, 3) := by decide +kernel
theorem dX7_init_59 : decode cX7_init 59 = .ok (.iconst 1, 1) := by decide +kernel
theorem dX7_init_60 : decode cX7_init 60 = .ok (.sipush 500, 3) := by decide +kernel
theorem dX7_init_63 : decode cX7_init 63 = .ok (.iastore, 1) := by decide +kernel
theorem dX7_init_64 : decode cX7_init 64 = .ok (.aload_n 0, 1) := by decide +kernel
theorem dX7_init_65 : decode cX7_init 65 = .ok (.getfield 7, 3) := by decide +kernel
theorem dX7_init_68 : decode cX7_init 68 = .ok (.bipush 12, 2) := by decide +kernel
theorem dX7_init_70 : decode cX7_init 70 = .ok (.bipush 10, 2) := by decide +kernel
theorem dX7_init_72 : decode cX7_init 72 = .ok (.iastore, 1) := by decide +kernel
theorem dX7_init_73 : decode cX7_init 73 = .ok (.aload_n 0, 1) := by decide +kernel
theorem dX7_init_74 : decode cX7_init 74 = .ok (.getfield 7, 3) := by decide +kernel
theorem dX7_init_77 : decode cX7_init 77 = .ok (.bipush 13, 2) := by decide +kernel
theorem dX7_init_79 : decode cX7_init 79 = .ok (.bipush 100, 2) := by decide +kernel
theorem dX7_init_81 : decode cX7_init 81 = .ok (.iastore, 1) := by decide +kernel
theorem dX7_init_82 : decode cX7_init 82 = .ok (.aload_n 0, 1) := by decide +kernel
theorem dX7_init_83 : decode cX7_init 83 = .ok (.getfield 7, 3) := by decide +kernel
theorem dX7_init_86 : decode cX7_init 86 = .ok (.bipush 14, 2) := by decide +kernel
theorem dX7_init_88 : decode cX7_init 88 = .ok (.bipush 20, 2) := by decide +kernel
theorem dX7_init_90 : decode cX7_init 90 = .ok (.iastore, 1) := by decide +kernel
theorem dX7_init_91 : decode cX7_init 91 = .ok (.aload_n 0, 1) := by decide +kernel
theorem dX7_init_92 : decode cX7_init 92 = .ok (.getfield 7, 3) := by decide +kernel
theorem dX7_init_95 : decode cX7_init 95 = .ok (.bipush 15, 2) := by decide +kernel
theorem dX7_init_97 : decode cX7_init 97 = .ok (.bipush 10, 2) := by decide +kernel
theorem dX7_init_99 : decode cX7_init 99 = .ok (.iastore, 1) := by decide +kernel
theorem dX7_init_100 : decode cX7_init 100 = .ok (.aload_n 0, 1) := by decide +kernel
theorem dX7_init_101 : decode cX7_init 101 = .ok (.getfield 7, 3) := by decide +kernel
theorem dX7_init_104 : decode cX7_init 104 = .ok (.bipush 16, 2) := by decide +kernel
theorem dX7_init_106 : decode cX7_init 106 = .ok (.iconst 3, 1) := by decide +kernel
theorem dX7_init_107 : decode cX7_init 107 = .ok (.iastore, 1) := by decide +kernel
theorem dX7_init_108 : decode cX7_init 108 = .ok (.iconst 0, 1) := by decide +kernel
theorem dX7_init_109 : decode cX7_init 109 = .ok (.istore_n 1, 1) := by decide +kernel
theorem dX7_init_110 : decode cX7_init 110 = .ok (.iload_n 1, 1) := by decide +kernel
theorem dX7_init_111 : decode cX7_init 111 = .ok (.bipush 6, 2) := by decide +kernel
theorem dX7_init_113 : decode cX7_init 113 = .ok (.if_icmp .ge 21, 3) := by decide +kernel
theorem dX7_init_116 : decode cX7_init 116 = .ok (.aload_n 0, 1) := by decide +kernel
theorem dX7_init_117 : decode cX7_init 117 = .ok (.getfield 7, 3) := by decide +kernel
theorem dX7_init_120 : decode cX7_init 120 = .ok (.bipush 20, 2) := by decide +kernel
theorem dX7_init_122 : decode cX7_init 122 = .ok (.iload_n 1, 1) := by decide +kernel
theorem dX7_init_123 : decode cX7_init 123 = .ok (.iadd, 1) := by decide +kernel
theorem dX7_init_124 : decode cX7_init 124 = .ok (.sipush 1000, 3) := by decide +kernel
theorem dX7_init_127 : decode cX7_init 127 = .ok (.iastore, 1) := by decide +kernel
theorem dX7_init_128 : decode cX7_init 128 = .ok (.iinc 1 1, 3) := by decide +kernel
theorem dX7_init_131 : decode cX7_init 131 = .ok (.goto (-21), 3) := by decide +kernel
theorem dX7_init_134 : decode cX7_init 134 = .ok (.return_, 1) := by decide +kernel
theorem dX7_in_0 : decode cX7_in 0 = .ok (.iload_n 0, 1) := by decide +kernel
theorem dX7_in_1 : decode cX7_in 1 = .ok (.iload_n 1, 1) := by decide +kernel
theorem dX7_in_2 : decode cX7_in 2 = .ok (.if_icmp .lt 12, 3) := by decide +kernel
theorem dX7_in_5 : decode cX7_in 5 = .ok (.iload_n 0, 1) := by decide +kernel
theorem dX7_in_6 : decode cX7_in 6 = .ok (.iload_n 2, 1) := by decide +kernel
theorem dX7_in_7 : decode cX7_in 7 = .ok (.if_icmp .gt 7, 3) := by decide +kernel
theorem dX7_in_10 : decode cX7_in 10 = .ok (.iconst 1, 1) := by decide +kernel
theorem dX7_in_11 : decode cX7_in 11 = .ok (.goto 4, 3) := by decide +kernel
theorem dX7_in_14 : decode cX7_in 14 = .ok (.iconst 0, 1) := by decide +kernel
theorem dX7_in_15 : decode cX7_in 15 = .ok (.ireturn, 1) := by decide +kernel
theorem dX7_isKiln_0 : decode cX7_isKiln 0 = .ok (.iload_n 0, 1) := by decide +kernel
theorem dX7_isKiln_1 : decode cX7_isKiln 1 = .ok (.iconst 0, 1) := by decide +kernel
theorem dX7_isKiln_2 : decode cX7_isKiln 2 = .ok (.iconst 5, 1) := by decide +kernel
theorem dX7_isKiln_3 : decode cX7_isKiln 3 = .ok (.invokestatic 29, 3) := by decide +kernel
theorem dX7_isKiln_6 : decode cX7_isKiln 6 = .ok (.ireturn, 1) := by decide +kernel
theorem dX7_record_0 : decode cX7_record 0 = .ok (.aload_n 0, 1) := by decide +kernel
theorem dX7_record_1 : decode cX7_record 1 = .ok (.getfield 33, 3) := by decide +kernel
theorem dX7_record_4 : decode cX7_record 4 = .ok (.iconst 4, 1) := by decide +kernel
theorem dX7_record_5 : decode cX7_record 5 = .ok (.if_icmp .ne 43, 3) := by decide +kernel
theorem dX7_record_8 : decode cX7_record 8 = .ok (.iconst 0, 1) := by decide +kernel
theorem dX7_record_9 : decode cX7_record 9 = .ok (.istore_n 1, 1) := by decide +kernel
theorem dX7_record_10 : decode cX7_record 10 = .ok (.iload_n 1, 1) := by decide +kernel
theorem dX7_record_11 : decode cX7_record 11 = .ok (.ldc 37, 2) := by decide +kernel
theorem dX7_record_13 : decode cX7_record 13 = .ok (.if_icmp .ge 25, 3) := by decide +kernel
theorem dX7_record_16 : decode cX7_record 16 = .ok (.aload_n 0, 1) := by decide +kernel
theorem dX7_record_17 : decode cX7_record 17 = .ok (.getfield 20, 3) := by decide +kernel
theorem dX7_record_20 : decode cX7_record 20 = .ok (.iload_n 1, 1) := by decide +kernel
theorem dX7_record_21 : decode cX7_record 21 = .ok (.aload_n 0, 1) := by decide +kernel
theorem dX7_record_22 : decode cX7_record 22 = .ok (.getfield 20, 3) := by decide +kernel
theorem dX7_record_25 : decode cX7_record 25 = .ok (.iload_n 1, 1) := by decide +kernel
theorem dX7_record_26 : decode cX7_record 26 = .ok (.sipush 23144, 3) := by decide +kernel
theorem dX7_record_29 : decode cX7_record 29 = .ok (.iadd, 1) := by decide +kernel
theorem dX7_record_30 : decode cX7_record 30 = .ok (.iaload, 1) := by decide +kernel
theorem dX7_record_31 : decode cX7_record 31 = .ok (.iastore, 1) := by decide +kernel
theorem dX7_record_32 : decode cX7_record 32 = .ok (.iinc 1 1, 3) := by decide +kernel
theorem dX7_record_35 : decode cX7_record 35 = .ok (.goto (-25), 3) := by decide +kernel
theorem dX7_record_38 : decode cX7_record 38 = .ok (.aload_n 0, 1) := by decide +kernel
theorem dX7_record_39 : decode cX7_record 39 = .ok (.dup, 1) := by decide +kernel
theorem dX7_record_40 : decode cX7_record 40 = .ok (.getfield 33, 3) := by decide +kernel
theorem dX7_record_43 : decode cX7_record 43 = .ok (.iconst 1, 1) := by decide +kernel
theorem dX7_record_44 : decode cX7_record 44 = .ok (.isub, 1) := by decide +kernel
theorem dX7_record_45 : decode cX7_record 45 = .ok (.putfield 33, 3) := by decide +kernel
theorem dX7_record_48 : decode cX7_record 48 = .ok (.iconst 0, 1) := by decide +kernel
theorem dX7_record_49 : decode cX7_record 49 = .ok (.istore_n 1, 1) := by decide +kernel
theorem dX7_record_50 : decode cX7_record 50 = .ok (.iload_n 1, 1) := by decide +kernel
theorem dX7_record_51 : decode cX7_record 51 = .ok (.sipush 23144, 3) := by decide +kernel
theorem dX7_record_54 : decode cX7_record 54 = .ok (.if_icmp .ge 30, 3) := by decide +kernel
theorem dX7_record_57 : decode cX7_record 57 = .ok (.aload_n 0, 1) := by decide +kernel
theorem dX7_record_58 : decode cX7_record 58 = .ok (.getfield 20, 3) := by decide +kernel
theorem dX7_record_61 : decode cX7_record 61 = .ok (.sipush 23144, 3) := by decide +kernel
theorem dX7_record_64 : decode cX7_record 64 = .ok (.aload_n 0, 1) := by decide +kernel
theorem dX7_record_65 : decode cX7_record 65 = .ok (.getfield 33, 3) := by decide +kernel
theorem dX7_record_68 : decode cX7_record 68 = .ok (.imul, 1) := by decide +kernel
theorem dX7_record_69 : decode cX7_record 69 = .ok (.iload_n 1, 1) := by decide +kernel
theorem dX7_record_70 : decode cX7_record 70 = .ok (.iadd, 1) := by decide +kernel
theorem dX7_record_71 : decode cX7_record 71 = .ok (.aload_n 0, 1) := by decide +kernel
theorem dX7_record_72 : decode cX7_record 72 = .ok (.getfield 7, 3) := by decide +kernel
theorem dX7_record_75 : decode cX7_record 75 = .ok (.iload_n 1, 1) := by decide +kernel
theorem dX7_record_76 : decode cX7_record 76 = .ok (.iaload, 1) := by decide +kernel
theorem dX7_record_77 : decode cX7_record 77 = .ok (.iastore, 1) := by decide +kernel
theorem dX7_record_78 : decode cX7_record 78 = .ok (.iinc 1 1, 3) := by decide +kernel
theorem dX7_record_81 : decode cX7_record 81 = .ok (.goto (-31), 3) := by decide +kernel
theorem dX7_record_84 : decode cX7_record 84 = .ok (.aload_n 0, 1) := by decide +kernel
theorem dX7_record_85 : decode cX7_record 85 = .ok (.dup, 1) := by decide +kernel
theorem dX7_record_86 : decode cX7_record 86 = .ok (.getfield 33, 3) := by decide +kernel
theorem dX7_record_89 : decode cX7_record 89 = .ok (.iconst 1, 1) := by decide +kernel
theorem dX7_record_90 : decode cX7_record 90 = .ok (.iadd, 1) := by decide +kernel
theorem dX7_record_91 : decode cX7_record 91 = .ok (.putfield 33, 3) := by decide +kernel
theorem dX7_record_94 : decode cX7_record 94 = .ok (.return_, 1) := by decide +kernel
theorem dX7_recordBefore_0 : decode cX7_recordBefore 0 = .ok (.aload_n 0, 1) := by decide +kernel
theorem dX7_recordBefore_1 : decode cX7_recordBefore 1 = .ok (.getfield 33, 3) := by decide +kernel
theorem dX7_recordBefore_4 : decode cX7_recordBefore 4 = .ok (.iconst 4, 1) := by decide +kernel
theorem dX7_recordBefore_5 : decode cX7_recordBefore 5 = .ok (.if_icmp .ne 43, 3) := by decide +kernel
theorem dX7_recordBefore_8 : decode cX7_recordBefore 8 = .ok (.iconst 0, 1) := by decide +kernel
theorem dX7_recordBefore_9 : decode cX7_recordBefore 9 = .ok (.istore_n 1, 1) := by decide +kernel
theorem dX7_recordBefore_10 : decode cX7_recordBefore 10 = .ok (.iload_n 1, 1) := by decide +kernel
theorem dX7_recordBefore_11 : decode cX7_recordBefore 11 = .ok (.ldc 37, 2) := by decide +kernel
theorem dX7_recordBefore_13 : decode cX7_recordBefore 13 = .ok (.if_icmp .ge 25, 3) := by decide +kernel
theorem dX7_recordBefore_16 : decode cX7_recordBefore 16 = .ok (.aload_n 0, 1) := by decide +kernel
theorem dX7_recordBefore_17 : decode cX7_recordBefore 17 = .ok (.getfield 20, 3) := by decide +kernel
theorem dX7_recordBefore_20 : decode cX7_recordBefore 20 = .ok (.iload_n 1, 1) := by decide +kernel
theorem dX7_recordBefore_21 : decode cX7_recordBefore 21 = .ok (.aload_n 0, 1) := by decide +kernel
theorem dX7_recordBefore_22 : decode cX7_recordBefore 22 = .ok (.getfield 20, 3) := by decide +kernel
theorem dX7_recordBefore_25 : decode cX7_recordBefore 25 = .ok (.iload_n 1, 1) := by decide +kernel
theorem dX7_recordBefore_26 : decode cX7_recordBefore 26 = .ok (.sipush 23144, 3) := by decide +kernel
theorem dX7_recordBefore_29 : decode cX7_recordBefore 29 = .ok (.iadd, 1) := by decide +kernel
theorem dX7_recordBefore_30 : decode cX7_recordBefore 30 = .ok (.iaload, 1) := by decide +kernel
theorem dX7_recordBefore_31 : decode cX7_recordBefore 31 = .ok (.iastore, 1) := by decide +kernel
theorem dX7_recordBefore_32 : decode cX7_recordBefore 32 = .ok (.iinc 1 1, 3) := by decide +kernel
theorem dX7_recordBefore_35 : decode cX7_recordBefore 35 = .ok (.goto (-25), 3) := by decide +kernel
theorem dX7_recordBefore_38 : decode cX7_recordBefore 38 = .ok (.aload_n 0, 1) := by decide +kernel
theorem dX7_recordBefore_39 : decode cX7_recordBefore 39 = .ok (.dup, 1) := by decide +kernel
theorem dX7_recordBefore_40 : decode cX7_recordBefore 40 = .ok (.getfield 33, 3) := by decide +kernel
theorem dX7_recordBefore_43 : decode cX7_recordBefore 43 = .ok (.iconst 1, 1) := by decide +kernel
theorem dX7_recordBefore_44 : decode cX7_recordBefore 44 = .ok (.isub, 1) := by decide +kernel
theorem dX7_recordBefore_45 : decode cX7_recordBefore 45 = .ok (.putfield 33, 3) := by decide +kernel
theorem dX7_recordBefore_48 : decode cX7_recordBefore 48 = .ok (.iconst 0, 1) := by decide +kernel
theorem dX7_recordBefore_49 : decode cX7_recordBefore 49 = .ok (.istore_n 1, 1) := by decide +kernel
theorem dX7_recordBefore_50 : decode cX7_recordBefore 50 = .ok (.iload_n 1, 1) := by decide +kernel
theorem dX7_recordBefore_51 : decode cX7_recordBefore 51 = .ok (.sipush 23144, 3) := by decide +kernel
theorem dX7_recordBefore_54 : decode cX7_recordBefore 54 = .ok (.if_icmp .ge 30, 3) := by decide +kernel
theorem dX7_recordBefore_57 : decode cX7_recordBefore 57 = .ok (.aload_n 0, 1) := by decide +kernel
theorem dX7_recordBefore_58 : decode cX7_recordBefore 58 = .ok (.getfield 20, 3) := by decide +kernel
theorem dX7_recordBefore_61 : decode cX7_recordBefore 61 = .ok (.sipush 23144, 3) := by decide +kernel
theorem dX7_recordBefore_64 : decode cX7_recordBefore 64 = .ok (.aload_n 0, 1) := by decide +kernel
theorem dX7_recordBefore_65 : decode cX7_recordBefore 65 = .ok (.getfield 33, 3) := by decide +kernel
theorem dX7_recordBefore_68 : decode cX7_recordBefore 68 = .ok (.imul, 1) := by decide +kernel
theorem dX7_recordBefore_69 : decode cX7_recordBefore 69 = .ok (.iload_n 1, 1) := by decide +kernel
theorem dX7_recordBefore_70 : decode cX7_recordBefore 70 = .ok (.iadd, 1) := by decide +kernel
theorem dX7_recordBefore_71 : decode cX7_recordBefore 71 = .ok (.aload_n 0, 1) := by decide +kernel
theorem dX7_recordBefore_72 : decode cX7_recordBefore 72 = .ok (.getfield 16, 3) := by decide +kernel
theorem dX7_recordBefore_75 : decode cX7_recordBefore 75 = .ok (.iload_n 1, 1) := by decide +kernel
theorem dX7_recordBefore_76 : decode cX7_recordBefore 76 = .ok (.iaload, 1) := by decide +kernel
theorem dX7_recordBefore_77 : decode cX7_recordBefore 77 = .ok (.iastore, 1) := by decide +kernel
theorem dX7_recordBefore_78 : decode cX7_recordBefore 78 = .ok (.iinc 1 1, 3) := by decide +kernel
theorem dX7_recordBefore_81 : decode cX7_recordBefore 81 = .ok (.goto (-31), 3) := by decide +kernel
theorem dX7_recordBefore_84 : decode cX7_recordBefore 84 = .ok (.aload_n 0, 1) := by decide +kernel
theorem dX7_recordBefore_85 : decode cX7_recordBefore 85 = .ok (.dup, 1) := by decide +kernel
theorem dX7_recordBefore_86 : decode cX7_recordBefore 86 = .ok (.getfield 33, 3) := by decide +kernel
theorem dX7_recordBefore_89 : decode cX7_recordBefore 89 = .ok (.iconst 1, 1) := by decide +kernel
theorem dX7_recordBefore_90 : decode cX7_recordBefore 90 = .ok (.iadd, 1) := by decide +kernel
theorem dX7_recordBefore_91 : decode cX7_recordBefore 91 = .ok (.putfield 33, 3) := by decide +kernel
theorem dX7_recordBefore_94 : decode cX7_recordBefore 94 = .ok (.return_, 1) := by decide +kernel
theorem dX7_permits_0 : decode cX7_permits 0 = .ok (.iconst 0, 1) := by decide +kernel
theorem dX7_permits_1 : decode cX7_permits 1 = .ok (.istore_n 2, 1) := by decide +kernel
theorem dX7_permits_2 : decode cX7_permits 2 = .ok (.iconst 0, 1) := by decide +kernel
theorem dX7_permits_3 : decode cX7_permits 3 = .ok (.istore_n 3, 1) := by decide +kernel
theorem dX7_permits_4 : decode cX7_permits 4 = .ok (.iload_n 3, 1) := by decide +kernel
theorem dX7_permits_5 : decode cX7_permits 5 = .ok (.aload_n 0, 1) := by decide +kernel
theorem dX7_permits_6 : decode cX7_permits 6 = .ok (.getfield 7, 3) := by decide +kernel
theorem dX7_permits_9 : decode cX7_permits 9 = .ok (.iconst 0, 1) := by decide +kernel
theorem dX7_permits_10 : decode cX7_permits 10 = .ok (.iaload, 1) := by decide +kernel
theorem dX7_permits_11 : decode cX7_permits 11 = .ok (.if_icmp .gt 28, 3) := by decide +kernel
theorem dX7_permits_14 : decode cX7_permits 14 = .ok (.iload_n 2, 1) := by decide +kernel
theorem dX7_permits_15 : decode cX7_permits 15 = .ok (.aload_n 0, 1) := by decide +kernel
theorem dX7_permits_16 : decode cX7_permits 16 = .ok (.getfield 7, 3) := by decide +kernel
theorem dX7_permits_19 : decode cX7_permits 19 = .ok (.sipush 144, 3) := by decide +kernel
theorem dX7_permits_22 : decode cX7_permits 22 = .ok (.sipush 1000, 3) := by decide +kernel
theorem dX7_permits_25 : decode cX7_permits 25 = .ok (.iload_n 1, 1) := by decide +kernel
theorem dX7_permits_26 : decode cX7_permits 26 = .ok (.imul, 1) := by decide +kernel
theorem dX7_permits_27 : decode cX7_permits 27 = .ok (.iadd, 1) := by decide +kernel
theorem dX7_permits_28 : decode cX7_permits 28 = .ok (.iload_n 3, 1) := by decide +kernel
theorem dX7_permits_29 : decode cX7_permits 29 = .ok (.iadd, 1) := by decide +kernel
theorem dX7_permits_30 : decode cX7_permits 30 = .ok (.iaload, 1) := by decide +kernel
theorem dX7_permits_31 : decode cX7_permits 31 = .ok (.iadd, 1) := by decide +kernel
theorem dX7_permits_32 : decode cX7_permits 32 = .ok (.istore_n 2, 1) := by decide +kernel
theorem dX7_permits_33 : decode cX7_permits 33 = .ok (.iinc 3 1, 3) := by decide +kernel
theorem dX7_permits_36 : decode cX7_permits 36 = .ok (.goto (-32), 3) := by decide +kernel
theorem dX7_permits_39 : decode cX7_permits 39 = .ok (.iload_n 2, 1) := by decide +kernel
theorem dX7_permits_40 : decode cX7_permits 40 = .ok (.ireturn, 1) := by decide +kernel
theorem dX7_moves_0 : decode cX7_moves 0 = .ok (.iload_n 3, 1) := by decide +kernel
theorem dX7_moves_1 : decode cX7_moves 1 = .ok (.istore 4, 2) := by decide +kernel
theorem dX7_moves_3 : decode cX7_moves 3 = .ok (.iconst 0, 1) := by decide +kernel
theorem dX7_moves_4 : decode cX7_moves 4 = .ok (.istore 5, 2) := by decide +kernel
theorem dX7_moves_6 : decode cX7_moves 6 = .ok (.iload 5, 2) := by decide +kernel
theorem dX7_moves_8 : decode cX7_moves 8 = .ok (.aload_n 0, 1) := by decide +kernel
theorem dX7_moves_9 : decode cX7_moves 9 = .ok (.getfield 7, 3) := by decide +kernel
theorem dX7_moves_12 : decode cX7_moves 12 = .ok (.iconst 0, 1) := by decide +kernel
theorem dX7_moves_13 : decode cX7_moves 13 = .ok (.iaload, 1) := by decide +kernel
theorem dX7_moves_14 : decode cX7_moves 14 = .ok (.if_icmp .gt 83, 3) := by decide +kernel
theorem dX7_moves_17 : decode cX7_moves 17 = .ok (.iload 4, 2) := by decide +kernel
theorem dX7_moves_19 : decode cX7_moves 19 = .ok (.ifCond .le 78, 3) := by decide +kernel
theorem dX7_moves_22 : decode cX7_moves 22 = .ok (.aload_n 0, 1) := by decide +kernel
theorem dX7_moves_23 : decode cX7_moves 23 = .ok (.getfield 7, 3) := by decide +kernel
theorem dX7_moves_26 : decode cX7_moves 26 = .ok (.iload_n 1, 1) := by decide +kernel
theorem dX7_moves_27 : decode cX7_moves 27 = .ok (.iload 5, 2) := by decide +kernel
theorem dX7_moves_29 : decode cX7_moves 29 = .ok (.iadd, 1) := by decide +kernel
theorem dX7_moves_30 : decode cX7_moves 30 = .ok (.iaload, 1) := by decide +kernel
theorem dX7_moves_31 : decode cX7_moves 31 = .ok (.iload 4, 2) := by decide +kernel
theorem dX7_moves_33 : decode cX7_moves 33 = .ok (.if_icmp .ge 15, 3) := by decide +kernel
theorem dX7_moves_36 : decode cX7_moves 36 = .ok (.aload_n 0, 1) := by decide +kernel
theorem dX7_moves_37 : decode cX7_moves 37 = .ok (.getfield 7, 3) := by decide +kernel
theorem dX7_moves_40 : decode cX7_moves 40 = .ok (.iload_n 1, 1) := by decide +kernel
theorem dX7_moves_41 : decode cX7_moves 41 = .ok (.iload 5, 2) := by decide +kernel
theorem dX7_moves_43 : decode cX7_moves 43 = .ok (.iadd, 1) := by decide +kernel
theorem dX7_moves_44 : decode cX7_moves 44 = .ok (.iaload, 1) := by decide +kernel
theorem dX7_moves_45 : decode cX7_moves 45 = .ok (.goto 5, 3) := by decide +kernel
theorem dX7_moves_48 : decode cX7_moves 48 = .ok (.iload 4, 2) := by decide +kernel
theorem dX7_moves_50 : decode cX7_moves 50 = .ok (.istore 6, 2) := by decide +kernel
theorem dX7_moves_52 : decode cX7_moves 52 = .ok (.aload_n 0, 1) := by decide +kernel
theorem dX7_moves_53 : decode cX7_moves 53 = .ok (.getfield 7, 3) := by decide +kernel
theorem dX7_moves_56 : decode cX7_moves 56 = .ok (.iload_n 1, 1) := by decide +kernel
theorem dX7_moves_57 : decode cX7_moves 57 = .ok (.iload 5, 2) := by decide +kernel
theorem dX7_moves_59 : decode cX7_moves 59 = .ok (.iadd, 1) := by decide +kernel
theorem dX7_moves_60 : decode cX7_moves 60 = .ok (.dup2, 1) := by decide +kernel
theorem dX7_moves_61 : decode cX7_moves 61 = .ok (.iaload, 1) := by decide +kernel
theorem dX7_moves_62 : decode cX7_moves 62 = .ok (.iload 6, 2) := by decide +kernel
theorem dX7_moves_64 : decode cX7_moves 64 = .ok (.isub, 1) := by decide +kernel
theorem dX7_moves_65 : decode cX7_moves 65 = .ok (.iastore, 1) := by decide +kernel
theorem dX7_moves_66 : decode cX7_moves 66 = .ok (.iload 4, 2) := by decide +kernel
theorem dX7_moves_68 : decode cX7_moves 68 = .ok (.iload 6, 2) := by decide +kernel
theorem dX7_moves_70 : decode cX7_moves 70 = .ok (.isub, 1) := by decide +kernel
theorem dX7_moves_71 : decode cX7_moves 71 = .ok (.istore 4, 2) := by decide +kernel
theorem dX7_moves_73 : decode cX7_moves 73 = .ok (.iload_n 2, 1) := by decide +kernel
theorem dX7_moves_74 : decode cX7_moves 74 = .ok (.ifCond .lt 17, 3) := by decide +kernel
theorem dX7_moves_77 : decode cX7_moves 77 = .ok (.aload_n 0, 1) := by decide +kernel
theorem dX7_moves_78 : decode cX7_moves 78 = .ok (.getfield 7, 3) := by decide +kernel
theorem dX7_moves_81 : decode cX7_moves 81 = .ok (.iload_n 2, 1) := by decide +kernel
theorem dX7_moves_82 : decode cX7_moves 82 = .ok (.iload 5, 2) := by decide +kernel
theorem dX7_moves_84 : decode cX7_moves 84 = .ok (.iadd, 1) := by decide +kernel
theorem dX7_moves_85 : decode cX7_moves 85 = .ok (.dup2, 1) := by decide +kernel
theorem dX7_moves_86 : decode cX7_moves 86 = .ok (.iaload, 1) := by decide +kernel
theorem dX7_moves_87 : decode cX7_moves 87 = .ok (.iload 6, 2) := by decide +kernel
theorem dX7_moves_89 : decode cX7_moves 89 = .ok (.iadd, 1) := by decide +kernel
theorem dX7_moves_90 : decode cX7_moves 90 = .ok (.iastore, 1) := by decide +kernel
theorem dX7_moves_91 : decode cX7_moves 91 = .ok (.iinc 5 1, 3) := by decide +kernel
theorem dX7_moves_94 : decode cX7_moves 94 = .ok (.goto (-88), 3) := by decide +kernel
theorem dX7_moves_97 : decode cX7_moves 97 = .ok (.return_, 1) := by decide +kernel
theorem dX7_own_0 : decode cX7_own 0 = .ok (.sipush 144, 3) := by decide +kernel
theorem dX7_own_3 : decode cX7_own 3 = .ok (.sipush 1000, 3) := by decide +kernel
theorem dX7_own_6 : decode cX7_own 6 = .ok (.iload_n 0, 1) := by decide +kernel
theorem dX7_own_7 : decode cX7_own 7 = .ok (.imul, 1) := by decide +kernel
theorem dX7_own_8 : decode cX7_own 8 = .ok (.iadd, 1) := by decide +kernel
theorem dX7_own_9 : decode cX7_own 9 = .ok (.ireturn, 1) := by decide +kernel
theorem dX7_offer_0 : decode cX7_offer 0 = .ok (.sipush 6144, 3) := by decide +kernel
theorem dX7_offer_3 : decode cX7_offer 3 = .ok (.sipush 1000, 3) := by decide +kernel
theorem dX7_offer_6 : decode cX7_offer 6 = .ok (.iload_n 0, 1) := by decide +kernel
theorem dX7_offer_7 : decode cX7_offer 7 = .ok (.imul, 1) := by decide +kernel
theorem dX7_offer_8 : decode cX7_offer 8 = .ok (.iadd, 1) := by decide +kernel
theorem dX7_offer_9 : decode cX7_offer 9 = .ok (.ireturn, 1) := by decide +kernel
theorem dX7_issue_0 : decode cX7_issue 0 = .ok (.iload_n 1, 1) := by decide +kernel
theorem dX7_issue_1 : decode cX7_issue 1 = .ok (.invokestatic 38, 3) := by decide +kernel
theorem dX7_issue_4 : decode cX7_issue 4 = .ok (.ifCond .ne 5, 3) := by decide +kernel
theorem dX7_issue_7 : decode cX7_issue 7 = .ok (.iconst (-1), 1) := by decide +kernel
theorem dX7_issue_8 : decode cX7_issue 8 = .ok (.ireturn, 1) := by decide +kernel
theorem dX7_issue_9 : decode cX7_issue 9 = .ok (.iload_n 2, 1) := by decide +kernel
theorem dX7_issue_10 : decode cX7_issue 10 = .ok (.iconst 1, 1) := by decide +kernel
theorem dX7_issue_11 : decode cX7_issue 11 = .ok (.sipush 999, 3) := by decide +kernel
theorem dX7_issue_14 : decode cX7_issue 14 = .ok (.invokestatic 29, 3) := by decide +kernel
theorem dX7_issue_17 : decode cX7_issue 17 = .ok (.ifCond .ne 6, 3) := by decide +kernel
theorem dX7_issue_20 : decode cX7_issue 20 = .ok (.bipush (-2), 2) := by decide +kernel
theorem dX7_issue_22 : decode cX7_issue 22 = .ok (.ireturn, 1) := by decide +kernel
theorem dX7_issue_23 : decode cX7_issue 23 = .ok (.aload_n 0, 1) := by decide +kernel
theorem dX7_issue_24 : decode cX7_issue 24 = .ok (.invokevirtual 42, 3) := by decide +kernel
theorem dX7_issue_27 : decode cX7_issue 27 = .ok (.aload_n 0, 1) := by decide +kernel
theorem dX7_issue_28 : decode cX7_issue 28 = .ok (.getfield 7, 3) := by decide +kernel
theorem dX7_issue_31 : decode cX7_issue 31 = .ok (.bipush 56, 2) := by decide +kernel
theorem dX7_issue_33 : decode cX7_issue 33 = .ok (.iload_n 1, 1) := by decide +kernel
theorem dX7_issue_34 : decode cX7_issue 34 = .ok (.iadd, 1) := by decide +kernel
theorem dX7_issue_35 : decode cX7_issue 35 = .ok (.iaload, 1) := by decide +kernel
theorem dX7_issue_36 : decode cX7_issue 36 = .ok (.iload_n 2, 1) := by decide +kernel
theorem dX7_issue_37 : decode cX7_issue 37 = .ok (.if_icmp .ge 15, 3) := by decide +kernel
theorem dX7_issue_40 : decode cX7_issue 40 = .ok (.aload_n 0, 1) := by decide +kernel
theorem dX7_issue_41 : decode cX7_issue 41 = .ok (.getfield 7, 3) := by decide +kernel
theorem dX7_issue_44 : decode cX7_issue 44 = .ok (.bipush 56, 2) := by decide +kernel
theorem dX7_issue_46 : decode cX7_issue 46 = .ok (.iload_n 1, 1) := by decide +kernel
theorem dX7_issue_47 : decode cX7_issue 47 = .ok (.iadd, 1) := by decide +kernel
theorem dX7_issue_48 : decode cX7_issue 48 = .ok (.iaload, 1) := by decide +kernel
theorem dX7_issue_49 : decode cX7_issue 49 = .ok (.goto 4, 3) := by decide +kernel
theorem dX7_issue_52 : decode cX7_issue 52 = .ok (.iload_n 2, 1) := by decide +kernel
theorem dX7_issue_53 : decode cX7_issue 53 = .ok (.istore_n 3, 1) := by decide +kernel
theorem dX7_issue_54 : decode cX7_issue 54 = .ok (.aload_n 0, 1) := by decide +kernel
theorem dX7_issue_55 : decode cX7_issue 55 = .ok (.getfield 7, 3) := by decide +kernel
theorem dX7_issue_58 : decode cX7_issue 58 = .ok (.bipush 56, 2) := by decide +kernel
theorem dX7_issue_60 : decode cX7_issue 60 = .ok (.iload_n 1, 1) := by decide +kernel
theorem dX7_issue_61 : decode cX7_issue 61 = .ok (.iadd, 1) := by decide +kernel
theorem dX7_issue_62 : decode cX7_issue 62 = .ok (.dup2, 1) := by decide +kernel
theorem dX7_issue_63 : decode cX7_issue 63 = .ok (.iaload, 1) := by decide +kernel
theorem dX7_issue_64 : decode cX7_issue 64 = .ok (.iload_n 3, 1) := by decide +kernel
theorem dX7_issue_65 : decode cX7_issue 65 = .ok (.isub, 1) := by decide +kernel
theorem dX7_issue_66 : decode cX7_issue 66 = .ok (.iastore, 1) := by decide +kernel
theorem dX7_issue_67 : decode cX7_issue 67 = .ok (.aload_n 0, 1) := by decide +kernel
theorem dX7_issue_68 : decode cX7_issue 68 = .ok (.getfield 7, 3) := by decide +kernel
theorem dX7_issue_71 : decode cX7_issue 71 = .ok (.iload_n 1, 1) := by decide +kernel
theorem dX7_issue_72 : decode cX7_issue 72 = .ok (.invokestatic 45, 3) := by decide +kernel
theorem dX7_issue_75 : decode cX7_issue 75 = .ok (.aload_n 0, 1) := by decide +kernel
theorem dX7_issue_76 : decode cX7_issue 76 = .ok (.getfield 7, 3) := by decide +kernel
theorem dX7_issue_79 : decode cX7_issue 79 = .ok (.iconst 0, 1) := by decide +kernel
theorem dX7_issue_80 : decode cX7_issue 80 = .ok (.iaload, 1) := by decide +kernel
theorem dX7_issue_81 : decode cX7_issue 81 = .ok (.iadd, 1) := by decide +kernel
theorem dX7_issue_82 : decode cX7_issue 82 = .ok (.dup2, 1) := by decide +kernel
theorem dX7_issue_83 : decode cX7_issue 83 = .ok (.iaload, 1) := by decide +kernel
theorem dX7_issue_84 : decode cX7_issue 84 = .ok (.iload_n 2, 1) := by decide +kernel
theorem dX7_issue_85 : decode cX7_issue 85 = .ok (.iload_n 3, 1) := by decide +kernel
theorem dX7_issue_86 : decode cX7_issue 86 = .ok (.isub, 1) := by decide +kernel
theorem dX7_issue_87 : decode cX7_issue 87 = .ok (.iadd, 1) := by decide +kernel
theorem dX7_issue_88 : decode cX7_issue 88 = .ok (.iastore, 1) := by decide +kernel
theorem dX7_issue_89 : decode cX7_issue 89 = .ok (.aload_n 0, 1) := by decide +kernel
theorem dX7_issue_90 : decode cX7_issue 90 = .ok (.getfield 7, 3) := by decide +kernel
theorem dX7_issue_93 : decode cX7_issue 93 = .ok (.iconst 3, 1) := by decide +kernel
theorem dX7_issue_94 : decode cX7_issue 94 = .ok (.dup2, 1) := by decide +kernel
theorem dX7_issue_95 : decode cX7_issue 95 = .ok (.iaload, 1) := by decide +kernel
theorem dX7_issue_96 : decode cX7_issue 96 = .ok (.iload_n 2, 1) := by decide +kernel
theorem dX7_issue_97 : decode cX7_issue 97 = .ok (.iload_n 3, 1) := by decide +kernel
theorem dX7_issue_98 : decode cX7_issue 98 = .ok (.isub, 1) := by decide +kernel
theorem dX7_issue_99 : decode cX7_issue 99 = .ok (.iadd, 1) := by decide +kernel
theorem dX7_issue_100 : decode cX7_issue 100 = .ok (.iastore, 1) := by decide +kernel
theorem dX7_issue_101 : decode cX7_issue 101 = .ok (.iload_n 2, 1) := by decide +kernel
theorem dX7_issue_102 : decode cX7_issue 102 = .ok (.iload_n 3, 1) := by decide +kernel
theorem dX7_issue_103 : decode cX7_issue 103 = .ok (.isub, 1) := by decide +kernel
theorem dX7_issue_104 : decode cX7_issue 104 = .ok (.ireturn, 1) := by decide +kernel
theorem dX7_fire_0 : decode cX7_fire 0 = .ok (.iload_n 1, 1) := by decide +kernel
theorem dX7_fire_1 : decode cX7_fire 1 = .ok (.invokestatic 38, 3) := by decide +kernel
theorem dX7_fire_4 : decode cX7_fire 4 = .ok (.ifCond .ne 5, 3) := by decide +kernel
theorem dX7_fire_7 : decode cX7_fire 7 = .ok (.iconst (-1), 1) := by decide +kernel
theorem dX7_fire_8 : decode cX7_fire 8 = .ok (.ireturn, 1) := by decide +kernel
theorem dX7_fire_9 : decode cX7_fire 9 = .ok (.iload_n 2, 1) := by decide +kernel
theorem dX7_fire_10 : decode cX7_fire 10 = .ok (.iconst 1, 1) := by decide +kernel
theorem dX7_fire_11 : decode cX7_fire 11 = .ok (.sipush 999, 3) := by decide +kernel
theorem dX7_fire_14 : decode cX7_fire 14 = .ok (.invokestatic 29, 3) := by decide +kernel
theorem dX7_fire_17 : decode cX7_fire 17 = .ok (.ifCond .eq 12, 3) := by decide +kernel
theorem dX7_fire_20 : decode cX7_fire 20 = .ok (.iload_n 3, 1) := by decide +kernel
theorem dX7_fire_21 : decode cX7_fire 21 = .ok (.iconst 0, 1) := by decide +kernel
theorem dX7_fire_22 : decode cX7_fire 22 = .ok (.iload_n 2, 1) := by decide +kernel
theorem dX7_fire_23 : decode cX7_fire 23 = .ok (.invokestatic 29, 3) := by decide +kernel
theorem dX7_fire_26 : decode cX7_fire 26 = .ok (.ifCond .ne 6, 3) := by decide +kernel
theorem dX7_fire_29 : decode cX7_fire 29 = .ok (.bipush (-2), 2) := by decide +kernel
theorem dX7_fire_31 : decode cX7_fire 31 = .ok (.ireturn, 1) := by decide +kernel
theorem dX7_fire_32 : decode cX7_fire 32 = .ok (.aload_n 0, 1) := by decide +kernel
theorem dX7_fire_33 : decode cX7_fire 33 = .ok (.invokevirtual 42, 3) := by decide +kernel
theorem dX7_fire_36 : decode cX7_fire 36 = .ok (.aload_n 0, 1) := by decide +kernel
theorem dX7_fire_37 : decode cX7_fire 37 = .ok (.getfield 7, 3) := by decide +kernel
theorem dX7_fire_40 : decode cX7_fire 40 = .ok (.bipush 26, 2) := by decide +kernel
theorem dX7_fire_42 : decode cX7_fire 42 = .ok (.iload_n 1, 1) := by decide +kernel
theorem dX7_fire_43 : decode cX7_fire 43 = .ok (.iadd, 1) := by decide +kernel
theorem dX7_fire_44 : decode cX7_fire 44 = .ok (.dup2, 1) := by decide +kernel
theorem dX7_fire_45 : decode cX7_fire 45 = .ok (.iaload, 1) := by decide +kernel
theorem dX7_fire_46 : decode cX7_fire 46 = .ok (.iload_n 2, 1) := by decide +kernel
theorem dX7_fire_47 : decode cX7_fire 47 = .ok (.iadd, 1) := by decide +kernel
theorem dX7_fire_48 : decode cX7_fire 48 = .ok (.iastore, 1) := by decide +kernel
theorem dX7_fire_49 : decode cX7_fire 49 = .ok (.aload_n 0, 1) := by decide +kernel
theorem dX7_fire_50 : decode cX7_fire 50 = .ok (.getfield 7, 3) := by decide +kernel
theorem dX7_fire_53 : decode cX7_fire 53 = .ok (.bipush 32, 2) := by decide +kernel
theorem dX7_fire_55 : decode cX7_fire 55 = .ok (.iload_n 1, 1) := by decide +kernel
theorem dX7_fire_56 : decode cX7_fire 56 = .ok (.iadd, 1) := by decide +kernel
theorem dX7_fire_57 : decode cX7_fire 57 = .ok (.dup2, 1) := by decide +kernel
theorem dX7_fire_58 : decode cX7_fire 58 = .ok (.iaload, 1) := by decide +kernel
theorem dX7_fire_59 : decode cX7_fire 59 = .ok (.iload_n 3, 1) := by decide +kernel
theorem dX7_fire_60 : decode cX7_fire 60 = .ok (.iadd, 1) := by decide +kernel
theorem dX7_fire_61 : decode cX7_fire 61 = .ok (.iastore, 1) := by decide +kernel
theorem dX7_fire_62 : decode cX7_fire 62 = .ok (.aload_n 0, 1) := by decide +kernel
theorem dX7_fire_63 : decode cX7_fire 63 = .ok (.getfield 7, 3) := by decide +kernel
theorem dX7_fire_66 : decode cX7_fire 66 = .ok (.bipush 32, 2) := by decide +kernel
theorem dX7_fire_68 : decode cX7_fire 68 = .ok (.iload_n 1, 1) := by decide +kernel
theorem dX7_fire_69 : decode cX7_fire 69 = .ok (.iadd, 1) := by decide +kernel
theorem dX7_fire_70 : decode cX7_fire 70 = .ok (.iaload, 1) := by decide +kernel
theorem dX7_fire_71 : decode cX7_fire 71 = .ok (.ireturn, 1) := by decide +kernel
theorem dX7_audit_0 : decode cX7_audit 0 = .ok (.iload_n 1, 1) := by decide +kernel
theorem dX7_audit_1 : decode cX7_audit 1 = .ok (.invokestatic 38, 3) := by decide +kernel
theorem dX7_audit_4 : decode cX7_audit 4 = .ok (.ifCond .ne 5, 3) := by decide +kernel
theorem dX7_audit_7 : decode cX7_audit 7 = .ok (.iconst (-1), 1) := by decide +kernel
theorem dX7_audit_8 : decode cX7_audit 8 = .ok (.ireturn, 1) := by decide +kernel
theorem dX7_audit_9 : decode cX7_audit 9 = .ok (.aload_n 0, 1) := by decide +kernel
theorem dX7_audit_10 : decode cX7_audit 10 = .ok (.getfield 7, 3) := by decide +kernel
theorem dX7_audit_13 : decode cX7_audit 13 = .ok (.bipush 26, 2) := by decide +kernel
theorem dX7_audit_15 : decode cX7_audit 15 = .ok (.iload_n 1, 1) := by decide +kernel
theorem dX7_audit_16 : decode cX7_audit 16 = .ok (.iadd, 1) := by decide +kernel
theorem dX7_audit_17 : decode cX7_audit 17 = .ok (.iaload, 1) := by decide +kernel
theorem dX7_audit_18 : decode cX7_audit 18 = .ok (.aload_n 0, 1) := by decide +kernel
theorem dX7_audit_19 : decode cX7_audit 19 = .ok (.getfield 7, 3) := by decide +kernel
theorem dX7_audit_22 : decode cX7_audit 22 = .ok (.bipush 32, 2) := by decide +kernel
theorem dX7_audit_24 : decode cX7_audit 24 = .ok (.iload_n 1, 1) := by decide +kernel
theorem dX7_audit_25 : decode cX7_audit 25 = .ok (.iadd, 1) := by decide +kernel
theorem dX7_audit_26 : decode cX7_audit 26 = .ok (.iaload, 1) := by decide +kernel
theorem dX7_audit_27 : decode cX7_audit 27 = .ok (.isub, 1) := by decide +kernel
theorem dX7_audit_28 : decode cX7_audit 28 = .ok (.istore_n 2, 1) := by decide +kernel
theorem dX7_audit_29 : decode cX7_audit 29 = .ok (.iload_n 2, 1) := by decide +kernel
theorem dX7_audit_30 : decode cX7_audit 30 = .ok (.ifCond .ne 6, 3) := by decide +kernel
theorem dX7_audit_33 : decode cX7_audit 33 = .ok (.bipush (-5), 2) := by decide +kernel
theorem dX7_audit_35 : decode cX7_audit 35 = .ok (.ireturn, 1) := by decide +kernel
theorem dX7_audit_36 : decode cX7_audit 36 = .ok (.aload_n 0, 1) := by decide +kernel
theorem dX7_audit_37 : decode cX7_audit 37 = .ok (.invokevirtual 42, 3) := by decide +kernel
theorem dX7_audit_40 : decode cX7_audit 40 = .ok (.aload_n 0, 1) := by decide +kernel
theorem dX7_audit_41 : decode cX7_audit 41 = .ok (.getfield 7, 3) := by decide +kernel
theorem dX7_audit_44 : decode cX7_audit 44 = .ok (.bipush 32, 2) := by decide +kernel
theorem dX7_audit_46 : decode cX7_audit 46 = .ok (.iload_n 1, 1) := by decide +kernel
theorem dX7_audit_47 : decode cX7_audit 47 = .ok (.iadd, 1) := by decide +kernel
theorem dX7_audit_48 : decode cX7_audit 48 = .ok (.dup2, 1) := by decide +kernel
theorem dX7_audit_49 : decode cX7_audit 49 = .ok (.iaload, 1) := by decide +kernel
theorem dX7_audit_50 : decode cX7_audit 50 = .ok (.iload_n 2, 1) := by decide +kernel
theorem dX7_audit_51 : decode cX7_audit 51 = .ok (.iadd, 1) := by decide +kernel
theorem dX7_audit_52 : decode cX7_audit 52 = .ok (.iastore, 1) := by decide +kernel
theorem dX7_audit_53 : decode cX7_audit 53 = .ok (.aload_n 0, 1) := by decide +kernel
theorem dX7_audit_54 : decode cX7_audit 54 = .ok (.getfield 7, 3) := by decide +kernel
theorem dX7_audit_57 : decode cX7_audit 57 = .ok (.bipush 44, 2) := by decide +kernel
theorem dX7_audit_59 : decode cX7_audit 59 = .ok (.iload_n 1, 1) := by decide +kernel
theorem dX7_audit_60 : decode cX7_audit 60 = .ok (.iadd, 1) := by decide +kernel
theorem dX7_audit_61 : decode cX7_audit 61 = .ok (.dup2, 1) := by decide +kernel
theorem dX7_audit_62 : decode cX7_audit 62 = .ok (.iaload, 1) := by decide +kernel
theorem dX7_audit_63 : decode cX7_audit 63 = .ok (.iload_n 2, 1) := by decide +kernel
theorem dX7_audit_64 : decode cX7_audit 64 = .ok (.aload_n 0, 1) := by decide +kernel
theorem dX7_audit_65 : decode cX7_audit 65 = .ok (.getfield 7, 3) := by decide +kernel
theorem dX7_audit_68 : decode cX7_audit 68 = .ok (.bipush 16, 2) := by decide +kernel
theorem dX7_audit_70 : decode cX7_audit 70 = .ok (.iaload, 1) := by decide +kernel
theorem dX7_audit_71 : decode cX7_audit 71 = .ok (.imul, 1) := by decide +kernel
theorem dX7_audit_72 : decode cX7_audit 72 = .ok (.iadd, 1) := by decide +kernel
theorem dX7_audit_73 : decode cX7_audit 73 = .ok (.iastore, 1) := by decide +kernel
theorem dX7_audit_74 : decode cX7_audit 74 = .ok (.iload_n 2, 1) := by decide +kernel
theorem dX7_audit_75 : decode cX7_audit 75 = .ok (.ireturn, 1) := by decide +kernel
theorem dX7_isAhead_0 : decode cX7_isAhead 0 = .ok (.aload_n 0, 1) := by decide +kernel
theorem dX7_isAhead_1 : decode cX7_isAhead 1 = .ok (.getfield 7, 3) := by decide +kernel
theorem dX7_isAhead_4 : decode cX7_isAhead 4 = .ok (.sipush 128, 3) := by decide +kernel
theorem dX7_isAhead_7 : decode cX7_isAhead 7 = .ok (.iload_n 1, 1) := by decide +kernel
theorem dX7_isAhead_8 : decode cX7_isAhead 8 = .ok (.iadd, 1) := by decide +kernel
theorem dX7_isAhead_9 : decode cX7_isAhead 9 = .ok (.iaload, 1) := by decide +kernel
theorem dX7_isAhead_10 : decode cX7_isAhead 10 = .ok (.aload_n 0, 1) := by decide +kernel
theorem dX7_isAhead_11 : decode cX7_isAhead 11 = .ok (.getfield 7, 3) := by decide +kernel
theorem dX7_isAhead_14 : decode cX7_isAhead 14 = .ok (.sipush 128, 3) := by decide +kernel
theorem dX7_isAhead_17 : decode cX7_isAhead 17 = .ok (.iload_n 2, 1) := by decide +kernel
theorem dX7_isAhead_18 : decode cX7_isAhead 18 = .ok (.iadd, 1) := by decide +kernel
theorem dX7_isAhead_19 : decode cX7_isAhead 19 = .ok (.iaload, 1) := by decide +kernel
theorem dX7_isAhead_20 : decode cX7_isAhead 20 = .ok (.isub, 1) := by decide +kernel
theorem dX7_isAhead_21 : decode cX7_isAhead 21 = .ok (.istore_n 3, 1) := by decide +kernel
theorem dX7_isAhead_22 : decode cX7_isAhead 22 = .ok (.iload_n 3, 1) := by decide +kernel
theorem dX7_isAhead_23 : decode cX7_isAhead 23 = .ok (.ifCond .eq 38, 3) := by decide +kernel
theorem dX7_isAhead_26 : decode cX7_isAhead 26 = .ok (.aload_n 0, 1) := by decide +kernel
theorem dX7_isAhead_27 : decode cX7_isAhead 27 = .ok (.getfield 7, 3) := by decide +kernel
theorem dX7_isAhead_30 : decode cX7_isAhead 30 = .ok (.bipush 96, 2) := by decide +kernel
theorem dX7_isAhead_32 : decode cX7_isAhead 32 = .ok (.iload_n 1, 1) := by decide +kernel
theorem dX7_isAhead_33 : decode cX7_isAhead 33 = .ok (.iadd, 1) := by decide +kernel
theorem dX7_isAhead_34 : decode cX7_isAhead 34 = .ok (.iaload, 1) := by decide +kernel
theorem dX7_isAhead_35 : decode cX7_isAhead 35 = .ok (.iconst 1, 1) := by decide +kernel
theorem dX7_isAhead_36 : decode cX7_isAhead 36 = .ok (.if_icmp .ne 15, 3) := by decide +kernel
theorem dX7_isAhead_39 : decode cX7_isAhead 39 = .ok (.iload_n 3, 1) := by decide +kernel
theorem dX7_isAhead_40 : decode cX7_isAhead 40 = .ok (.ifCond .le 7, 3) := by decide +kernel
theorem dX7_isAhead_43 : decode cX7_isAhead 43 = .ok (.iconst 1, 1) := by decide +kernel
theorem dX7_isAhead_44 : decode cX7_isAhead 44 = .ok (.goto 16, 3) := by decide +kernel
theorem dX7_isAhead_47 : decode cX7_isAhead 47 = .ok (.iconst 0, 1) := by decide +kernel
theorem dX7_isAhead_48 : decode cX7_isAhead 48 = .ok (.goto 12, 3) := by decide +kernel
theorem dX7_isAhead_51 : decode cX7_isAhead 51 = .ok (.iload_n 3, 1) := by decide +kernel
theorem dX7_isAhead_52 : decode cX7_isAhead 52 = .ok (.ifCond .ge 7, 3) := by decide +kernel
theorem dX7_isAhead_55 : decode cX7_isAhead 55 = .ok (.iconst 1, 1) := by decide +kernel
theorem dX7_isAhead_56 : decode cX7_isAhead 56 = .ok (.goto 4, 3) := by decide +kernel
theorem dX7_isAhead_59 : decode cX7_isAhead 59 = .ok (.iconst 0, 1) := by decide +kernel
theorem dX7_isAhead_60 : decode cX7_isAhead 60 = .ok (.ireturn, 1) := by decide +kernel
theorem dX7_isAhead_61 : decode cX7_isAhead 61 = .ok (.aload_n 0, 1) := by decide +kernel
theorem dX7_isAhead_62 : decode cX7_isAhead 62 = .ok (.getfield 7, 3) := by decide +kernel
theorem dX7_isAhead_65 : decode cX7_isAhead 65 = .ok (.bipush 64, 2) := by decide +kernel
theorem dX7_isAhead_67 : decode cX7_isAhead 67 = .ok (.iload_n 1, 1) := by decide +kernel
theorem dX7_isAhead_68 : decode cX7_isAhead 68 = .ok (.iadd, 1) := by decide +kernel
theorem dX7_isAhead_69 : decode cX7_isAhead 69 = .ok (.iaload, 1) := by decide +kernel
theorem dX7_isAhead_70 : decode cX7_isAhead 70 = .ok (.aload_n 0, 1) := by decide +kernel
theorem dX7_isAhead_71 : decode cX7_isAhead 71 = .ok (.getfield 7, 3) := by decide +kernel
theorem dX7_isAhead_74 : decode cX7_isAhead 74 = .ok (.bipush 64, 2) := by decide +kernel
theorem dX7_isAhead_76 : decode cX7_isAhead 76 = .ok (.iload_n 2, 1) := by decide +kernel
theorem dX7_isAhead_77 : decode cX7_isAhead 77 = .ok (.iadd, 1) := by decide +kernel
theorem dX7_isAhead_78 : decode cX7_isAhead 78 = .ok (.iaload, 1) := by decide +kernel
theorem dX7_isAhead_79 : decode cX7_isAhead 79 = .ok (.if_icmp .ge 7, 3) := by decide +kernel
theorem dX7_isAhead_82 : decode cX7_isAhead 82 = .ok (.iconst 1, 1) := by decide +kernel
theorem dX7_isAhead_83 : decode cX7_isAhead 83 = .ok (.goto 4, 3) := by decide +kernel
theorem dX7_isAhead_86 : decode cX7_isAhead 86 = .ok (.iconst 0, 1) := by decide +kernel
theorem dX7_isAhead_87 : decode cX7_isAhead 87 = .ok (.ireturn, 1) := by decide +kernel
theorem dX7_best_0 : decode cX7_best 0 = .ok (.iconst (-1), 1) := by decide +kernel
theorem dX7_best_1 : decode cX7_best 1 = .ok (.istore_n 2, 1) := by decide +kernel
theorem dX7_best_2 : decode cX7_best 2 = .ok (.iconst 0, 1) := by decide +kernel
theorem dX7_best_3 : decode cX7_best 3 = .ok (.istore_n 3, 1) := by decide +kernel
theorem dX7_best_4 : decode cX7_best 4 = .ok (.iload_n 3, 1) := by decide +kernel
theorem dX7_best_5 : decode cX7_best 5 = .ok (.aload_n 0, 1) := by decide +kernel
theorem dX7_best_6 : decode cX7_best 6 = .ok (.getfield 7, 3) := by decide +kernel
theorem dX7_best_9 : decode cX7_best 9 = .ok (.bipush 11, 2) := by decide +kernel
theorem dX7_best_11 : decode cX7_best 11 = .ok (.iaload, 1) := by decide +kernel
theorem dX7_best_12 : decode cX7_best 12 = .ok (.if_icmp .ge 38, 3) := by decide +kernel
theorem dX7_best_15 : decode cX7_best 15 = .ok (.aload_n 0, 1) := by decide +kernel
theorem dX7_best_16 : decode cX7_best 16 = .ok (.getfield 7, 3) := by decide +kernel
