theorem dX6_audit_63 : decode cX6_audit 63 = .ok (.putfield 57, 3) := by decide +kernel
theorem dX6_audit_66 : decode cX6_audit 66 = .ok (.iload_n 3, 1) := by decide +kernel
theorem dX6_audit_67 : decode cX6_audit 67 = .ok (.ireturn, 1) := by decide +kernel
theorem dX6_bid_0 : decode cX6_bid 0 = .ok (.aload_n 0, 1) := by decide +kernel
theorem dX6_bid_1 : decode cX6_bid 1 = .ok (.iconst 1, 1) := by decide +kernel
theorem dX6_bid_2 : decode cX6_bid 2 = .ok (.iload_n 1, 1) := by decide +kernel
theorem dX6_bid_3 : decode cX6_bid 3 = .ok (.iload_n 2, 1) := by decide +kernel
theorem dX6_bid_4 : decode cX6_bid 4 = .ok (.iload_n 3, 1) := by decide +kernel
theorem dX6_bid_5 : decode cX6_bid 5 = .ok (.invokevirtual 64, 3) := by decide +kernel
theorem dX6_bid_8 : decode cX6_bid 8 = .ok (.ireturn, 1) := by decide +kernel
theorem dX6_ask_0 : decode cX6_ask 0 = .ok (.aload_n 0, 1) := by decide +kernel
theorem dX6_ask_1 : decode cX6_ask 1 = .ok (.iconst 0, 1) := by decide +kernel
theorem dX6_ask_2 : decode cX6_ask 2 = .ok (.iload_n 1, 1) := by decide +kernel
theorem dX6_ask_3 : decode cX6_ask 3 = .ok (.iload_n 2, 1) := by decide +kernel
theorem dX6_ask_4 : decode cX6_ask 4 = .ok (.iload_n 3, 1) := by decide +kernel
theorem dX6_ask_5 : decode cX6_ask 5 = .ok (.invokevirtual 64, 3) := by decide +kernel
theorem dX6_ask_8 : decode cX6_ask 8 = .ok (.ireturn, 1) := by decide +kernel
theorem dX6_takeBack_0 : decode cX6_takeBack 0 = .ok (.aload_n 0, 1) := by decide +kernel
theorem dX6_takeBack_1 : decode cX6_takeBack 1 = .ok (.getfield 12, 3) := by decide +kernel
theorem dX6_takeBack_4 : decode cX6_takeBack 4 = .ok (.iload_n 1, 1) := by decide +kernel
theorem dX6_takeBack_5 : decode cX6_takeBack 5 = .ok (.invokevirtual 110, 3) := by decide +kernel
theorem dX6_takeBack_8 : decode cX6_takeBack 8 = .ok (.astore_n 2, 1) := by decide +kernel
theorem dX6_takeBack_9 : decode cX6_takeBack 9 = .ok (.aload_n 2, 1) := by decide +kernel
theorem dX6_takeBack_10 : decode cX6_takeBack 10 = .ok (.ifnonnull 5, 3) := by decide +kernel
theorem dX6_takeBack_13 : decode cX6_takeBack 13 = .ok (.iconst (-1), 1) := by decide +kernel
theorem dX6_takeBack_14 : decode cX6_takeBack 14 = .ok (.ireturn, 1) := by decide +kernel
theorem dX6_takeBack_15 : decode cX6_takeBack 15 = .ok (.aload_n 0, 1) := by decide +kernel
theorem dX6_takeBack_16 : decode cX6_takeBack 16 = .ok (.invokevirtual 41, 3) := by decide +kernel
theorem dX6_takeBack_19 : decode cX6_takeBack 19 = .ok (.aload_n 2, 1) := by decide +kernel
theorem dX6_takeBack_20 : decode cX6_takeBack 20 = .ok (.getfield 114, 3) := by decide +kernel
theorem dX6_takeBack_23 : decode cX6_takeBack 23 = .ok (.istore_n 3, 1) := by decide +kernel
theorem dX6_takeBack_24 : decode cX6_takeBack 24 = .ok (.aload_n 0, 1) := by decide +kernel
theorem dX6_takeBack_25 : decode cX6_takeBack 25 = .ok (.getfield 12, 3) := by decide +kernel
theorem dX6_takeBack_28 : decode cX6_takeBack 28 = .ok (.aload_n 2, 1) := by decide +kernel
theorem dX6_takeBack_29 : decode cX6_takeBack 29 = .ok (.invokevirtual 119, 3) := by decide +kernel
theorem dX6_takeBack_32 : decode cX6_takeBack 32 = .ok (.iload_n 3, 1) := by decide +kernel
theorem dX6_takeBack_33 : decode cX6_takeBack 33 = .ok (.ireturn, 1) := by decide +kernel
theorem dX6_buyReserve_0 : decode cX6_buyReserve 0 = .ok (.aload_n 0, 1) := by decide +kernel
theorem dX6_buyReserve_1 : decode cX6_buyReserve 1 = .ok (.getfield 12, 3) := by decide +kernel
theorem dX6_buyReserve_4 : decode cX6_buyReserve 4 = .ok (.iload_n 1, 1) := by decide +kernel
theorem dX6_buyReserve_5 : decode cX6_buyReserve 5 = .ok (.invokevirtual 33, 3) := by decide +kernel
theorem dX6_buyReserve_8 : decode cX6_buyReserve 8 = .ok (.astore_n 3, 1) := by decide +kernel
theorem dX6_buyReserve_9 : decode cX6_buyReserve 9 = .ok (.aload_n 3, 1) := by decide +kernel
theorem dX6_buyReserve_10 : decode cX6_buyReserve 10 = .ok (.ifnonnull 5, 3) := by decide +kernel
theorem dX6_buyReserve_13 : decode cX6_buyReserve 13 = .ok (.iconst (-1), 1) := by decide +kernel
theorem dX6_buyReserve_14 : decode cX6_buyReserve 14 = .ok (.ireturn, 1) := by decide +kernel
theorem dX6_buyReserve_15 : decode cX6_buyReserve 15 = .ok (.iload_n 2, 1) := by decide +kernel
theorem dX6_buyReserve_16 : decode cX6_buyReserve 16 = .ok (.iconst 1, 1) := by decide +kernel
theorem dX6_buyReserve_17 : decode cX6_buyReserve 17 = .ok (.sipush 999, 3) := by decide +kernel
theorem dX6_buyReserve_20 : decode cX6_buyReserve 20 = .ok (.invokestatic 37, 3) := by decide +kernel
theorem dX6_buyReserve_23 : decode cX6_buyReserve 23 = .ok (.ifCond .ne 6, 3) := by decide +kernel
theorem dX6_buyReserve_26 : decode cX6_buyReserve 26 = .ok (.bipush (-2), 2) := by decide +kernel
theorem dX6_buyReserve_28 : decode cX6_buyReserve 28 = .ok (.ireturn, 1) := by decide +kernel
theorem dX6_buyReserve_29 : decode cX6_buyReserve 29 = .ok (.aload_n 0, 1) := by decide +kernel
theorem dX6_buyReserve_30 : decode cX6_buyReserve 30 = .ok (.getfield 12, 3) := by decide +kernel
theorem dX6_buyReserve_33 : decode cX6_buyReserve 33 = .ok (.getfield 123, 3) := by decide +kernel
theorem dX6_buyReserve_36 : decode cX6_buyReserve 36 = .ok (.iload_n 2, 1) := by decide +kernel
theorem dX6_buyReserve_37 : decode cX6_buyReserve 37 = .ok (.if_icmp .lt 21, 3) := by decide +kernel
theorem dX6_buyReserve_40 : decode cX6_buyReserve 40 = .ok (.aload_n 3, 1) := by decide +kernel
theorem dX6_buyReserve_41 : decode cX6_buyReserve 41 = .ok (.getfield 126, 3) := by decide +kernel
theorem dX6_buyReserve_44 : decode cX6_buyReserve 44 = .ok (.iload_n 2, 1) := by decide +kernel
theorem dX6_buyReserve_45 : decode cX6_buyReserve 45 = .ok (.aload_n 0, 1) := by decide +kernel
theorem dX6_buyReserve_46 : decode cX6_buyReserve 46 = .ok (.getfield 12, 3) := by decide +kernel
theorem dX6_buyReserve_49 : decode cX6_buyReserve 49 = .ok (.getfield 60, 3) := by decide +kernel
theorem dX6_buyReserve_52 : decode cX6_buyReserve 52 = .ok (.iconst 1, 1) := by decide +kernel
theorem dX6_buyReserve_53 : decode cX6_buyReserve 53 = .ok (.iaload, 1) := by decide +kernel
theorem dX6_buyReserve_54 : decode cX6_buyReserve 54 = .ok (.imul, 1) := by decide +kernel
theorem dX6_buyReserve_55 : decode cX6_buyReserve 55 = .ok (.if_icmp .ge 6, 3) := by decide +kernel
theorem dX6_buyReserve_58 : decode cX6_buyReserve 58 = .ok (.bipush (-3), 2) := by decide +kernel
theorem dX6_buyReserve_60 : decode cX6_buyReserve 60 = .ok (.ireturn, 1) := by decide +kernel
theorem dX6_buyReserve_61 : decode cX6_buyReserve 61 = .ok (.aload_n 0, 1) := by decide +kernel
theorem dX6_buyReserve_62 : decode cX6_buyReserve 62 = .ok (.invokevirtual 41, 3) := by decide +kernel
theorem dX6_buyReserve_65 : decode cX6_buyReserve 65 = .ok (.aload_n 0, 1) := by decide +kernel
theorem dX6_buyReserve_66 : decode cX6_buyReserve 66 = .ok (.getfield 12, 3) := by decide +kernel
theorem dX6_buyReserve_69 : decode cX6_buyReserve 69 = .ok (.aload_n 3, 1) := by decide +kernel
theorem dX6_buyReserve_70 : decode cX6_buyReserve 70 = .ok (.iload_n 2, 1) := by decide +kernel
theorem dX6_buyReserve_71 : decode cX6_buyReserve 71 = .ok (.invokevirtual 129, 3) := by decide +kernel
theorem dX6_buyReserve_74 : decode cX6_buyReserve 74 = .ok (.aload_n 0, 1) := by decide +kernel
theorem dX6_buyReserve_75 : decode cX6_buyReserve 75 = .ok (.getfield 12, 3) := by decide +kernel
theorem dX6_buyReserve_78 : decode cX6_buyReserve 78 = .ok (.getfield 123, 3) := by decide +kernel
theorem dX6_buyReserve_81 : decode cX6_buyReserve 81 = .ok (.ireturn, 1) := by decide +kernel
theorem dX6_borrow_0 : decode cX6_borrow 0 = .ok (.aload_n 0, 1) := by decide +kernel
theorem dX6_borrow_1 : decode cX6_borrow 1 = .ok (.getfield 12, 3) := by decide +kernel
theorem dX6_borrow_4 : decode cX6_borrow 4 = .ok (.iload_n 1, 1) := by decide +kernel
theorem dX6_borrow_5 : decode cX6_borrow 5 = .ok (.invokevirtual 33, 3) := by decide +kernel
theorem dX6_borrow_8 : decode cX6_borrow 8 = .ok (.astore_n 3, 1) := by decide +kernel
theorem dX6_borrow_9 : decode cX6_borrow 9 = .ok (.aload_n 3, 1) := by decide +kernel
theorem dX6_borrow_10 : decode cX6_borrow 10 = .ok (.ifnonnull 5, 3) := by decide +kernel
theorem dX6_borrow_13 : decode cX6_borrow 13 = .ok (.iconst (-1), 1) := by decide +kernel
theorem dX6_borrow_14 : decode cX6_borrow 14 = .ok (.ireturn, 1) := by decide +kernel
theorem dX6_borrow_15 : decode cX6_borrow 15 = .ok (.iload_n 2, 1) := by decide +kernel
theorem dX6_borrow_16 : decode cX6_borrow 16 = .ok (.iconst 1, 1) := by decide +kernel
theorem dX6_borrow_17 : decode cX6_borrow 17 = .ok (.sipush 999, 3) := by decide +kernel
theorem dX6_borrow_20 : decode cX6_borrow 20 = .ok (.invokestatic 37, 3) := by decide +kernel
theorem dX6_borrow_23 : decode cX6_borrow 23 = .ok (.ifCond .ne 6, 3) := by decide +kernel
theorem dX6_borrow_26 : decode cX6_borrow 26 = .ok (.bipush (-2), 2) := by decide +kernel
theorem dX6_borrow_28 : decode cX6_borrow 28 = .ok (.ireturn, 1) := by decide +kernel
theorem dX6_borrow_29 : decode cX6_borrow 29 = .ok (.aload_n 3, 1) := by decide +kernel
theorem dX6_borrow_30 : decode cX6_borrow 30 = .ok (.getfield 133, 3) := by decide +kernel
theorem dX6_borrow_33 : decode cX6_borrow 33 = .ok (.iload_n 2, 1) := by decide +kernel
theorem dX6_borrow_34 : decode cX6_borrow 34 = .ok (.iadd, 1) := by decide +kernel
theorem dX6_borrow_35 : decode cX6_borrow 35 = .ok (.aload_n 3, 1) := by decide +kernel
theorem dX6_borrow_36 : decode cX6_borrow 36 = .ok (.getfield 54, 3) := by decide +kernel
theorem dX6_borrow_39 : decode cX6_borrow 39 = .ok (.aload_n 0, 1) := by decide +kernel
theorem dX6_borrow_40 : decode cX6_borrow 40 = .ok (.getfield 12, 3) := by decide +kernel
theorem dX6_borrow_43 : decode cX6_borrow 43 = .ok (.getfield 60, 3) := by decide +kernel
theorem dX6_borrow_46 : decode cX6_borrow 46 = .ok (.iconst 2, 1) := by decide +kernel
theorem dX6_borrow_47 : decode cX6_borrow 47 = .ok (.iaload, 1) := by decide +kernel
theorem dX6_borrow_48 : decode cX6_borrow 48 = .ok (.imul, 1) := by decide +kernel
theorem dX6_borrow_49 : decode cX6_borrow 49 = .ok (.bipush 100, 2) := by decide +kernel
theorem dX6_borrow_51 : decode cX6_borrow 51 = .ok (.idiv, 1) := by decide +kernel
theorem dX6_borrow_52 : decode cX6_borrow 52 = .ok (.if_icmp .le 6, 3) := by decide +kernel
theorem dX6_borrow_55 : decode cX6_borrow 55 = .ok (.bipush (-3), 2) := by decide +kernel
theorem dX6_borrow_57 : decode cX6_borrow 57 = .ok (.ireturn, 1) := by decide +kernel
theorem dX6_borrow_58 : decode cX6_borrow 58 = .ok (.aload_n 0, 1) := by decide +kernel
theorem dX6_borrow_59 : decode cX6_borrow 59 = .ok (.invokevirtual 41, 3) := by decide +kernel
theorem dX6_borrow_62 : decode cX6_borrow 62 = .ok (.aload_n 3, 1) := by decide +kernel
theorem dX6_borrow_63 : decode cX6_borrow 63 = .ok (.dup, 1) := by decide +kernel
theorem dX6_borrow_64 : decode cX6_borrow 64 = .ok (.getfield 133, 3) := by decide +kernel
theorem dX6_borrow_67 : decode cX6_borrow 67 = .ok (.iload_n 2, 1) := by decide +kernel
theorem dX6_borrow_68 : decode cX6_borrow 68 = .ok (.iadd, 1) := by decide +kernel
theorem dX6_borrow_69 : decode cX6_borrow 69 = .ok (.putfield 133, 3) := by decide +kernel
theorem dX6_borrow_72 : decode cX6_borrow 72 = .ok (.aload_n 3, 1) := by decide +kernel
theorem dX6_borrow_73 : decode cX6_borrow 73 = .ok (.getfield 133, 3) := by decide +kernel
theorem dX6_borrow_76 : decode cX6_borrow 76 = .ok (.ireturn, 1) := by decide +kernel
theorem dX6_set_0 : decode cX6_set 0 = .ok (.iload_n 1, 1) := by decide +kernel
theorem dX6_set_1 : decode cX6_set 1 = .ok (.iload_n 2, 1) := by decide +kernel
theorem dX6_set_2 : decode cX6_set 2 = .ok (.invokestatic 136, 3) := by decide +kernel
theorem dX6_set_5 : decode cX6_set 5 = .ok (.ifCond .ne 6, 3) := by decide +kernel
theorem dX6_set_8 : decode cX6_set 8 = .ok (.bipush (-2), 2) := by decide +kernel
theorem dX6_set_10 : decode cX6_set 10 = .ok (.ireturn, 1) := by decide +kernel
theorem dX6_set_11 : decode cX6_set 11 = .ok (.aload_n 0, 1) := by decide +kernel
theorem dX6_set_12 : decode cX6_set 12 = .ok (.getfield 12, 3) := by decide +kernel
theorem dX6_set_15 : decode cX6_set 15 = .ok (.getfield 60, 3) := by decide +kernel
theorem dX6_set_18 : decode cX6_set 18 = .ok (.iload_n 1, 1) := by decide +kernel
theorem dX6_set_19 : decode cX6_set 19 = .ok (.iaload, 1) := by decide +kernel
theorem dX6_set_20 : decode cX6_set 20 = .ok (.istore_n 3, 1) := by decide +kernel
theorem dX6_set_21 : decode cX6_set 21 = .ok (.iload_n 3, 1) := by decide +kernel
theorem dX6_set_22 : decode cX6_set 22 = .ok (.iload_n 2, 1) := by decide +kernel
theorem dX6_set_23 : decode cX6_set 23 = .ok (.if_icmp .ne 6, 3) := by decide +kernel
theorem dX6_set_26 : decode cX6_set 26 = .ok (.bipush (-5), 2) := by decide +kernel
theorem dX6_set_28 : decode cX6_set 28 = .ok (.ireturn, 1) := by decide +kernel
theorem dX6_set_29 : decode cX6_set 29 = .ok (.aload_n 0, 1) := by decide +kernel
theorem dX6_set_30 : decode cX6_set 30 = .ok (.invokevirtual 41, 3) := by decide +kernel
theorem dX6_set_33 : decode cX6_set 33 = .ok (.aload_n 0, 1) := by decide +kernel
theorem dX6_set_34 : decode cX6_set 34 = .ok (.getfield 12, 3) := by decide +kernel
theorem dX6_set_37 : decode cX6_set 37 = .ok (.getfield 60, 3) := by decide +kernel
theorem dX6_set_40 : decode cX6_set 40 = .ok (.iload_n 1, 1) := by decide +kernel
theorem dX6_set_41 : decode cX6_set 41 = .ok (.iload_n 2, 1) := by decide +kernel
theorem dX6_set_42 : decode cX6_set 42 = .ok (.iastore, 1) := by decide +kernel
theorem dX6_set_43 : decode cX6_set 43 = .ok (.iload_n 3, 1) := by decide +kernel
theorem dX6_set_44 : decode cX6_set 44 = .ok (.ireturn, 1) := by decide +kernel
theorem dX6_endYear_0 : decode cX6_endYear 0 = .ok (.aload_n 0, 1) := by decide +kernel
theorem dX6_endYear_1 : decode cX6_endYear 1 = .ok (.getfield 12, 3) := by decide +kernel
theorem dX6_endYear_4 : decode cX6_endYear 4 = .ok (.getfield 140, 3) := by decide +kernel
theorem dX6_endYear_7 : decode cX6_endYear 7 = .ok (.sipush 999, 3) := by decide +kernel
theorem dX6_endYear_10 : decode cX6_endYear 10 = .ok (.if_icmp .lt 6, 3) := by decide +kernel
theorem dX6_endYear_13 : decode cX6_endYear 13 = .ok (.bipush (-3), 2) := by decide +kernel
theorem dX6_endYear_15 : decode cX6_endYear 15 = .ok (.ireturn, 1) := by decide +kernel
theorem dX6_endYear_16 : decode cX6_endYear 16 = .ok (.aload_n 0, 1) := by decide +kernel
theorem dX6_endYear_17 : decode cX6_endYear 17 = .ok (.invokevirtual 41, 3) := by decide +kernel
theorem dX6_endYear_20 : decode cX6_endYear 20 = .ok (.aload_n 0, 1) := by decide +kernel
theorem dX6_endYear_21 : decode cX6_endYear 21 = .ok (.getfield 12, 3) := by decide +kernel
theorem dX6_endYear_24 : decode cX6_endYear 24 = .ok (.invokevirtual 143, 3) := by decide +kernel
theorem dX6_endYear_27 : decode cX6_endYear 27 = .ok (.ireturn, 1) := by decide +kernel
theorem dX6_undo_0 : decode cX6_undo 0 = .ok (.aload_n 0, 1) := by decide +kernel
theorem dX6_undo_1 : decode cX6_undo 1 = .ok (.getfield 153, 3) := by decide +kernel
theorem dX6_undo_4 : decode cX6_undo 4 = .ok (.ifCond .ne 6, 3) := by decide +kernel
theorem dX6_undo_7 : decode cX6_undo 7 = .ok (.bipush (-5), 2) := by decide +kernel
theorem dX6_undo_9 : decode cX6_undo 9 = .ok (.ireturn, 1) := by decide +kernel
theorem dX6_undo_10 : decode cX6_undo 10 = .ok (.aload_n 0, 1) := by decide +kernel
theorem dX6_undo_11 : decode cX6_undo 11 = .ok (.getfield 22, 3) := by decide +kernel
theorem dX6_undo_14 : decode cX6_undo 14 = .ok (.iconst 0, 1) := by decide +kernel
theorem dX6_undo_15 : decode cX6_undo 15 = .ok (.aaload, 1) := by decide +kernel
theorem dX6_undo_16 : decode cX6_undo 16 = .ok (.astore_n 1, 1) := by decide +kernel
theorem dX6_undo_17 : decode cX6_undo 17 = .ok (.iconst 1, 1) := by decide +kernel
theorem dX6_undo_18 : decode cX6_undo 18 = .ok (.istore_n 2, 1) := by decide +kernel
theorem dX6_undo_19 : decode cX6_undo 19 = .ok (.iload_n 2, 1) := by decide +kernel
theorem dX6_undo_20 : decode cX6_undo 20 = .ok (.aload_n 0, 1) := by decide +kernel
theorem dX6_undo_21 : decode cX6_undo 21 = .ok (.getfield 22, 3) := by decide +kernel
theorem dX6_undo_24 : decode cX6_undo 24 = .ok (.arraylength, 1) := by decide +kernel
theorem dX6_undo_25 : decode cX6_undo 25 = .ok (.if_icmp .ge 23, 3) := by decide +kernel
theorem dX6_undo_28 : decode cX6_undo 28 = .ok (.aload_n 0, 1) := by decide +kernel
theorem dX6_undo_29 : decode cX6_undo 29 = .ok (.getfield 22, 3) := by decide +kernel
theorem dX6_undo_32 : decode cX6_undo 32 = .ok (.iload_n 2, 1) := by decide +kernel
theorem dX6_undo_33 : decode cX6_undo 33 = .ok (.iconst 1, 1) := by decide +kernel
theorem dX6_undo_34 : decode cX6_undo 34 = .ok (.isub, 1) := by decide +kernel
theorem dX6_undo_35 : decode cX6_undo 35 = .ok (.aload_n 0, 1) := by decide +kernel
theorem dX6_undo_36 : decode cX6_undo 36 = .ok (.getfield 22, 3) := by decide +kernel
theorem dX6_undo_39 : decode cX6_undo 39 = .ok (.iload_n 2, 1) := by decide +kernel
theorem dX6_undo_40 : decode cX6_undo 40 = .ok (.aaload, 1) := by decide +kernel
theorem dX6_undo_41 : decode cX6_undo 41 = .ok (.aastore, 1) := by decide +kernel
theorem dX6_undo_42 : decode cX6_undo 42 = .ok (.iinc 2 1, 3) := by decide +kernel
theorem dX6_undo_45 : decode cX6_undo 45 = .ok (.goto (-26), 3) := by decide +kernel
theorem dX6_undo_48 : decode cX6_undo 48 = .ok (.aload_n 0, 1) := by decide +kernel
theorem dX6_undo_49 : decode cX6_undo 49 = .ok (.getfield 22, 3) := by decide +kernel
theorem dX6_undo_52 : decode cX6_undo 52 = .ok (.aload_n 0, 1) := by decide +kernel
theorem dX6_undo_53 : decode cX6_undo 53 = .ok (.getfield 22, 3) := by decide +kernel
theorem dX6_undo_56 : decode cX6_undo 56 = .ok (.arraylength, 1) := by decide +kernel
theorem dX6_undo_57 : decode cX6_undo 57 = .ok (.iconst 1, 1) := by decide +kernel
theorem dX6_undo_58 : decode cX6_undo 58 = .ok (.isub, 1) := by decide +kernel
theorem dX6_undo_59 : decode cX6_undo 59 = .ok (.aload_n 0, 1) := by decide +kernel
theorem dX6_undo_60 : decode cX6_undo 60 = .ok (.getfield 12, 3) := by decide +kernel
theorem dX6_undo_63 : decode cX6_undo 63 = .ok (.aastore, 1) := by decide +kernel
theorem dX6_undo_64 : decode cX6_undo 64 = .ok (.aload_n 0, 1) := by decide +kernel
theorem dX6_undo_65 : decode cX6_undo 65 = .ok (.aload_n 1, 1) := by decide +kernel
theorem dX6_undo_66 : decode cX6_undo 66 = .ok (.putfield 12, 3) := by decide +kernel
theorem dX6_undo_69 : decode cX6_undo 69 = .ok (.aload_n 0, 1) := by decide +kernel
theorem dX6_undo_70 : decode cX6_undo 70 = .ok (.dup, 1) := by decide +kernel
theorem dX6_undo_71 : decode cX6_undo 71 = .ok (.getfield 153, 3) := by decide +kernel
theorem dX6_undo_74 : decode cX6_undo 74 = .ok (.iconst 1, 1) := by decide +kernel
theorem dX6_undo_75 : decode cX6_undo 75 = .ok (.isub, 1) := by decide +kernel
theorem dX6_undo_76 : decode cX6_undo 76 = .ok (.putfield 153, 3) := by decide +kernel
theorem dX6_undo_79 : decode cX6_undo 79 = .ok (.aload_n 0, 1) := by decide +kernel
theorem dX6_undo_80 : decode cX6_undo 80 = .ok (.getfield 153, 3) := by decide +kernel
theorem dX6_undo_83 : decode cX6_undo 83 = .ok (.ireturn, 1) := by decide +kernel
theorem dX6_kiln_0 : decode cX6_kiln 0 = .ok (.aload_n 0, 1) := by decide +kernel
theorem dX6_kiln_1 : decode cX6_kiln 1 = .ok (.getfield 12, 3) := by decide +kernel
theorem dX6_kiln_4 : decode cX6_kiln 4 = .ok (.iload_n 1, 1) := by decide +kernel
theorem dX6_kiln_5 : decode cX6_kiln 5 = .ok (.invokevirtual 33, 3) := by decide +kernel
theorem dX6_kiln_8 : decode cX6_kiln 8 = .ok (.astore_n 3, 1) := by decide +kernel
theorem dX6_kiln_9 : decode cX6_kiln 9 = .ok (.aload_n 3, 1) := by decide +kernel
theorem dX6_kiln_10 : decode cX6_kiln 10 = .ok (.ifnonnull 5, 3) := by decide +kernel
theorem dX6_kiln_13 : decode cX6_kiln 13 = .ok (.iconst (-1), 1) := by decide +kernel
theorem dX6_kiln_14 : decode cX6_kiln 14 = .ok (.ireturn, 1) := by decide +kernel
theorem dX6_kiln_15 : decode cX6_kiln 15 = .ok (.iload_n 2, 1) := by decide +kernel
theorem dX6_kiln_16 : decode cX6_kiln 16 = .ok (.tableswitch 138 0 11 #[64, 69, 77, 82, 87, 92, 97, 102, 107, 112, 120, 129], 64) := by decide +kernel
theorem dX6_kiln_80 : decode cX6_kiln 80 = .ok (.aload_n 3, 1) := by decide +kernel
theorem dX6_kiln_81 : decode cX6_kiln 81 = .ok (.getfield 126, 3) := by decide +kernel
theorem dX6_kiln_84 : decode cX6_kiln 84 = .ok (.ireturn, 1) := by decide +kernel
theorem dX6_kiln_85 : decode cX6_kiln 85 = .ok (.aload_n 3, 1) := by decide +kernel
theorem dX6_kiln_86 : decode cX6_kiln 86 = .ok (.getfield 159, 3) := by decide +kernel
theorem dX6_kiln_89 : decode cX6_kiln 89 = .ok (.getfield 162, 3) := by decide +kernel
theorem dX6_kiln_92 : decode cX6_kiln 92 = .ok (.ireturn, 1) := by decide +kernel
theorem dX6_kiln_93 : decode cX6_kiln 93 = .ok (.aload_n 3, 1) := by decide +kernel
theorem dX6_kiln_94 : decode cX6_kiln 94 = .ok (.getfield 48, 3) := by decide +kernel
theorem dX6_kiln_97 : decode cX6_kiln 97 = .ok (.ireturn, 1) := by decide +kernel
theorem dX6_kiln_98 : decode cX6_kiln 98 = .ok (.aload_n 3, 1) := by decide +kernel
theorem dX6_kiln_99 : decode cX6_kiln 99 = .ok (.getfield 54, 3) := by decide +kernel
theorem dX6_kiln_102 : decode cX6_kiln 102 = .ok (.ireturn, 1) := by decide +kernel
theorem dX6_kiln_103 : decode cX6_kiln 103 = .ok (.aload_n 3, 1) := by decide +kernel
theorem dX6_kiln_104 : decode cX6_kiln 104 = .ok (.getfield 133, 3) := by decide +kernel
theorem dX6_kiln_107 : decode cX6_kiln 107 = .ok (.ireturn, 1) := by decide +kernel
theorem dX6_kiln_108 : decode cX6_kiln 108 = .ok (.aload_n 3, 1) := by decide +kernel
theorem dX6_kiln_109 : decode cX6_kiln 109 = .ok (.getfield 57, 3) := by decide +kernel
theorem dX6_kiln_112 : decode cX6_kiln 112 = .ok (.ireturn, 1) := by decide +kernel
theorem dX6_kiln_113 : decode cX6_kiln 113 = .ok (.aload_n 3, 1) := by decide +kernel
theorem dX6_kiln_114 : decode cX6_kiln 114 = .ok (.getfield 167, 3) := by decide +kernel
theorem dX6_kiln_117 : decode cX6_kiln 117 = .ok (.ireturn, 1) := by decide +kernel
theorem dX6_kiln_118 : decode cX6_kiln 118 = .ok (.aload_n 3, 1) := by decide +kernel
theorem dX6_kiln_119 : decode cX6_kiln 119 = .ok (.getfield 170, 3) := by decide +kernel
theorem dX6_kiln_122 : decode cX6_kiln 122 = .ok (.ireturn, 1) := by decide +kernel
theorem dX6_kiln_123 : decode cX6_kiln 123 = .ok (.aload_n 3, 1) := by decide +kernel
theorem dX6_kiln_124 : decode cX6_kiln 124 = .ok (.invokevirtual 173, 3) := by decide +kernel
theorem dX6_kiln_127 : decode cX6_kiln 127 = .ok (.ireturn, 1) := by decide +kernel
theorem dX6_kiln_128 : decode cX6_kiln 128 = .ok (.aload_n 3, 1) := by decide +kernel
theorem dX6_kiln_129 : decode cX6_kiln 129 = .ok (.getfield 159, 3) := by decide +kernel
theorem dX6_kiln_132 : decode cX6_kiln 132 = .ok (.invokevirtual 176, 3) := by decide +kernel
theorem dX6_kiln_135 : decode cX6_kiln 135 = .ok (.ireturn, 1) := by decide +kernel
theorem dX6_kiln_136 : decode cX6_kiln 136 = .ok (.aload_n 0, 1) := by decide +kernel
theorem dX6_kiln_137 : decode cX6_kiln 137 = .ok (.getfield 12, 3) := by decide +kernel
theorem dX6_kiln_140 : decode cX6_kiln 140 = .ok (.iload_n 1, 1) := by decide +kernel
theorem dX6_kiln_141 : decode cX6_kiln 141 = .ok (.invokevirtual 179, 3) := by decide +kernel
theorem dX6_kiln_144 : decode cX6_kiln 144 = .ok (.ireturn, 1) := by decide +kernel
theorem dX6_kiln_145 : decode cX6_kiln 145 = .ok (.aload_n 0, 1) := by decide +kernel
theorem dX6_kiln_146 : decode cX6_kiln 146 = .ok (.getfield 12, 3) := by decide +kernel
theorem dX6_kiln_149 : decode cX6_kiln 149 = .ok (.iload_n 1, 1) := by decide +kernel
theorem dX6_kiln_150 : decode cX6_kiln 150 = .ok (.invokevirtual 183, 3) := by decide +kernel
theorem dX6_kiln_153 : decode cX6_kiln 153 = .ok (.ireturn, 1) := by decide +kernel
theorem dX6_kiln_154 : decode cX6_kiln 154 = .ok (.bipush (-2), 2) := by decide +kernel
theorem dX6_kiln_156 : decode cX6_kiln 156 = .ok (.ireturn, 1) := by decide +kernel
theorem dX6_ofYear_0 : decode cX6_ofYear 0 = .ok (.aload_n 0, 1) := by decide +kernel
theorem dX6_ofYear_1 : decode cX6_ofYear 1 = .ok (.getfield 12, 3) := by decide +kernel
theorem dX6_ofYear_4 : decode cX6_ofYear 4 = .ok (.iload_n 1, 1) := by decide +kernel
theorem dX6_ofYear_5 : decode cX6_ofYear 5 = .ok (.invokevirtual 33, 3) := by decide +kernel
theorem dX6_ofYear_8 : decode cX6_ofYear 8 = .ok (.astore_n 3, 1) := by decide +kernel
theorem dX6_ofYear_9 : decode cX6_ofYear 9 = .ok (.aload_n 3, 1) := by decide +kernel
theorem dX6_ofYear_10 : decode cX6_ofYear 10 = .ok (.ifnonnull 5, 3) := by decide +kernel
theorem dX6_ofYear_13 : decode cX6_ofYear 13 = .ok (.iconst (-1), 1) := by decide +kernel
theorem dX6_ofYear_14 : decode cX6_ofYear 14 = .ok (.ireturn, 1) := by decide +kernel
theorem dX6_ofYear_15 : decode cX6_ofYear 15 = .ok (.iload_n 2, 1) := by decide +kernel
theorem dX6_ofYear_16 : decode cX6_ofYear 16 = .ok (.iconst 0, 1) := by decide +kernel
theorem dX6_ofYear_17 : decode cX6_ofYear 17 = .ok (.aload_n 0, 1) := by decide +kernel
theorem dX6_ofYear_18 : decode cX6_ofYear 18 = .ok (.getfield 12, 3) := by decide +kernel
theorem dX6_ofYear_21 : decode cX6_ofYear 21 = .ok (.getfield 140, 3) := by decide +kernel
theorem dX6_ofYear_24 : decode cX6_ofYear 24 = .ok (.invokestatic 37, 3) := by decide +kernel
theorem dX6_ofYear_27 : decode cX6_ofYear 27 = .ok (.ifCond .ne 6, 3) := by decide +kernel
theorem dX6_ofYear_30 : decode cX6_ofYear 30 = .ok (.bipush (-2), 2) := by decide +kernel
theorem dX6_ofYear_32 : decode cX6_ofYear 32 = .ok (.ireturn, 1) := by decide +kernel
theorem dX6_ofYear_33 : decode cX6_ofYear 33 = .ok (.aload_n 3, 1) := by decide +kernel
theorem dX6_ofYear_34 : decode cX6_ofYear 34 = .ok (.getfield 159, 3) := by decide +kernel
theorem dX6_ofYear_37 : decode cX6_ofYear 37 = .ok (.iload_n 2, 1) := by decide +kernel
theorem dX6_ofYear_38 : decode cX6_ofYear 38 = .ok (.invokevirtual 186, 3) := by decide +kernel
theorem dX6_ofYear_41 : decode cX6_ofYear 41 = .ok (.ireturn, 1) := by decide +kernel
theorem dX6_order_0 : decode cX6_order 0 = .ok (.iload_n 2, 1) := by decide +kernel
theorem dX6_order_1 : decode cX6_order 1 = .ok (.ifCond .lt 12, 3) := by decide +kernel
theorem dX6_order_4 : decode cX6_order 4 = .ok (.iload_n 3, 1) := by decide +kernel
theorem dX6_order_5 : decode cX6_order 5 = .ok (.iconst 0, 1) := by decide +kernel
theorem dX6_order_6 : decode cX6_order 6 = .ok (.iconst 3, 1) := by decide +kernel
theorem dX6_order_7 : decode cX6_order 7 = .ok (.invokestatic 37, 3) := by decide +kernel
theorem dX6_order_10 : decode cX6_order 10 = .ok (.ifCond .ne 6, 3) := by decide +kernel
theorem dX6_order_13 : decode cX6_order 13 = .ok (.bipush (-2), 2) := by decide +kernel
theorem dX6_order_15 : decode cX6_order 15 = .ok (.ireturn, 1) := by decide +kernel
theorem dX6_order_16 : decode cX6_order 16 = .ok (.aload_n 0, 1) := by decide +kernel
theorem dX6_order_17 : decode cX6_order 17 = .ok (.getfield 12, 3) := by decide +kernel
theorem dX6_order_20 : decode cX6_order 20 = .ok (.iload_n 1, 1) := by decide +kernel
theorem dX6_order_21 : decode cX6_order 21 = .ok (.iload_n 2, 1) := by decide +kernel
theorem dX6_order_22 : decode cX6_order 22 = .ok (.invokevirtual 189, 3) := by decide +kernel
theorem dX6_order_25 : decode cX6_order 25 = .ok (.astore 4, 2) := by decide +kernel
theorem dX6_order_27 : decode cX6_order 27 = .ok (.aload 4, 2) := by decide +kernel
theorem dX6_order_29 : decode cX6_order 29 = .ok (.ifnonnull 6, 3) := by decide +kernel
theorem dX6_order_32 : decode cX6_order 32 = .ok (.bipush (-5), 2) := by decide +kernel
theorem dX6_order_34 : decode cX6_order 34 = .ok (.ireturn, 1) := by decide +kernel
theorem dX6_order_35 : decode cX6_order 35 = .ok (.iload_n 3, 1) := by decide +kernel
theorem dX6_order_36 : decode cX6_order 36 = .ok (.tableswitch 46 0 2 #[28, 34, 40], 28) := by decide +kernel
theorem dX6_order_64 : decode cX6_order 64 = .ok (.aload 4, 2) := by decide +kernel
theorem dX6_order_66 : decode cX6_order 66 = .ok (.getfield 193, 3) := by decide +kernel
theorem dX6_order_69 : decode cX6_order 69 = .ok (.ireturn, 1) := by decide +kernel
theorem dX6_order_70 : decode cX6_order 70 = .ok (.aload 4, 2) := by decide +kernel
theorem dX6_order_72 : decode cX6_order 72 = .ok (.getfield 196, 3) := by decide +kernel
theorem dX6_order_75 : decode cX6_order 75 = .ok (.ireturn, 1) := by decide +kernel
theorem dX6_order_76 : decode cX6_order 76 = .ok (.aload 4, 2) := by decide +kernel
theorem dX6_order_78 : decode cX6_order 78 = .ok (.getfield 114, 3) := by decide +kernel
theorem dX6_order_81 : decode cX6_order 81 = .ok (.ireturn, 1) := by decide +kernel
theorem dX6_order_82 : decode cX6_order 82 = .ok (.aload 4, 2) := by decide +kernel
theorem dX6_order_84 : decode cX6_order 84 = .ok (.getfield 197, 3) := by decide +kernel
theorem dX6_order_87 : decode cX6_order 87 = .ok (.ireturn, 1) := by decide +kernel
theorem dX6_depth_0 : decode cX6_depth 0 = .ok (.iload_n 2, 1) := by decide +kernel
theorem dX6_depth_1 : decode cX6_depth 1 = .ok (.iconst 1, 1) := by decide +kernel
theorem dX6_depth_2 : decode cX6_depth 2 = .ok (.sipush 500, 3) := by decide +kernel
theorem dX6_depth_5 : decode cX6_depth 5 = .ok (.invokestatic 37, 3) := by decide +kernel
theorem dX6_depth_8 : decode cX6_depth 8 = .ok (.ifCond .ne 6, 3) := by decide +kernel
theorem dX6_depth_11 : decode cX6_depth 11 = .ok (.bipush (-2), 2) := by decide +kernel
theorem dX6_depth_13 : decode cX6_depth 13 = .ok (.ireturn, 1) := by decide +kernel
theorem dX6_depth_14 : decode cX6_depth 14 = .ok (.iconst 0, 1) := by decide +kernel
theorem dX6_depth_15 : decode cX6_depth 15 = .ok (.istore_n 3, 1) := by decide +kernel
theorem dX6_depth_16 : decode cX6_depth 16 = .ok (.aload_n 0, 1) := by decide +kernel
theorem dX6_depth_17 : decode cX6_depth 17 = .ok (.getfield 12, 3) := by decide +kernel
theorem dX6_depth_20 : decode cX6_depth 20 = .ok (.getfield 198, 3) := by decide +kernel
theorem dX6_depth_23 : decode cX6_depth 23 = .ok (.astore 4, 2) := by decide +kernel
theorem dX6_depth_25 : decode cX6_depth 25 = .ok (.aload 4, 2) := by decide +kernel
theorem dX6_depth_27 : decode cX6_depth 27 = .ok (.arraylength, 1) := by decide +kernel
theorem dX6_depth_28 : decode cX6_depth 28 = .ok (.istore 5, 2) := by decide +kernel
theorem dX6_depth_30 : decode cX6_depth 30 = .ok (.iconst 0, 1) := by decide +kernel
theorem dX6_depth_31 : decode cX6_depth 31 = .ok (.istore 6, 2) := by decide +kernel
theorem dX6_depth_33 : decode cX6_depth 33 = .ok (.iload 6, 2) := by decide +kernel
theorem dX6_depth_35 : decode cX6_depth 35 = .ok (.iload 5, 2) := by decide +kernel
theorem dX6_depth_37 : decode cX6_depth 37 = .ok (.if_icmp .ge 42, 3) := by decide +kernel
theorem dX6_depth_40 : decode cX6_depth 40 = .ok (.aload 4, 2) := by decide +kernel
theorem dX6_depth_42 : decode cX6_depth 42 = .ok (.iload 6, 2) := by decide +kernel
theorem dX6_depth_44 : decode cX6_depth 44 = .ok (.aaload, 1) := by decide +kernel
theorem dX6_depth_45 : decode cX6_depth 45 = .ok (.astore 7, 2) := by decide +kernel
theorem dX6_depth_47 : decode cX6_depth 47 = .ok (.aload 7, 2) := by decide +kernel
theorem dX6_depth_49 : decode cX6_depth 49 = .ok (.getfield 202, 3) := by decide +kernel
theorem dX6_depth_52 : decode cX6_depth 52 = .ok (.iload_n 1, 1) := by decide +kernel
theorem dX6_depth_53 : decode cX6_depth 53 = .ok (.if_icmp .eq 20, 3) := by decide +kernel
theorem dX6_depth_56 : decode cX6_depth 56 = .ok (.aload 7, 2) := by decide +kernel
theorem dX6_depth_58 : decode cX6_depth 58 = .ok (.iload_n 2, 1) := by decide +kernel
theorem dX6_depth_59 : decode cX6_depth 59 = .ok (.invokevirtual 203, 3) := by decide +kernel
theorem dX6_depth_62 : decode cX6_depth 62 = .ok (.ifCond .eq 11, 3) := by decide +kernel
theorem dX6_depth_65 : decode cX6_depth 65 = .ok (.iload_n 3, 1) := by decide +kernel
theorem dX6_depth_66 : decode cX6_depth 66 = .ok (.aload 7, 2) := by decide +kernel
theorem dX6_depth_68 : decode cX6_depth 68 = .ok (.getfield 114, 3) := by decide +kernel
theorem dX6_depth_71 : decode cX6_depth 71 = .ok (.iadd, 1) := by decide +kernel
theorem dX6_depth_72 : decode cX6_depth 72 = .ok (.istore_n 3, 1) := by decide +kernel
theorem dX6_depth_73 : decode cX6_depth 73 = .ok (.iinc 6 1, 3) := by decide +kernel
theorem dX6_depth_76 : decode cX6_depth 76 = .ok (.goto (-43), 3) := by decide +kernel
theorem dX6_depth_79 : decode cX6_depth 79 = .ok (.iload_n 3, 1) := by decide +kernel
theorem dX6_depth_80 : decode cX6_depth 80 = .ok (.ireturn, 1) := by decide +kernel
theorem dX6_count_0 : decode cX6_count 0 = .ok (.iload_n 1, 1) := by decide +kernel
theorem dX6_count_1 : decode cX6_count 1 = .ok (.tableswitch 289 0 20 #[99, 107, 115, 123, 131, 139, 147, 155, 163, 171, 179, 202, 210, 218, 226, 236, 246, 256, 266, 276, 281], 99) := by decide +kernel
theorem dX6_count_100 : decode cX6_count 100 = .ok (.aload_n 0, 1) := by decide +kernel
theorem dX6_count_101 : decode cX6_count 101 = .ok (.getfield 12, 3) := by decide +kernel
theorem dX6_count_104 : decode cX6_count 104 = .ok (.getfield 140, 3) := by decide +kernel
theorem dX6_count_107 : decode cX6_count 107 = .ok (.ireturn, 1) := by decide +kernel
theorem dX6_count_108 : decode cX6_count 108 = .ok (.aload_n 0, 1) := by decide +kernel
theorem dX6_count_109 : decode cX6_count 109 = .ok (.getfield 12, 3) := by decide +kernel
theorem dX6_count_112 : decode cX6_count 112 = .ok (.invokevirtual 207, 3) := by decide +kernel
theorem dX6_count_115 : decode cX6_count 115 = .ok (.ireturn, 1) := by decide +kernel
theorem dX6_count_116 : decode cX6_count 116 = .ok (.aload_n 0, 1) := by decide +kernel
theorem dX6_count_117 : decode cX6_count 117 = .ok (.getfield 12, 3) := by decide +kernel
theorem dX6_count_120 : decode cX6_count 120 = .ok (.getfield 210, 3) := by decide +kernel
theorem dX6_count_123 : decode cX6_count 123 = .ok (.ireturn, 1) := by decide +kernel
theorem dX6_count_124 : decode cX6_count 124 = .ok (.aload_n 0, 1) := by decide +kernel
theorem dX6_count_125 : decode cX6_count 125 = .ok (.getfield 12, 3) := by decide +kernel
theorem dX6_count_128 : decode cX6_count 128 = .ok (.getfield 213, 3) := by decide +kernel
theorem dX6_count_131 : decode cX6_count 131 = .ok (.ireturn, 1) := by decide +kernel
theorem dX6_count_132 : decode cX6_count 132 = .ok (.aload_n 0, 1) := by decide +kernel
theorem dX6_count_133 : decode cX6_count 133 = .ok (.getfield 12, 3) := by decide +kernel
theorem dX6_count_136 : decode cX6_count 136 = .ok (.getfield 216, 3) := by decide +kernel
theorem dX6_count_139 : decode cX6_count 139 = .ok (.ireturn, 1) := by decide +kernel
theorem dX6_count_140 : decode cX6_count 140 = .ok (.aload_n 0, 1) := by decide +kernel
theorem dX6_count_141 : decode cX6_count 141 = .ok (.getfield 12, 3) := by decide +kernel
theorem dX6_count_144 : decode cX6_count 144 = .ok (.getfield 123, 3) := by decide +kernel
theorem dX6_count_147 : decode cX6_count 147 = .ok (.ireturn, 1) := by decide +kernel
theorem dX6_count_148 : decode cX6_count 148 = .ok (.aload_n 0, 1) := by decide +kernel
theorem dX6_count_149 : decode cX6_count 149 = .ok (.getfield 12, 3) := by decide +kernel
theorem dX6_count_152 : decode cX6_count 152 = .ok (.getfield 219, 3) := by decide +kernel
theorem dX6_count_155 : decode cX6_count 155 = .ok (.ireturn, 1) := by decide +kernel
theorem dX6_count_156 : decode cX6_count 156 = .ok (.aload_n 0, 1) := by decide +kernel
theorem dX6_count_157 : decode cX6_count 157 = .ok (.getfield 12, 3) := by decide +kernel
theorem dX6_count_160 : decode cX6_count 160 = .ok (.invokevirtual 222, 3) := by decide +kernel
theorem dX6_count_163 : decode cX6_count 163 = .ok (.ireturn, 1) := by decide +kernel
theorem dX6_count_164 : decode cX6_count 164 = .ok (.aload_n 0, 1) := by decide +kernel
theorem dX6_count_165 : decode cX6_count 165 = .ok (.getfield 12, 3) := by decide +kernel
theorem dX6_count_168 : decode cX6_count 168 = .ok (.getfield 225, 3) := by decide +kernel
theorem dX6_count_171 : decode cX6_count 171 = .ok (.ireturn, 1) := by decide +kernel
theorem dX6_count_172 : decode cX6_count 172 = .ok (.aload_n 0, 1) := by decide +kernel
theorem dX6_count_173 : decode cX6_count 173 = .ok (.getfield 12, 3) := by decide +kernel
theorem dX6_count_176 : decode cX6_count 176 = .ok (.getfield 228, 3) := by decide +kernel
theorem dX6_count_179 : decode cX6_count 179 = .ok (.ireturn, 1) := by decide +kernel
theorem dX6_count_180 : decode cX6_count 180 = .ok (.aload_n 0, 1) := by decide +kernel
theorem dX6_count_181 : decode cX6_count 181 = .ok (.getfield 12, 3) := by decide +kernel
theorem dX6_count_184 : decode cX6_count 184 = .ok (.getfield 228, 3) := by decide +kernel
theorem dX6_count_187 : decode cX6_count 187 = .ok (.ifCond .ne 8, 3) := by decide +kernel
theorem dX6_count_190 : decode cX6_count 190 = .ok (.bipush (-5), 2) := by decide +kernel
theorem dX6_count_192 : decode cX6_count 192 = .ok (.goto 10, 3) := by decide +kernel
theorem dX6_count_195 : decode cX6_count 195 = .ok (.aload_n 0, 1) := by decide +kernel
theorem dX6_count_196 : decode cX6_count 196 = .ok (.getfield 12, 3) := by decide +kernel
theorem dX6_count_199 : decode cX6_count 199 = .ok (.getfield 231, 3) := by decide +kernel
theorem dX6_count_202 : decode cX6_count 202 = .ok (.ireturn, 1) := by decide +kernel
theorem dX6_count_203 : decode cX6_count 203 = .ok (.aload_n 0, 1) := by decide +kernel
theorem dX6_count_204 : decode cX6_count 204 = .ok (.getfield 12, 3) := by decide +kernel
theorem dX6_count_207 : decode cX6_count 207 = .ok (.invokevirtual 234, 3) := by decide +kernel
theorem dX6_count_210 : decode cX6_count 210 = .ok (.ireturn, 1) := by decide +kernel
theorem dX6_count_211 : decode cX6_count 211 = .ok (.aload_n 0, 1) := by decide +kernel
theorem dX6_count_212 : decode cX6_count 212 = .ok (.getfield 12, 3) := by decide +kernel
theorem dX6_count_215 : decode cX6_count 215 = .ok (.getfield 237, 3) := by decide +kernel
theorem dX6_count_218 : decode cX6_count 218 = .ok (.ireturn, 1) := by decide +kernel
theorem dX6_count_219 : decode cX6_count 219 = .ok (.aload_n 0, 1) := by decide +kernel
theorem dX6_count_220 : decode cX6_count 220 = .ok (.getfield 12, 3) := by decide +kernel
theorem dX6_count_223 : decode cX6_count 223 = .ok (.getfield 240, 3) := by decide +kernel
theorem dX6_count_226 : decode cX6_count 226 = .ok (.ireturn, 1) := by decide +kernel
theorem dX6_count_227 : decode cX6_count 227 = .ok (.aload_n 0, 1) := by decide +kernel
theorem dX6_count_228 : decode cX6_count 228 = .ok (.getfield 12, 3) := by decide +kernel
theorem dX6_count_231 : decode cX6_count 231 = .ok (.getfield 60, 3) := by decide +kernel
theorem dX6_count_234 : decode cX6_count 234 = .ok (.iconst 0, 1) := by decide +kernel
theorem dX6_count_235 : decode cX6_count 235 = .ok (.iaload, 1) := by decide +kernel
theorem dX6_count_236 : decode cX6_count 236 = .ok (.ireturn, 1) := by decide +kernel
theorem dX6_count_237 : decode cX6_count 237 = .ok (.aload_n 0, 1) := by decide +kernel
theorem dX6_count_238 : decode cX6_count 238 = .ok (.getfield 12, 3) := by decide +kernel
theorem dX6_count_241 : decode cX6_count 241 = .ok (.getfield 60, 3) := by decide +kernel
theorem dX6_count_244 : decode cX6_count 244 = .ok (.iconst 1, 1) := by decide +kernel
theorem dX6_count_245 : decode cX6_count 245 = .ok (.iaload, 1) := by decide +kernel
theorem dX6_count_246 : decode cX6_count 246 = .ok (.ireturn, 1) := by decide +kernel
theorem dX6_count_247 : decode cX6_count 247 = .ok (.aload_n 0, 1) := by decide +kernel
theorem dX6_count_248 : decode cX6_count 248 = .ok (.getfield 12, 3) := by decide +kernel
theorem dX6_count_251 : decode cX6_count 251 = .ok (.getfield 60, 3) := by decide +kernel
theorem dX6_count_254 : decode cX6_count 254 = .ok (.iconst 2, 1) := by decide +kernel
theorem dX6_count_255 : decode cX6_count 255 = .ok (.iaload, 1) := by decide +kernel
theorem dX6_count_256 : decode cX6_count 256 = .ok (.ireturn, 1) := by decide +kernel
theorem dX6_count_257 : decode cX6_count 257 = .ok (.aload_n 0, 1) := by decide +kernel
theorem dX6_count_258 : decode cX6_count 258 = .ok (.getfield 12, 3) := by decide +kernel
theorem dX6_count_261 : decode cX6_count 261 = .ok (.getfield 60, 3) := by decide +kernel
theorem dX6_count_264 : decode cX6_count 264 = .ok (.iconst 3, 1) := by decide +kernel
theorem dX6_count_265 : decode cX6_count 265 = .ok (.iaload, 1) := by decide +kernel
theorem dX6_count_266 : decode cX6_count 266 = .ok (.ireturn, 1) := by decide +kernel
theorem dX6_count_267 : decode cX6_count 267 = .ok (.aload_n 0, 1) := by decide +kernel
theorem dX6_count_268 : decode cX6_count 268 = .ok (.getfield 12, 3) := by decide +kernel
theorem dX6_count_271 : decode cX6_count 271 = .ok (.getfield 60, 3) := by decide +kernel
theorem dX6_count_274 : decode cX6_count 274 = .ok (.iconst 4, 1) := by decide +kernel
theorem dX6_count_275 : decode cX6_count 275 = .ok (.iaload, 1) := by decide +kernel
theorem dX6_count_276 : decode cX6_count 276 = .ok (.ireturn, 1) := by decide +kernel
theorem dX6_count_277 : decode cX6_count 277 = .ok (.aload_n 0, 1) := by decide +kernel
theorem dX6_count_278 : decode cX6_count 278 = .ok (.getfield 153, 3) := by decide +kernel
theorem dX6_count_281 : decode cX6_count 281 = .ok (.ireturn, 1) := by decide +kernel
theorem dX6_count_282 : decode cX6_count 282 = .ok (.aload_n 0, 1) := by decide +kernel
theorem dX6_count_283 : decode cX6_count 283 = .ok (.getfield 29, 3) := by decide +kernel
theorem dX6_count_286 : decode cX6_count 286 = .ok (.getfield 150, 3) := by decide +kernel
theorem dX6_count_289 : decode cX6_count 289 = .ok (.ireturn, 1) := by decide +kernel
theorem dX6_count_290 : decode cX6_count 290 = .ok (.bipush (-2), 2) := by decide +kernel
theorem dX6_count_292 : decode cX6_count 292 = .ok (.ireturn, 1) := by decide +kernel
theorem dX6_isWithin_0 : decode cX6_isWithin 0 = .ok (.iload_n 0, 1) := by decide +kernel
theorem dX6_isWithin_1 : decode cX6_isWithin 1 = .ok (.iload_n 1, 1) := by decide +kernel
theorem dX6_isWithin_2 : decode cX6_isWithin 2 = .ok (.if_icmp .lt 12, 3) := by decide +kernel
theorem dX6_isWithin_5 : decode cX6_isWithin 5 = .ok (.iload_n 0, 1) := by decide +kernel
theorem dX6_isWithin_6 : decode cX6_isWithin 6 = .ok (.iload_n 2, 1) := by decide +kernel
theorem dX6_isWithin_7 : decode cX6_isWithin 7 = .ok (.if_icmp .gt 7, 3) := by decide +kernel
theorem dX6_isWithin_10 : decode cX6_isWithin 10 = .ok (.iconst 1, 1) := by decide +kernel
theorem dX6_isWithin_11 : decode cX6_isWithin 11 = .ok (.goto 4, 3) := by decide +kernel
theorem dX6_isWithin_14 : decode cX6_isWithin 14 = .ok (.iconst 0, 1) := by decide +kernel
theorem dX6_isWithin_15 : decode cX6_isWithin 15 = .ok (.ireturn, 1) := by decide +kernel
theorem dX6_isSetting_0 : decode cX6_isSetting 0 = .ok (.iload_n 0, 1) := by decide +kernel
theorem dX6_isSetting_1 : decode cX6_isSetting 1 = .ok (.iconst 0, 1) := by decide +kernel
theorem dX6_isSetting_2 : decode cX6_isSetting 2 = .ok (.getstatic 243, 3) := by decide +kernel
theorem dX6_isSetting_5 : decode cX6_isSetting 5 = .ok (.arraylength, 1) := by decide +kernel
theorem dX6_isSetting_6 : decode cX6_isSetting 6 = .ok (.iconst 1, 1) := by decide +kernel
theorem dX6_isSetting_7 : decode cX6_isSetting 7 = .ok (.isub, 1) := by decide +kernel
theorem dX6_isSetting_8 : decode cX6_isSetting 8 = .ok (.invokestatic 37, 3) := by decide +kernel
theorem dX6_isSetting_11 : decode cX6_isSetting 11 = .ok (.ifCond .eq 24, 3) := by decide +kernel
theorem dX6_isSetting_14 : decode cX6_isSetting 14 = .ok (.iload_n 1, 1) := by decide +kernel
theorem dX6_isSetting_15 : decode cX6_isSetting 15 = .ok (.getstatic 246, 3) := by decide +kernel
theorem dX6_isSetting_18 : decode cX6_isSetting 18 = .ok (.iload_n 0, 1) := by decide +kernel
theorem dX6_isSetting_19 : decode cX6_isSetting 19 = .ok (.iaload, 1) := by decide +kernel
theorem dX6_isSetting_20 : decode cX6_isSetting 20 = .ok (.getstatic 249, 3) := by decide +kernel
theorem dX6_isSetting_23 : decode cX6_isSetting 23 = .ok (.iload_n 0, 1) := by decide +kernel
theorem dX6_isSetting_24 : decode cX6_isSetting 24 = .ok (.iaload, 1) := by decide +kernel
theorem dX6_isSetting_25 : decode cX6_isSetting 25 = .ok (.invokestatic 37, 3) := by decide +kernel
theorem dX6_isSetting_28 : decode cX6_isSetting 28 = .ok (.ifCond .eq 7, 3) := by decide +kernel
theorem dX6_isSetting_31 : decode cX6_isSetting 31 = .ok (.iconst 1, 1) := by decide +kernel
theorem dX6_isSetting_32 : decode cX6_isSetting 32 = .ok (.goto 4, 3) := by decide +kernel
theorem dX6_isSetting_35 : decode cX6_isSetting 35 = .ok (.iconst 0, 1) := by decide +kernel
theorem dX6_isSetting_36 : decode cX6_isSetting 36 = .ok (.ireturn, 1) := by decide +kernel
theorem dX6_oneComes_0 : decode cX6_oneComes 0 = .ok (.aload_n 0, 1) := by decide +kernel
theorem dX6_oneComes_1 : decode cX6_oneComes 1 = .ok (.getfield 12, 3) := by decide +kernel
theorem dX6_oneComes_4 : decode cX6_oneComes 4 = .ok (.iload_n 1, 1) := by decide +kernel
theorem dX6_oneComes_5 : decode cX6_oneComes 5 = .ok (.iload_n 2, 1) := by decide +kernel
theorem dX6_oneComes_6 : decode cX6_oneComes 6 = .ok (.iload_n 3, 1) := by decide +kernel
theorem dX6_oneComes_7 : decode cX6_oneComes 7 = .ok (.iload 4, 2) := by decide +kernel
theorem dX6_oneComes_9 : decode cX6_oneComes 9 = .ok (.invokevirtual 98, 3) := by decide +kernel
theorem dX6_oneComes_12 : decode cX6_oneComes 12 = .ok (.istore 5, 2) := by decide +kernel
theorem dX6_oneComes_14 : decode cX6_oneComes 14 = .ok (.iload 5, 2) := by decide +kernel
theorem dX6_oneComes_16 : decode cX6_oneComes 16 = .ok (.ifCond .eq 6, 3) := by decide +kernel
theorem dX6_oneComes_19 : decode cX6_oneComes 19 = .ok (.iload 5, 2) := by decide +kernel
theorem dX6_oneComes_21 : decode cX6_oneComes 21 = .ok (.ireturn, 1) := by decide +kernel
theorem dX6_oneComes_22 : decode cX6_oneComes 22 = .ok (.aload_n 0, 1) := by decide +kernel
theorem dX6_oneComes_23 : decode cX6_oneComes 23 = .ok (.invokevirtual 41, 3) := by decide +kernel
theorem dX6_oneComes_26 : decode cX6_oneComes 26 = .ok (.aload_n 0, 1) := by decide +kernel
theorem dX6_oneComes_27 : decode cX6_oneComes 27 = .ok (.getfield 12, 3) := by decide +kernel
theorem dX6_oneComes_30 : decode cX6_oneComes 30 = .ok (.iload_n 1, 1) := by decide +kernel
theorem dX6_oneComes_31 : decode cX6_oneComes 31 = .ok (.iload_n 2, 1) := by decide +kernel
theorem dX6_oneComes_32 : decode cX6_oneComes 32 = .ok (.iload_n 3, 1) := by decide +kernel
theorem dX6_oneComes_33 : decode cX6_oneComes 33 = .ok (.iload 4, 2) := by decide +kernel
theorem dX6_oneComes_35 : decode cX6_oneComes 35 = .ok (.invokevirtual 104, 3) := by decide +kernel
theorem dX6_oneComes_38 : decode cX6_oneComes 38 = .ok (.ireturn, 1) := by decide +kernel
theorem dX6_record_0 : decode cX6_record 0 = .ok (.aload_n 0, 1) := by decide +kernel
theorem dX6_record_1 : decode cX6_record 1 = .ok (.getfield 16, 3) := by decide +kernel
theorem dX6_record_4 : decode cX6_record 4 = .ok (.aload_n 0, 1) := by decide +kernel
theorem dX6_record_5 : decode cX6_record 5 = .ok (.getfield 12, 3) := by decide +kernel
theorem dX6_record_8 : decode cX6_record 8 = .ok (.invokevirtual 72, 3) := by decide +kernel
theorem dX6_record_11 : decode cX6_record 11 = .ok (.aload_n 0, 1) := by decide +kernel
theorem dX6_record_12 : decode cX6_record 12 = .ok (.invokevirtual 107, 3) := by decide +kernel
theorem dX6_record_15 : decode cX6_record 15 = .ok (.return_, 1) := by decide +kernel
theorem dX6_pushSpare_0 : decode cX6_pushSpare 0 = .ok (.aload_n 0, 1) := by decide +kernel
theorem dX6_pushSpare_1 : decode cX6_pushSpare 1 = .ok (.getfield 22, 3) := by decide +kernel
theorem dX6_pushSpare_4 : decode cX6_pushSpare 4 = .ok (.aload_n 0, 1) := by decide +kernel
theorem dX6_pushSpare_5 : decode cX6_pushSpare 5 = .ok (.getfield 22, 3) := by decide +kernel
theorem dX6_pushSpare_8 : decode cX6_pushSpare 8 = .ok (.arraylength, 1) := by decide +kernel
theorem dX6_pushSpare_9 : decode cX6_pushSpare 9 = .ok (.iconst 1, 1) := by decide +kernel
theorem dX6_pushSpare_10 : decode cX6_pushSpare 10 = .ok (.isub, 1) := by decide +kernel
theorem dX6_pushSpare_11 : decode cX6_pushSpare 11 = .ok (.aaload, 1) := by decide +kernel
theorem dX6_pushSpare_12 : decode cX6_pushSpare 12 = .ok (.astore_n 1, 1) := by decide +kernel
theorem dX6_pushSpare_13 : decode cX6_pushSpare 13 = .ok (.aload_n 0, 1) := by decide +kernel
theorem dX6_pushSpare_14 : decode cX6_pushSpare 14 = .ok (.getfield 22, 3) := by decide +kernel
theorem dX6_pushSpare_17 : decode cX6_pushSpare 17 = .ok (.arraylength, 1) := by decide +kernel
theorem dX6_pushSpare_18 : decode cX6_pushSpare 18 = .ok (.iconst 1, 1) := by decide +kernel
theorem dX6_pushSpare_19 : decode cX6_pushSpare 19 = .ok (.isub, 1) := by decide +kernel
theorem dX6_pushSpare_20 : decode cX6_pushSpare 20 = .ok (.istore_n 2, 1) := by decide +kernel
theorem dX6_pushSpare_21 : decode cX6_pushSpare 21 = .ok (.iload_n 2, 1) := by decide +kernel
theorem dX6_pushSpare_22 : decode cX6_pushSpare 22 = .ok (.ifCond .le 23, 3) := by decide +kernel
theorem dX6_pushSpare_25 : decode cX6_pushSpare 25 = .ok (.aload_n 0, 1) := by decide +kernel
theorem dX6_pushSpare_26 : decode cX6_pushSpare 26 = .ok (.getfield 22, 3) := by decide +kernel
theorem dX6_pushSpare_29 : decode cX6_pushSpare 29 = .ok (.iload_n 2, 1) := by decide +kernel
theorem dX6_pushSpare_30 : decode cX6_pushSpare 30 = .ok (.aload_n 0, 1) := by decide +kernel
theorem dX6_pushSpare_31 : decode cX6_pushSpare 31 = .ok (.getfield 22, 3) := by decide +kernel
theorem dX6_pushSpare_34 : decode cX6_pushSpare 34 = .ok (.iload_n 2, 1) := by decide +kernel
theorem dX6_pushSpare_35 : decode cX6_pushSpare 35 = .ok (.iconst 1, 1) := by decide +kernel
theorem dX6_pushSpare_36 : decode cX6_pushSpare 36 = .ok (.isub, 1) := by decide +kernel
theorem dX6_pushSpare_37 : decode cX6_pushSpare 37 = .ok (.aaload, 1) := by decide +kernel
theorem dX6_pushSpare_38 : decode cX6_pushSpare 38 = .ok (.aastore, 1) := by decide +kernel
theorem dX6_pushSpare_39 : decode cX6_pushSpare 39 = .ok (.iinc 2 (-1), 3) := by decide +kernel
theorem dX6_pushSpare_42 : decode cX6_pushSpare 42 = .ok (.goto (-21), 3) := by decide +kernel
theorem dX6_pushSpare_45 : decode cX6_pushSpare 45 = .ok (.aload_n 0, 1) := by decide +kernel
theorem dX6_pushSpare_46 : decode cX6_pushSpare 46 = .ok (.getfield 22, 3) := by decide +kernel
theorem dX6_pushSpare_49 : decode cX6_pushSpare 49 = .ok (.iconst 0, 1) := by decide +kernel
theorem dX6_pushSpare_50 : decode cX6_pushSpare 50 = .ok (.aload_n 0, 1) := by decide +kernel
theorem dX6_pushSpare_51 : decode cX6_pushSpare 51 = .ok (.getfield 16, 3) := by decide +kernel
theorem dX6_pushSpare_54 : decode cX6_pushSpare 54 = .ok (.aastore, 1) := by decide +kernel
theorem dX6_pushSpare_55 : decode cX6_pushSpare 55 = .ok (.aload_n 0, 1) := by decide +kernel
theorem dX6_pushSpare_56 : decode cX6_pushSpare 56 = .ok (.aload_n 1, 1) := by decide +kernel
theorem dX6_pushSpare_57 : decode cX6_pushSpare 57 = .ok (.putfield 16, 3) := by decide +kernel
theorem dX6_pushSpare_60 : decode cX6_pushSpare 60 = .ok (.aload_n 0, 1) := by decide +kernel
theorem dX6_pushSpare_61 : decode cX6_pushSpare 61 = .ok (.aload_n 0, 1) := by decide +kernel
theorem dX6_pushSpare_62 : decode cX6_pushSpare 62 = .ok (.getfield 153, 3) := by decide +kernel
theorem dX6_pushSpare_65 : decode cX6_pushSpare 65 = .ok (.iconst 1, 1) := by decide +kernel
theorem dX6_pushSpare_66 : decode cX6_pushSpare 66 = .ok (.iadd, 1) := by decide +kernel
theorem dX6_pushSpare_67 : decode cX6_pushSpare 67 = .ok (.aload_n 0, 1) := by decide +kernel
theorem dX6_pushSpare_68 : decode cX6_pushSpare 68 = .ok (.getfield 22, 3) := by decide +kernel
theorem dX6_pushSpare_71 : decode cX6_pushSpare 71 = .ok (.arraylength, 1) := by decide +kernel
theorem dX6_pushSpare_72 : decode cX6_pushSpare 72 = .ok (.invokestatic 252, 3) := by decide +kernel
theorem dX6_pushSpare_75 : decode cX6_pushSpare 75 = .ok (.putfield 153, 3) := by decide +kernel
theorem dX6_pushSpare_78 : decode cX6_pushSpare 78 = .ok (.return_, 1) := by decide +kernel
theorem dJ9_max_7cf53_0 : decode cJ9_max_7cf53 0 = .ok (.iload_n 0, 1) := by decide +kernel
theorem dJ9_max_7cf53_1 : decode cJ9_max_7cf53 1 = .ok (.iload_n 1, 1) := by decide +kernel
theorem dJ9_max_7cf53_2 : decode cJ9_max_7cf53 2 = .ok (.if_icmp .lt 7, 3) := by decide +kernel
theorem dJ9_max_7cf53_5 : decode cJ9_max_7cf53 5 = .ok (.iload_n 0, 1) := by decide +kernel
theorem dJ9_max_7cf53_6 : decode cJ9_max_7cf53 6 = .ok (.goto 4, 3) := by decide +kernel
theorem dJ9_max_7cf53_9 : decode cJ9_max_7cf53 9 = .ok (.iload_n 1, 1) := by decide +kernel
theorem dJ9_max_7cf53_10 : decode cJ9_max_7cf53 10 = .ok (.ireturn, 1) := by decide +kernel
theorem dJ9_min_7cf53_0 : decode cJ9_min_7cf53 0 = .ok (.iload_n 0, 1) := by decide +kernel
theorem dJ9_min_7cf53_1 : decode cJ9_min_7cf53 1 = .ok (.iload_n 1, 1) := by decide +kernel
theorem dJ9_min_7cf53_2 : decode cJ9_min_7cf53 2 = .ok (.if_icmp .gt 7, 3) := by decide +kernel
theorem dJ9_min_7cf53_5 : decode cJ9_min_7cf53 5 = .ok (.iload_n 0, 1) := by decide +kernel
theorem dJ9_min_7cf53_6 : decode cJ9_min_7cf53 6 = .ok (.goto 4, 3) := by decide +kernel
theorem dJ9_min_7cf53_9 : decode cJ9_min_7cf53 9 = .ok (.iload_n 1, 1) := by decide +kernel
theorem dJ9_min_7cf53_10 : decode cJ9_min_7cf53 10 = .ok (.ireturn, 1) := by decide +kernel
theorem dJ9_min_f86c9_0 : decode cJ9_min_f86c9 0 = .ok (.lload_n 0, 1) := by decide +kernel
theorem dJ9_min_f86c9_1 : decode cJ9_min_f86c9 1 = .ok (.lload_n 2, 1) := by decide +kernel
theorem dJ9_min_f86c9_2 : decode cJ9_min_f86c9 2 = .ok (.lcmp, 1) := by decide +kernel
theorem dJ9_min_f86c9_3 : decode cJ9_min_f86c9 3 = .ok (.ifCond .gt 7, 3) := by decide +kernel
theorem dJ9_min_f86c9_6 : decode cJ9_min_f86c9 6 = .ok (.lload_n 0, 1) := by decide +kernel
theorem dJ9_min_f86c9_7 : decode cJ9_min_f86c9 7 = .ok (.goto 4, 3) := by decide +kernel
theorem dJ9_min_f86c9_10 : decode cJ9_min_f86c9 10 = .ok (.lload_n 2, 1) := by decide +kernel
theorem dJ9_min_f86c9_11 : decode cJ9_min_f86c9 11 = .ok (.lreturn, 1) := by decide +kernel
theorem dJ7_copyOf_59c91_0 : decode cJ7_copyOf_59c91 0 = .ok (.iload_n 1, 1) := by decide +kernel
theorem dJ7_copyOf_59c91_1 : decode cJ7_copyOf_59c91 1 = .ok (.aload_n 0, 1) := by decide +kernel
theorem dJ7_copyOf_59c91_2 : decode cJ7_copyOf_59c91 2 = .ok (.arraylength, 1) := by decide +kernel
theorem dJ7_copyOf_59c91_3 : decode cJ7_copyOf_59c91 3 = .ok (.if_icmp .ne 11, 3) := by decide +kernel
theorem dJ7_copyOf_59c91_6 : decode cJ7_copyOf_59c91 6 = .ok (.aload_n 0, 1) := by decide +kernel
theorem dJ7_copyOf_59c91_7 : decode cJ7_copyOf_59c91 7 = .ok (.invokevirtual 316, 3) := by decide +kernel
theorem dJ7_copyOf_59c91_10 : decode cJ7_copyOf_59c91 10 = .ok (.checkcast 317, 3) := by decide +kernel
theorem dJ7_copyOf_59c91_13 : decode cJ7_copyOf_59c91 13 = .ok (.areturn, 1) := by decide +kernel
theorem dJ7_copyOf_59c91_14 : decode cJ7_copyOf_59c91 14 = .ok (.iload_n 1, 1) := by decide +kernel
theorem dJ7_copyOf_59c91_15 : decode cJ7_copyOf_59c91 15 = .ok (.newarray .int, 2) := by decide +kernel
theorem dJ7_copyOf_59c91_17 : decode cJ7_copyOf_59c91 17 = .ok (.astore_n 2, 1) := by decide +kernel
theorem dJ7_copyOf_59c91_18 : decode cJ7_copyOf_59c91 18 = .ok (.aload_n 0, 1) := by decide +kernel
theorem dJ7_copyOf_59c91_19 : decode cJ7_copyOf_59c91 19 = .ok (.iconst 0, 1) := by decide +kernel
theorem dJ7_copyOf_59c91_20 : decode cJ7_copyOf_59c91 20 = .ok (.aload_n 2, 1) := by decide +kernel
theorem dJ7_copyOf_59c91_21 : decode cJ7_copyOf_59c91 21 = .ok (.iconst 0, 1) := by decide +kernel
theorem dJ7_copyOf_59c91_22 : decode cJ7_copyOf_59c91 22 = .ok (.aload_n 0, 1) := by decide +kernel
theorem dJ7_copyOf_59c91_23 : decode cJ7_copyOf_59c91 23 = .ok (.arraylength, 1) := by decide +kernel
theorem dJ7_copyOf_59c91_24 : decode cJ7_copyOf_59c91 24 = .ok (.iload_n 1, 1) := by decide +kernel
theorem dJ7_copyOf_59c91_25 : decode cJ7_copyOf_59c91 25 = .ok (.invokestatic 304, 3) := by decide +kernel
theorem dJ7_copyOf_59c91_28 : decode cJ7_copyOf_59c91 28 = .ok (.invokestatic 150, 3) := by decide +kernel
theorem dJ7_copyOf_59c91_31 : decode cJ7_copyOf_59c91 31 = .ok (.aload_n 2, 1) := by decide +kernel
theorem dJ7_copyOf_59c91_32 : decode cJ7_copyOf_59c91 32 = .ok (.areturn, 1) := by decide +kernel
theorem dL_cell_0 : decode cL_cell 0 = .ok (.iload_n 1, 1) := by decide +kernel
theorem dL_cell_1 : decode cL_cell 1 = .ok (.aload_n 0, 1) := by decide +kernel
theorem dL_cell_2 : decode cL_cell 2 = .ok (.arraylength, 1) := by decide +kernel
theorem dL_cell_3 : decode cL_cell 3 = .ok (.if_icmp .ge 9, 3) := by decide +kernel
theorem dL_cell_6 : decode cL_cell 6 = .ok (.aload_n 0, 1) := by decide +kernel
theorem dL_cell_7 : decode cL_cell 7 = .ok (.iload_n 1, 1) := by decide +kernel
theorem dL_cell_8 : decode cL_cell 8 = .ok (.iaload, 1) := by decide +kernel
theorem dL_cell_9 : decode cL_cell 9 = .ok (.goto 11, 3) := by decide +kernel
theorem dL_cell_12 : decode cL_cell 12 = .ok (.ldc 7, 2) := by decide +kernel
theorem dL_cell_14 : decode cL_cell 14 = .ok (.iload_n 1, 1) := by decide +kernel
theorem dL_cell_15 : decode cL_cell 15 = .ok (.imul, 1) := by decide +kernel
theorem dL_cell_16 : decode cL_cell 16 = .ok (.sipush 1759, 3) := by decide +kernel
theorem dL_cell_19 : decode cL_cell 19 = .ok (.iadd, 1) := by decide +kernel
theorem dL_cell_20 : decode cL_cell 20 = .ok (.ireturn, 1) := by decide +kernel
theorem dL_low_0 : decode cL_low 0 = .ok (.iload_n 0, 1) := by decide +kernel
theorem dL_low_1 : decode cL_low 1 = .ok (.ldc 8, 2) := by decide +kernel
theorem dL_low_3 : decode cL_low 3 = .ok (.iand, 1) := by decide +kernel
theorem dL_low_4 : decode cL_low 4 = .ok (.iload_n 1, 1) := by decide +kernel
theorem dL_low_5 : decode cL_low 5 = .ok (.irem, 1) := by decide +kernel
theorem dL_low_6 : decode cL_low 6 = .ok (.ireturn, 1) := by decide +kernel
theorem dL_digest_0 : decode cL_digest 0 = .ok (.ldc2_w 9, 3) := by decide +kernel
theorem dL_digest_3 : decode cL_digest 3 = .ok (.lstore_n 1, 1) := by decide +kernel
theorem dL_digest_4 : decode cL_digest 4 = .ok (.iconst 0, 1) := by decide +kernel
theorem dL_digest_5 : decode cL_digest 5 = .ok (.istore_n 3, 1) := by decide +kernel
theorem dL_digest_6 : decode cL_digest 6 = .ok (.iload_n 3, 1) := by decide +kernel
theorem dL_digest_7 : decode cL_digest 7 = .ok (.bipush 19, 2) := by decide +kernel
theorem dL_digest_9 : decode cL_digest 9 = .ok (.if_icmp .ge 22, 3) := by decide +kernel
theorem dL_digest_12 : decode cL_digest 12 = .ok (.ldc2_w 11, 3) := by decide +kernel
theorem dL_digest_15 : decode cL_digest 15 = .ok (.lload_n 1, 1) := by decide +kernel
theorem dL_digest_16 : decode cL_digest 16 = .ok (.lmul, 1) := by decide +kernel
theorem dL_digest_17 : decode cL_digest 17 = .ok (.aload_n 0, 1) := by decide +kernel
theorem dL_digest_18 : decode cL_digest 18 = .ok (.iload_n 3, 1) := by decide +kernel
theorem dL_digest_19 : decode cL_digest 19 = .ok (.invokevirtual 13, 3) := by decide +kernel
theorem dL_digest_22 : decode cL_digest 22 = .ok (.i2l, 1) := by decide +kernel
theorem dL_digest_23 : decode cL_digest 23 = .ok (.ladd, 1) := by decide +kernel
theorem dL_digest_24 : decode cL_digest 24 = .ok (.lstore_n 1, 1) := by decide +kernel
theorem dL_digest_25 : decode cL_digest 25 = .ok (.iinc 3 1, 3) := by decide +kernel
theorem dL_digest_28 : decode cL_digest 28 = .ok (.goto (-22), 3) := by decide +kernel
theorem dL_digest_31 : decode cL_digest 31 = .ok (.iconst 0, 1) := by decide +kernel
theorem dL_digest_32 : decode cL_digest 32 = .ok (.istore_n 3, 1) := by decide +kernel
theorem dL_digest_33 : decode cL_digest 33 = .ok (.iload_n 3, 1) := by decide +kernel
theorem dL_digest_34 : decode cL_digest 34 = .ok (.bipush 6, 2) := by decide +kernel
theorem dL_digest_36 : decode cL_digest 36 = .ok (.if_icmp .ge 70, 3) := by decide +kernel
theorem dL_digest_39 : decode cL_digest 39 = .ok (.iconst 0, 1) := by decide +kernel
theorem dL_digest_40 : decode cL_digest 40 = .ok (.istore 4, 2) := by decide +kernel
theorem dL_digest_42 : decode cL_digest 42 = .ok (.iload 4, 2) := by decide +kernel
theorem dL_digest_44 : decode cL_digest 44 = .ok (.bipush 12, 2) := by decide +kernel
theorem dL_digest_46 : decode cL_digest 46 = .ok (.if_icmp .ge 24, 3) := by decide +kernel
theorem dL_digest_49 : decode cL_digest 49 = .ok (.ldc2_w 11, 3) := by decide +kernel
theorem dL_digest_52 : decode cL_digest 52 = .ok (.lload_n 1, 1) := by decide +kernel
theorem dL_digest_53 : decode cL_digest 53 = .ok (.lmul, 1) := by decide +kernel
theorem dL_digest_54 : decode cL_digest 54 = .ok (.aload_n 0, 1) := by decide +kernel
theorem dL_digest_55 : decode cL_digest 55 = .ok (.iload_n 3, 1) := by decide +kernel
theorem dL_digest_56 : decode cL_digest 56 = .ok (.iload 4, 2) := by decide +kernel
theorem dL_digest_58 : decode cL_digest 58 = .ok (.invokevirtual 19, 3) := by decide +kernel
theorem dL_digest_61 : decode cL_digest 61 = .ok (.i2l, 1) := by decide +kernel
theorem dL_digest_62 : decode cL_digest 62 = .ok (.ladd, 1) := by decide +kernel
theorem dL_digest_63 : decode cL_digest 63 = .ok (.lstore_n 1, 1) := by decide +kernel
theorem dL_digest_64 : decode cL_digest 64 = .ok (.iinc 4 1, 3) := by decide +kernel
theorem dL_digest_67 : decode cL_digest 67 = .ok (.goto (-25), 3) := by decide +kernel
theorem dL_digest_70 : decode cL_digest 70 = .ok (.ldc2_w 11, 3) := by decide +kernel
theorem dL_digest_73 : decode cL_digest 73 = .ok (.lload_n 1, 1) := by decide +kernel
theorem dL_digest_74 : decode cL_digest 74 = .ok (.lmul, 1) := by decide +kernel
theorem dL_digest_75 : decode cL_digest 75 = .ok (.aload_n 0, 1) := by decide +kernel
theorem dL_digest_76 : decode cL_digest 76 = .ok (.iload_n 3, 1) := by decide +kernel
theorem dL_digest_77 : decode cL_digest 77 = .ok (.iconst 0, 1) := by decide +kernel
theorem dL_digest_78 : decode cL_digest 78 = .ok (.invokevirtual 23, 3) := by decide +kernel
theorem dL_digest_81 : decode cL_digest 81 = .ok (.i2l, 1) := by decide +kernel
theorem dL_digest_82 : decode cL_digest 82 = .ok (.ladd, 1) := by decide +kernel
theorem dL_digest_83 : decode cL_digest 83 = .ok (.ldc2_w 26, 3) := by decide +kernel
theorem dL_digest_86 : decode cL_digest 86 = .ok (.aload_n 0, 1) := by decide +kernel
theorem dL_digest_87 : decode cL_digest 87 = .ok (.iload_n 3, 1) := by decide +kernel
theorem dL_digest_88 : decode cL_digest 88 = .ok (.aload_n 0, 1) := by decide +kernel
theorem dL_digest_89 : decode cL_digest 89 = .ok (.iconst 0, 1) := by decide +kernel
theorem dL_digest_90 : decode cL_digest 90 = .ok (.invokevirtual 13, 3) := by decide +kernel
theorem dL_digest_93 : decode cL_digest 93 = .ok (.invokevirtual 23, 3) := by decide +kernel
theorem dL_digest_96 : decode cL_digest 96 = .ok (.i2l, 1) := by decide +kernel
theorem dL_digest_97 : decode cL_digest 97 = .ok (.lmul, 1) := by decide +kernel
theorem dL_digest_98 : decode cL_digest 98 = .ok (.ladd, 1) := by decide +kernel
theorem dL_digest_99 : decode cL_digest 99 = .ok (.lstore_n 1, 1) := by decide +kernel
theorem dL_digest_100 : decode cL_digest 100 = .ok (.iinc 3 1, 3) := by decide +kernel
theorem dL_digest_103 : decode cL_digest 103 = .ok (.goto (-70), 3) := by decide +kernel
theorem dL_digest_106 : decode cL_digest 106 = .ok (.iconst 0, 1) := by decide +kernel
theorem dL_digest_107 : decode cL_digest 107 = .ok (.istore_n 3, 1) := by decide +kernel
theorem dL_digest_108 : decode cL_digest 108 = .ok (.iload_n 3, 1) := by decide +kernel
theorem dL_digest_109 : decode cL_digest 109 = .ok (.bipush 16, 2) := by decide +kernel
theorem dL_digest_111 : decode cL_digest 111 = .ok (.if_icmp .ge 54, 3) := by decide +kernel
theorem dL_digest_114 : decode cL_digest 114 = .ok (.iconst 0, 1) := by decide +kernel
theorem dL_digest_115 : decode cL_digest 115 = .ok (.istore 4, 2) := by decide +kernel
theorem dL_digest_117 : decode cL_digest 117 = .ok (.iload 4, 2) := by decide +kernel
theorem dL_digest_119 : decode cL_digest 119 = .ok (.iconst 4, 1) := by decide +kernel
theorem dL_digest_120 : decode cL_digest 120 = .ok (.if_icmp .ge 39, 3) := by decide +kernel
theorem dL_digest_123 : decode cL_digest 123 = .ok (.ldc2_w 11, 3) := by decide +kernel
theorem dL_digest_126 : decode cL_digest 126 = .ok (.lload_n 1, 1) := by decide +kernel
theorem dL_digest_127 : decode cL_digest 127 = .ok (.lmul, 1) := by decide +kernel
theorem dL_digest_128 : decode cL_digest 128 = .ok (.ldc2_w 28, 3) := by decide +kernel
theorem dL_digest_131 : decode cL_digest 131 = .ok (.aload_n 0, 1) := by decide +kernel
theorem dL_digest_132 : decode cL_digest 132 = .ok (.iconst 1, 1) := by decide +kernel
theorem dL_digest_133 : decode cL_digest 133 = .ok (.iload_n 3, 1) := by decide +kernel
theorem dL_digest_134 : decode cL_digest 134 = .ok (.iload 4, 2) := by decide +kernel
theorem dL_digest_136 : decode cL_digest 136 = .ok (.invokevirtual 30, 3) := by decide +kernel
theorem dL_digest_139 : decode cL_digest 139 = .ok (.i2l, 1) := by decide +kernel
theorem dL_digest_140 : decode cL_digest 140 = .ok (.lmul, 1) := by decide +kernel
theorem dL_digest_141 : decode cL_digest 141 = .ok (.ladd, 1) := by decide +kernel
theorem dL_digest_142 : decode cL_digest 142 = .ok (.aload_n 0, 1) := by decide +kernel
theorem dL_digest_143 : decode cL_digest 143 = .ok (.iconst 0, 1) := by decide +kernel
theorem dL_digest_144 : decode cL_digest 144 = .ok (.iload_n 3, 1) := by decide +kernel
theorem dL_digest_145 : decode cL_digest 145 = .ok (.iload 4, 2) := by decide +kernel
theorem dL_digest_147 : decode cL_digest 147 = .ok (.invokevirtual 30, 3) := by decide +kernel
theorem dL_digest_150 : decode cL_digest 150 = .ok (.i2l, 1) := by decide +kernel
theorem dL_digest_151 : decode cL_digest 151 = .ok (.ladd, 1) := by decide +kernel
theorem dL_digest_152 : decode cL_digest 152 = .ok (.lstore_n 1, 1) := by decide +kernel
theorem dL_digest_153 : decode cL_digest 153 = .ok (.iinc 4 1, 3) := by decide +kernel
theorem dL_digest_156 : decode cL_digest 156 = .ok (.goto (-39), 3) := by decide +kernel
theorem dL_digest_159 : decode cL_digest 159 = .ok (.iinc 3 1, 3) := by decide +kernel
theorem dL_digest_162 : decode cL_digest 162 = .ok (.goto (-54), 3) := by decide +kernel
theorem dL_digest_165 : decode cL_digest 165 = .ok (.lload_n 1, 1) := by decide +kernel
theorem dL_digest_166 : decode cL_digest 166 = .ok (.lreturn, 1) := by decide +kernel
theorem dL_kiln_0 : decode cL_kiln 0 = .ok (.iconst 0, 1) := by decide +kernel
theorem dL_kiln_1 : decode cL_kiln 1 = .ok (.istore_n 2, 1) := by decide +kernel
theorem dL_kiln_2 : decode cL_kiln 2 = .ok (.bipush (-5), 2) := by decide +kernel
theorem dL_kiln_4 : decode cL_kiln 4 = .ok (.istore_n 3, 1) := by decide +kernel
theorem dL_kiln_5 : decode cL_kiln 5 = .ok (.aload_n 0, 1) := by decide +kernel
theorem dL_kiln_6 : decode cL_kiln 6 = .ok (.iconst 0, 1) := by decide +kernel
theorem dL_kiln_7 : decode cL_kiln 7 = .ok (.invokevirtual 13, 3) := by decide +kernel
theorem dL_kiln_10 : decode cL_kiln 10 = .ok (.istore 4, 2) := by decide +kernel
theorem dL_kiln_12 : decode cL_kiln 12 = .ok (.iload 4, 2) := by decide +kernel
theorem dL_kiln_14 : decode cL_kiln 14 = .ok (.ifCond .lt 42, 3) := by decide +kernel
theorem dL_kiln_17 : decode cL_kiln 17 = .ok (.aload_n 0, 1) := by decide +kernel
theorem dL_kiln_18 : decode cL_kiln 18 = .ok (.iload_n 1, 1) := by decide +kernel
theorem dL_kiln_19 : decode cL_kiln 19 = .ok (.iload 4, 2) := by decide +kernel
theorem dL_kiln_21 : decode cL_kiln 21 = .ok (.invokevirtual 23, 3) := by decide +kernel
theorem dL_kiln_24 : decode cL_kiln 24 = .ok (.istore 5, 2) := by decide +kernel
theorem dL_kiln_26 : decode cL_kiln 26 = .ok (.iload_n 2, 1) := by decide +kernel
theorem dL_kiln_27 : decode cL_kiln 27 = .ok (.iload 5, 2) := by decide +kernel
theorem dL_kiln_29 : decode cL_kiln 29 = .ok (.iadd, 1) := by decide +kernel
theorem dL_kiln_30 : decode cL_kiln 30 = .ok (.istore_n 2, 1) := by decide +kernel
theorem dL_kiln_31 : decode cL_kiln 31 = .ok (.iload 5, 2) := by decide +kernel
theorem dL_kiln_33 : decode cL_kiln 33 = .ok (.ifCond .le 8, 3) := by decide +kernel
theorem dL_kiln_36 : decode cL_kiln 36 = .ok (.iload 4, 2) := by decide +kernel
theorem dL_kiln_38 : decode cL_kiln 38 = .ok (.goto 4, 3) := by decide +kernel
theorem dL_kiln_41 : decode cL_kiln 41 = .ok (.iload_n 3, 1) := by decide +kernel
theorem dL_kiln_42 : decode cL_kiln 42 = .ok (.istore_n 3, 1) := by decide +kernel
theorem dL_kiln_43 : decode cL_kiln 43 = .ok (.iload 5, 2) := by decide +kernel
theorem dL_kiln_45 : decode cL_kiln 45 = .ok (.ifCond .ge 5, 3) := by decide +kernel
theorem dL_kiln_48 : decode cL_kiln 48 = .ok (.iconst 0, 1) := by decide +kernel
theorem dL_kiln_49 : decode cL_kiln 49 = .ok (.ireturn, 1) := by decide +kernel
theorem dL_kiln_50 : decode cL_kiln 50 = .ok (.iinc 4 (-1), 3) := by decide +kernel
theorem dL_kiln_53 : decode cL_kiln 53 = .ok (.goto (-41), 3) := by decide +kernel
theorem dL_kiln_56 : decode cL_kiln 56 = .ok (.aload_n 0, 1) := by decide +kernel
theorem dL_kiln_57 : decode cL_kiln 57 = .ok (.iload_n 1, 1) := by decide +kernel
theorem dL_kiln_58 : decode cL_kiln 58 = .ok (.iconst 3, 1) := by decide +kernel
theorem dL_kiln_59 : decode cL_kiln 59 = .ok (.invokevirtual 19, 3) := by decide +kernel
theorem dL_kiln_62 : decode cL_kiln 62 = .ok (.aload_n 0, 1) := by decide +kernel
theorem dL_kiln_63 : decode cL_kiln 63 = .ok (.iload_n 1, 1) := by decide +kernel
theorem dL_kiln_64 : decode cL_kiln 64 = .ok (.iconst 5, 1) := by decide +kernel
theorem dL_kiln_65 : decode cL_kiln 65 = .ok (.invokevirtual 19, 3) := by decide +kernel
theorem dL_kiln_68 : decode cL_kiln 68 = .ok (.iadd, 1) := by decide +kernel
theorem dL_kiln_69 : decode cL_kiln 69 = .ok (.aload_n 0, 1) := by decide +kernel
theorem dL_kiln_70 : decode cL_kiln 70 = .ok (.iload_n 1, 1) := by decide +kernel
theorem dL_kiln_71 : decode cL_kiln 71 = .ok (.bipush 6, 2) := by decide +kernel
theorem dL_kiln_73 : decode cL_kiln 73 = .ok (.invokevirtual 19, 3) := by decide +kernel
theorem dL_kiln_76 : decode cL_kiln 76 = .ok (.iadd, 1) := by decide +kernel
theorem dL_kiln_77 : decode cL_kiln 77 = .ok (.aload_n 0, 1) := by decide +kernel
theorem dL_kiln_78 : decode cL_kiln 78 = .ok (.iload_n 1, 1) := by decide +kernel
theorem dL_kiln_79 : decode cL_kiln 79 = .ok (.iconst 4, 1) := by decide +kernel
theorem dL_kiln_80 : decode cL_kiln 80 = .ok (.invokevirtual 19, 3) := by decide +kernel
theorem dL_kiln_83 : decode cL_kiln 83 = .ok (.isub, 1) := by decide +kernel
theorem dL_kiln_84 : decode cL_kiln 84 = .ok (.iload_n 2, 1) := by decide +kernel
theorem dL_kiln_85 : decode cL_kiln 85 = .ok (.isub, 1) := by decide +kernel
theorem dL_kiln_86 : decode cL_kiln 86 = .ok (.istore 4, 2) := by decide +kernel
theorem dL_kiln_88 : decode cL_kiln 88 = .ok (.aload_n 0, 1) := by decide +kernel
theorem dL_kiln_89 : decode cL_kiln 89 = .ok (.iload_n 1, 1) := by decide +kernel
theorem dL_kiln_90 : decode cL_kiln 90 = .ok (.iconst 1, 1) := by decide +kernel
theorem dL_kiln_91 : decode cL_kiln 91 = .ok (.invokevirtual 19, 3) := by decide +kernel
theorem dL_kiln_94 : decode cL_kiln 94 = .ok (.iload_n 2, 1) := by decide +kernel
theorem dL_kiln_95 : decode cL_kiln 95 = .ok (.if_icmp .ne 63, 3) := by decide +kernel
theorem dL_kiln_98 : decode cL_kiln 98 = .ok (.aload_n 0, 1) := by decide +kernel
theorem dL_kiln_99 : decode cL_kiln 99 = .ok (.iload_n 1, 1) := by decide +kernel
theorem dL_kiln_100 : decode cL_kiln 100 = .ok (.bipush 9, 2) := by decide +kernel
theorem dL_kiln_102 : decode cL_kiln 102 = .ok (.invokevirtual 19, 3) := by decide +kernel
theorem dL_kiln_105 : decode cL_kiln 105 = .ok (.iload_n 3, 1) := by decide +kernel
theorem dL_kiln_106 : decode cL_kiln 106 = .ok (.if_icmp .ne 52, 3) := by decide +kernel
theorem dL_kiln_109 : decode cL_kiln 109 = .ok (.aload_n 0, 1) := by decide +kernel
theorem dL_kiln_110 : decode cL_kiln 110 = .ok (.iload_n 1, 1) := by decide +kernel
theorem dL_kiln_111 : decode cL_kiln 111 = .ok (.bipush 8, 2) := by decide +kernel
theorem dL_kiln_113 : decode cL_kiln 113 = .ok (.invokevirtual 19, 3) := by decide +kernel
theorem dL_kiln_116 : decode cL_kiln 116 = .ok (.iload 4, 2) := by decide +kernel
theorem dL_kiln_118 : decode cL_kiln 118 = .ok (.ifCond .le 8, 3) := by decide +kernel
theorem dL_kiln_121 : decode cL_kiln 121 = .ok (.iload 4, 2) := by decide +kernel
theorem dL_kiln_123 : decode cL_kiln 123 = .ok (.goto 4, 3) := by decide +kernel
theorem dL_kiln_126 : decode cL_kiln 126 = .ok (.iconst 0, 1) := by decide +kernel
theorem dL_kiln_127 : decode cL_kiln 127 = .ok (.if_icmp .ne 31, 3) := by decide +kernel
theorem dL_kiln_130 : decode cL_kiln 130 = .ok (.aload_n 0, 1) := by decide +kernel
theorem dL_kiln_131 : decode cL_kiln 131 = .ok (.iload_n 1, 1) := by decide +kernel
theorem dL_kiln_132 : decode cL_kiln 132 = .ok (.iconst 2, 1) := by decide +kernel
theorem dL_kiln_133 : decode cL_kiln 133 = .ok (.invokevirtual 19, 3) := by decide +kernel
theorem dL_kiln_136 : decode cL_kiln 136 = .ok (.aload_n 0, 1) := by decide +kernel
theorem dL_kiln_137 : decode cL_kiln 137 = .ok (.iload_n 1, 1) := by decide +kernel
theorem dL_kiln_138 : decode cL_kiln 138 = .ok (.iconst 3, 1) := by decide +kernel
theorem dL_kiln_139 : decode cL_kiln 139 = .ok (.invokevirtual 19, 3) := by decide +kernel
theorem dL_kiln_142 : decode cL_kiln 142 = .ok (.if_icmp .lt 16, 3) := by decide +kernel
theorem dL_kiln_145 : decode cL_kiln 145 = .ok (.aload_n 0, 1) := by decide +kernel
theorem dL_kiln_146 : decode cL_kiln 146 = .ok (.iload_n 1, 1) := by decide +kernel
theorem dL_kiln_147 : decode cL_kiln 147 = .ok (.iconst 0, 1) := by decide +kernel
theorem dL_kiln_148 : decode cL_kiln 148 = .ok (.invokevirtual 19, 3) := by decide +kernel
theorem dL_kiln_151 : decode cL_kiln 151 = .ok (.ifCond .lt 7, 3) := by decide +kernel
theorem dL_kiln_154 : decode cL_kiln 154 = .ok (.iconst 1, 1) := by decide +kernel
theorem dL_kiln_155 : decode cL_kiln 155 = .ok (.goto 4, 3) := by decide +kernel
theorem dL_kiln_158 : decode cL_kiln 158 = .ok (.iconst 0, 1) := by decide +kernel
theorem dL_kiln_159 : decode cL_kiln 159 = .ok (.ireturn, 1) := by decide +kernel
theorem dL_orders_0 : decode cL_orders 0 = .ok (.iconst 0, 1) := by decide +kernel
theorem dL_orders_1 : decode cL_orders 1 = .ok (.istore_n 2, 1) := by decide +kernel
theorem dL_orders_2 : decode cL_orders 2 = .ok (.iconst 0, 1) := by decide +kernel
theorem dL_orders_3 : decode cL_orders 3 = .ok (.istore_n 3, 1) := by decide +kernel
theorem dL_orders_4 : decode cL_orders 4 = .ok (.iconst 0, 1) := by decide +kernel
theorem dL_orders_5 : decode cL_orders 5 = .ok (.istore 4, 2) := by decide +kernel
theorem dL_orders_7 : decode cL_orders 7 = .ok (.iload_n 1, 1) := by decide +kernel
theorem dL_orders_8 : decode cL_orders 8 = .ok (.ifCond .eq 9, 3) := by decide +kernel
theorem dL_orders_11 : decode cL_orders 11 = .ok (.sipush 501, 3) := by decide +kernel
theorem dL_orders_14 : decode cL_orders 14 = .ok (.goto 4, 3) := by decide +kernel
theorem dL_orders_17 : decode cL_orders 17 = .ok (.iconst 0, 1) := by decide +kernel
theorem dL_orders_18 : decode cL_orders 18 = .ok (.istore 5, 2) := by decide +kernel
theorem dL_orders_20 : decode cL_orders 20 = .ok (.iconst (-1), 1) := by decide +kernel
theorem dL_orders_21 : decode cL_orders 21 = .ok (.istore 6, 2) := by decide +kernel
theorem dL_orders_23 : decode cL_orders 23 = .ok (.aload_n 0, 1) := by decide +kernel
theorem dL_orders_24 : decode cL_orders 24 = .ok (.iload_n 1, 1) := by decide +kernel
theorem dL_orders_25 : decode cL_orders 25 = .ok (.iload_n 2, 1) := by decide +kernel
theorem dL_orders_26 : decode cL_orders 26 = .ok (.iconst 0, 1) := by decide +kernel
theorem dL_orders_27 : decode cL_orders 27 = .ok (.invokevirtual 30, 3) := by decide +kernel
theorem dL_orders_30 : decode cL_orders 30 = .ok (.ifCond .lt 172, 3) := by decide +kernel
theorem dL_orders_33 : decode cL_orders 33 = .ok (.aload_n 0, 1) := by decide +kernel
theorem dL_orders_34 : decode cL_orders 34 = .ok (.iload_n 1, 1) := by decide +kernel
theorem dL_orders_35 : decode cL_orders 35 = .ok (.iload_n 2, 1) := by decide +kernel
theorem dL_orders_36 : decode cL_orders 36 = .ok (.iconst 3, 1) := by decide +kernel
theorem dL_orders_37 : decode cL_orders 37 = .ok (.invokevirtual 30, 3) := by decide +kernel
theorem dL_orders_40 : decode cL_orders 40 = .ok (.istore 7, 2) := by decide +kernel
theorem dL_orders_42 : decode cL_orders 42 = .ok (.aload_n 0, 1) := by decide +kernel
theorem dL_orders_43 : decode cL_orders 43 = .ok (.iload_n 1, 1) := by decide +kernel
theorem dL_orders_44 : decode cL_orders 44 = .ok (.iload_n 2, 1) := by decide +kernel
theorem dL_orders_45 : decode cL_orders 45 = .ok (.iconst 2, 1) := by decide +kernel
theorem dL_orders_46 : decode cL_orders 46 = .ok (.invokevirtual 30, 3) := by decide +kernel
theorem dL_orders_49 : decode cL_orders 49 = .ok (.istore 8, 2) := by decide +kernel
theorem dL_orders_51 : decode cL_orders 51 = .ok (.iload 7, 2) := by decide +kernel
theorem dL_orders_53 : decode cL_orders 53 = .ok (.iload 5, 2) := by decide +kernel
theorem dL_orders_55 : decode cL_orders 55 = .ok (.if_icmp .ne 15, 3) := by decide +kernel
theorem dL_orders_58 : decode cL_orders 58 = .ok (.aload_n 0, 1) := by decide +kernel
theorem dL_orders_59 : decode cL_orders 59 = .ok (.iload_n 1, 1) := by decide +kernel
theorem dL_orders_60 : decode cL_orders 60 = .ok (.iload_n 2, 1) := by decide +kernel
theorem dL_orders_61 : decode cL_orders 61 = .ok (.iconst 0, 1) := by decide +kernel
theorem dL_orders_62 : decode cL_orders 62 = .ok (.invokevirtual 30, 3) := by decide +kernel
theorem dL_orders_65 : decode cL_orders 65 = .ok (.iload 6, 2) := by decide +kernel
theorem dL_orders_67 : decode cL_orders 67 = .ok (.if_icmp .gt 24, 3) := by decide +kernel
theorem dL_orders_70 : decode cL_orders 70 = .ok (.iload_n 1, 1) := by decide +kernel
theorem dL_orders_71 : decode cL_orders 71 = .ok (.ifCond .eq 13, 3) := by decide +kernel
theorem dL_orders_74 : decode cL_orders 74 = .ok (.iload 7, 2) := by decide +kernel
theorem dL_orders_76 : decode cL_orders 76 = .ok (.iload 5, 2) := by decide +kernel
theorem dL_orders_78 : decode cL_orders 78 = .ok (.if_icmp .ge 17, 3) := by decide +kernel
theorem dL_orders_81 : decode cL_orders 81 = .ok (.goto 10, 3) := by decide +kernel
theorem dL_orders_84 : decode cL_orders 84 = .ok (.iload 7, 2) := by decide +kernel
theorem dL_orders_86 : decode cL_orders 86 = .ok (.iload 5, 2) := by decide +kernel
theorem dL_orders_88 : decode cL_orders 88 = .ok (.if_icmp .le 7, 3) := by decide +kernel
theorem dL_orders_91 : decode cL_orders 91 = .ok (.iconst 1, 1) := by decide +kernel
theorem dL_orders_92 : decode cL_orders 92 = .ok (.goto 4, 3) := by decide +kernel
theorem dL_orders_95 : decode cL_orders 95 = .ok (.iconst 0, 1) := by decide +kernel
theorem dL_orders_96 : decode cL_orders 96 = .ok (.istore 9, 2) := by decide +kernel
theorem dL_orders_98 : decode cL_orders 98 = .ok (.iload 9, 2) := by decide +kernel
theorem dL_orders_100 : decode cL_orders 100 = .ok (.ifCond .eq 35, 3) := by decide +kernel
theorem dL_orders_103 : decode cL_orders 103 = .ok (.iload 8, 2) := by decide +kernel
theorem dL_orders_105 : decode cL_orders 105 = .ok (.iconst 1, 1) := by decide +kernel
theorem dL_orders_106 : decode cL_orders 106 = .ok (.if_icmp .lt 29, 3) := by decide +kernel
theorem dL_orders_109 : decode cL_orders 109 = .ok (.aload_n 0, 1) := by decide +kernel
theorem dL_orders_110 : decode cL_orders 110 = .ok (.iload_n 1, 1) := by decide +kernel
theorem dL_orders_111 : decode cL_orders 111 = .ok (.iload_n 2, 1) := by decide +kernel
theorem dL_orders_112 : decode cL_orders 112 = .ok (.iconst 0, 1) := by decide +kernel
theorem dL_orders_113 : decode cL_orders 113 = .ok (.invokevirtual 30, 3) := by decide +kernel
theorem dL_orders_116 : decode cL_orders 116 = .ok (.aload_n 0, 1) := by decide +kernel
theorem dL_orders_117 : decode cL_orders 117 = .ok (.bipush 8, 2) := by decide +kernel
theorem dL_orders_119 : decode cL_orders 119 = .ok (.invokevirtual 13, 3) := by decide +kernel
theorem dL_orders_122 : decode cL_orders 122 = .ok (.if_icmp .ge 13, 3) := by decide +kernel
theorem dL_orders_125 : decode cL_orders 125 = .ok (.aload_n 0, 1) := by decide +kernel
theorem dL_orders_126 : decode cL_orders 126 = .ok (.iload_n 1, 1) := by decide +kernel
theorem dL_orders_127 : decode cL_orders 127 = .ok (.iload_n 2, 1) := by decide +kernel
theorem dL_orders_128 : decode cL_orders 128 = .ok (.iconst 1, 1) := by decide +kernel
theorem dL_orders_129 : decode cL_orders 129 = .ok (.invokevirtual 30, 3) := by decide +kernel
theorem dL_orders_132 : decode cL_orders 132 = .ok (.ifCond .ge 5, 3) := by decide +kernel
theorem dL_orders_135 : decode cL_orders 135 = .ok (.iconst 0, 1) := by decide +kernel
theorem dL_orders_136 : decode cL_orders 136 = .ok (.ireturn, 1) := by decide +kernel
theorem dL_orders_137 : decode cL_orders 137 = .ok (.iload 4, 2) := by decide +kernel
theorem dL_orders_139 : decode cL_orders 139 = .ok (.iload 8, 2) := by decide +kernel
theorem dL_orders_141 : decode cL_orders 141 = .ok (.iadd, 1) := by decide +kernel
theorem dL_orders_142 : decode cL_orders 142 = .ok (.istore 4, 2) := by decide +kernel
theorem dL_orders_144 : decode cL_orders 144 = .ok (.iload_n 3, 1) := by decide +kernel
theorem dL_orders_145 : decode cL_orders 145 = .ok (.iload_n 1, 1) := by decide +kernel
theorem dL_orders_146 : decode cL_orders 146 = .ok (.ifCond .eq 11, 3) := by decide +kernel
theorem dL_orders_149 : decode cL_orders 149 = .ok (.iload 8, 2) := by decide +kernel
theorem dL_orders_151 : decode cL_orders 151 = .ok (.iload 7, 2) := by decide +kernel
theorem dL_orders_153 : decode cL_orders 153 = .ok (.imul, 1) := by decide +kernel
theorem dL_orders_154 : decode cL_orders 154 = .ok (.goto 5, 3) := by decide +kernel
theorem dL_orders_157 : decode cL_orders 157 = .ok (.iload 8, 2) := by decide +kernel
theorem dL_orders_159 : decode cL_orders 159 = .ok (.iadd, 1) := by decide +kernel
theorem dL_orders_160 : decode cL_orders 160 = .ok (.istore_n 3, 1) := by decide +kernel
theorem dL_orders_161 : decode cL_orders 161 = .ok (.aload_n 0, 1) := by decide +kernel
theorem dL_orders_162 : decode cL_orders 162 = .ok (.iload_n 1, 1) := by decide +kernel
theorem dL_orders_163 : decode cL_orders 163 = .ok (.ifCond .ne 7, 3) := by decide +kernel
theorem dL_orders_166 : decode cL_orders 166 = .ok (.iconst 1, 1) := by decide +kernel
theorem dL_orders_167 : decode cL_orders 167 = .ok (.goto 4, 3) := by decide +kernel
theorem dL_orders_170 : decode cL_orders 170 = .ok (.iconst 0, 1) := by decide +kernel
theorem dL_orders_171 : decode cL_orders 171 = .ok (.iload 7, 2) := by decide +kernel
theorem dL_orders_173 : decode cL_orders 173 = .ok (.invokevirtual 34, 3) := by decide +kernel
theorem dL_orders_176 : decode cL_orders 176 = .ok (.iload 4, 2) := by decide +kernel
theorem dL_orders_178 : decode cL_orders 178 = .ok (.if_icmp .ge 5, 3) := by decide +kernel
theorem dL_orders_181 : decode cL_orders 181 = .ok (.iconst 0, 1) := by decide +kernel
theorem dL_orders_182 : decode cL_orders 182 = .ok (.ireturn, 1) := by decide +kernel
theorem dL_orders_183 : decode cL_orders 183 = .ok (.iload 7, 2) := by decide +kernel
theorem dL_orders_185 : decode cL_orders 185 = .ok (.istore 5, 2) := by decide +kernel
theorem dL_orders_187 : decode cL_orders 187 = .ok (.aload_n 0, 1) := by decide +kernel
theorem dL_orders_188 : decode cL_orders 188 = .ok (.iload_n 1, 1) := by decide +kernel
theorem dL_orders_189 : decode cL_orders 189 = .ok (.iload_n 2, 1) := by decide +kernel
theorem dL_orders_190 : decode cL_orders 190 = .ok (.iconst 0, 1) := by decide +kernel
theorem dL_orders_191 : decode cL_orders 191 = .ok (.invokevirtual 30, 3) := by decide +kernel
theorem dL_orders_194 : decode cL_orders 194 = .ok (.istore 6, 2) := by decide +kernel
theorem dL_orders_196 : decode cL_orders 196 = .ok (.iinc 2 1, 3) := by decide +kernel
theorem dL_orders_199 : decode cL_orders 199 = .ok (.goto (-176), 3) := by decide +kernel
theorem dL_orders_202 : decode cL_orders 202 = .ok (.iconst 0, 1) := by decide +kernel
theorem dL_orders_203 : decode cL_orders 203 = .ok (.istore 7, 2) := by decide +kernel
theorem dL_orders_205 : decode cL_orders 205 = .ok (.iconst 0, 1) := by decide +kernel
theorem dL_orders_206 : decode cL_orders 206 = .ok (.istore 8, 2) := by decide +kernel
theorem dL_orders_208 : decode cL_orders 208 = .ok (.iload 8, 2) := by decide +kernel
theorem dL_orders_210 : decode cL_orders 210 = .ok (.bipush 6, 2) := by decide +kernel
theorem dL_orders_212 : decode cL_orders 212 = .ok (.if_icmp .ge 31, 3) := by decide +kernel
theorem dL_orders_215 : decode cL_orders 215 = .ok (.iload 7, 2) := by decide +kernel
theorem dL_orders_217 : decode cL_orders 217 = .ok (.aload_n 0, 1) := by decide +kernel
theorem dL_orders_218 : decode cL_orders 218 = .ok (.iload 8, 2) := by decide +kernel
theorem dL_orders_220 : decode cL_orders 220 = .ok (.iload_n 1, 1) := by decide +kernel
theorem dL_orders_221 : decode cL_orders 221 = .ok (.ifCond .eq 8, 3) := by decide +kernel
theorem dL_orders_224 : decode cL_orders 224 = .ok (.bipush 11, 2) := by decide +kernel
theorem dL_orders_226 : decode cL_orders 226 = .ok (.goto 5, 3) := by decide +kernel
theorem dL_orders_229 : decode cL_orders 229 = .ok (.bipush 10, 2) := by decide +kernel
theorem dL_orders_231 : decode cL_orders 231 = .ok (.invokevirtual 19, 3) := by decide +kernel
theorem dL_orders_234 : decode cL_orders 234 = .ok (.iadd, 1) := by decide +kernel
theorem dL_orders_235 : decode cL_orders 235 = .ok (.istore 7, 2) := by decide +kernel
theorem dL_orders_237 : decode cL_orders 237 = .ok (.iinc 8 1, 3) := by decide +kernel
theorem dL_orders_240 : decode cL_orders 240 = .ok (.goto (-32), 3) := by decide +kernel
theorem dL_orders_243 : decode cL_orders 243 = .ok (.iconst 0, 1) := by decide +kernel
theorem dL_orders_244 : decode cL_orders 244 = .ok (.istore 8, 2) := by decide +kernel
theorem dL_orders_246 : decode cL_orders 246 = .ok (.aload_n 0, 1) := by decide +kernel
theorem dL_orders_247 : decode cL_orders 247 = .ok (.iload_n 1, 1) := by decide +kernel
theorem dL_orders_248 : decode cL_orders 248 = .ok (.ifCond .ne 7, 3) := by decide +kernel
theorem dL_orders_251 : decode cL_orders 251 = .ok (.iconst 1, 1) := by decide +kernel
theorem dL_orders_252 : decode cL_orders 252 = .ok (.goto 4, 3) := by decide +kernel
theorem dL_orders_255 : decode cL_orders 255 = .ok (.iconst 0, 1) := by decide +kernel
theorem dL_orders_256 : decode cL_orders 256 = .ok (.iload 8, 2) := by decide +kernel
theorem dL_orders_258 : decode cL_orders 258 = .ok (.iconst 0, 1) := by decide +kernel
theorem dL_orders_259 : decode cL_orders 259 = .ok (.invokevirtual 30, 3) := by decide +kernel
theorem dL_orders_262 : decode cL_orders 262 = .ok (.ifCond .lt 9, 3) := by decide +kernel
theorem dL_orders_265 : decode cL_orders 265 = .ok (.iinc 8 1, 3) := by decide +kernel
theorem dL_orders_268 : decode cL_orders 268 = .ok (.goto (-22), 3) := by decide +kernel
theorem dL_orders_271 : decode cL_orders 271 = .ok (.iload 7, 2) := by decide +kernel
theorem dL_orders_273 : decode cL_orders 273 = .ok (.iload_n 3, 1) := by decide +kernel
theorem dL_orders_274 : decode cL_orders 274 = .ok (.if_icmp .ne 73, 3) := by decide +kernel
theorem dL_orders_277 : decode cL_orders 277 = .ok (.iload_n 2, 1) := by decide +kernel
theorem dL_orders_278 : decode cL_orders 278 = .ok (.iload 8, 2) := by decide +kernel
theorem dL_orders_280 : decode cL_orders 280 = .ok (.iadd, 1) := by decide +kernel
theorem dL_orders_281 : decode cL_orders 281 = .ok (.aload_n 0, 1) := by decide +kernel
theorem dL_orders_282 : decode cL_orders 282 = .ok (.bipush 7, 2) := by decide +kernel
theorem dL_orders_284 : decode cL_orders 284 = .ok (.invokevirtual 13, 3) := by decide +kernel
theorem dL_orders_287 : decode cL_orders 287 = .ok (.if_icmp .ne 60, 3) := by decide +kernel
theorem dL_orders_290 : decode cL_orders 290 = .ok (.aload_n 0, 1) := by decide +kernel
theorem dL_orders_291 : decode cL_orders 291 = .ok (.iload_n 1, 1) := by decide +kernel
theorem dL_orders_292 : decode cL_orders 292 = .ok (.ifCond .ne 7, 3) := by decide +kernel
theorem dL_orders_295 : decode cL_orders 295 = .ok (.iconst 1, 1) := by decide +kernel
theorem dL_orders_296 : decode cL_orders 296 = .ok (.goto 4, 3) := by decide +kernel
theorem dL_orders_299 : decode cL_orders 299 = .ok (.iconst 0, 1) := by decide +kernel
theorem dL_orders_300 : decode cL_orders 300 = .ok (.iload_n 1, 1) := by decide +kernel
theorem dL_orders_301 : decode cL_orders 301 = .ok (.ifCond .eq 7, 3) := by decide +kernel
theorem dL_orders_304 : decode cL_orders 304 = .ok (.iconst 1, 1) := by decide +kernel
theorem dL_orders_305 : decode cL_orders 305 = .ok (.goto 6, 3) := by decide +kernel
theorem dL_orders_308 : decode cL_orders 308 = .ok (.sipush 500, 3) := by decide +kernel
theorem dL_orders_311 : decode cL_orders 311 = .ok (.invokevirtual 34, 3) := by decide +kernel
theorem dL_orders_314 : decode cL_orders 314 = .ok (.iload 4, 2) := by decide +kernel
theorem dL_orders_316 : decode cL_orders 316 = .ok (.if_icmp .ne 31, 3) := by decide +kernel
theorem dL_orders_319 : decode cL_orders 319 = .ok (.aload_n 0, 1) := by decide +kernel
theorem dL_orders_320 : decode cL_orders 320 = .ok (.iload_n 1, 1) := by decide +kernel
theorem dL_orders_321 : decode cL_orders 321 = .ok (.iload_n 2, 1) := by decide +kernel
theorem dL_orders_322 : decode cL_orders 322 = .ok (.iconst 3, 1) := by decide +kernel
theorem dL_orders_323 : decode cL_orders 323 = .ok (.invokevirtual 30, 3) := by decide +kernel
theorem dL_orders_326 : decode cL_orders 326 = .ok (.bipush (-5), 2) := by decide +kernel
theorem dL_orders_328 : decode cL_orders 328 = .ok (.if_icmp .ne 19, 3) := by decide +kernel
theorem dL_orders_331 : decode cL_orders 331 = .ok (.aload_n 0, 1) := by decide +kernel
theorem dL_orders_332 : decode cL_orders 332 = .ok (.iload_n 1, 1) := by decide +kernel
theorem dL_orders_333 : decode cL_orders 333 = .ok (.iconst (-1), 1) := by decide +kernel
theorem dL_orders_334 : decode cL_orders 334 = .ok (.iconst 0, 1) := by decide +kernel
theorem dL_orders_335 : decode cL_orders 335 = .ok (.invokevirtual 30, 3) := by decide +kernel
theorem dL_orders_338 : decode cL_orders 338 = .ok (.bipush (-2), 2) := by decide +kernel
theorem dL_orders_340 : decode cL_orders 340 = .ok (.if_icmp .ne 7, 3) := by decide +kernel
theorem dL_orders_343 : decode cL_orders 343 = .ok (.iconst 1, 1) := by decide +kernel
theorem dL_orders_344 : decode cL_orders 344 = .ok (.goto 4, 3) := by decide +kernel
theorem dL_orders_347 : decode cL_orders 347 = .ok (.iconst 0, 1) := by decide +kernel
theorem dL_orders_348 : decode cL_orders 348 = .ok (.ireturn, 1) := by decide +kernel
theorem dL_sums_0 : decode cL_sums 0 = .ok (.iconst 0, 1) := by decide +kernel
theorem dL_sums_1 : decode cL_sums 1 = .ok (.istore_n 1, 1) := by decide +kernel
theorem dL_sums_2 : decode cL_sums 2 = .ok (.iconst 0, 1) := by decide +kernel
theorem dL_sums_3 : decode cL_sums 3 = .ok (.istore_n 2, 1) := by decide +kernel
theorem dL_sums_4 : decode cL_sums 4 = .ok (.iconst 0, 1) := by decide +kernel
theorem dL_sums_5 : decode cL_sums 5 = .ok (.istore_n 3, 1) := by decide +kernel
theorem dL_sums_6 : decode cL_sums 6 = .ok (.iload_n 3, 1) := by decide +kernel
theorem dL_sums_7 : decode cL_sums 7 = .ok (.bipush 6, 2) := by decide +kernel
theorem dL_sums_9 : decode cL_sums 9 = .ok (.if_icmp .ge 53, 3) := by decide +kernel
theorem dL_sums_12 : decode cL_sums 12 = .ok (.aload_n 0, 1) := by decide +kernel
theorem dL_sums_13 : decode cL_sums 13 = .ok (.iload_n 3, 1) := by decide +kernel
theorem dL_sums_14 : decode cL_sums 14 = .ok (.invokestatic 38, 3) := by decide +kernel
theorem dL_sums_17 : decode cL_sums 17 = .ok (.ifCond .ne 5, 3) := by decide +kernel
theorem dL_sums_20 : decode cL_sums 20 = .ok (.iconst 0, 1) := by decide +kernel
theorem dL_sums_21 : decode cL_sums 21 = .ok (.ireturn, 1) := by decide +kernel
theorem dL_sums_22 : decode cL_sums 22 = .ok (.iload_n 1, 1) := by decide +kernel
theorem dL_sums_23 : decode cL_sums 23 = .ok (.aload_n 0, 1) := by decide +kernel
theorem dL_sums_24 : decode cL_sums 24 = .ok (.iload_n 3, 1) := by decide +kernel
theorem dL_sums_25 : decode cL_sums 25 = .ok (.iconst 0, 1) := by decide +kernel
theorem dL_sums_26 : decode cL_sums 26 = .ok (.invokevirtual 19, 3) := by decide +kernel
theorem dL_sums_29 : decode cL_sums 29 = .ok (.aload_n 0, 1) := by decide +kernel
theorem dL_sums_30 : decode cL_sums 30 = .ok (.iload_n 3, 1) := by decide +kernel
theorem dL_sums_31 : decode cL_sums 31 = .ok (.bipush 11, 2) := by decide +kernel
theorem dL_sums_33 : decode cL_sums 33 = .ok (.invokevirtual 19, 3) := by decide +kernel
theorem dL_sums_36 : decode cL_sums 36 = .ok (.iadd, 1) := by decide +kernel
theorem dL_sums_37 : decode cL_sums 37 = .ok (.iadd, 1) := by decide +kernel
theorem dL_sums_38 : decode cL_sums 38 = .ok (.istore_n 1, 1) := by decide +kernel
theorem dL_sums_39 : decode cL_sums 39 = .ok (.iload_n 2, 1) := by decide +kernel
theorem dL_sums_40 : decode cL_sums 40 = .ok (.aload_n 0, 1) := by decide +kernel
theorem dL_sums_41 : decode cL_sums 41 = .ok (.iload_n 3, 1) := by decide +kernel
theorem dL_sums_42 : decode cL_sums 42 = .ok (.iconst 1, 1) := by decide +kernel
theorem dL_sums_43 : decode cL_sums 43 = .ok (.invokevirtual 19, 3) := by decide +kernel
theorem dL_sums_46 : decode cL_sums 46 = .ok (.aload_n 0, 1) := by decide +kernel
theorem dL_sums_47 : decode cL_sums 47 = .ok (.iload_n 3, 1) := by decide +kernel
theorem dL_sums_48 : decode cL_sums 48 = .ok (.bipush 10, 2) := by decide +kernel
theorem dL_sums_50 : decode cL_sums 50 = .ok (.invokevirtual 19, 3) := by decide +kernel
theorem dL_sums_53 : decode cL_sums 53 = .ok (.iadd, 1) := by decide +kernel
theorem dL_sums_54 : decode cL_sums 54 = .ok (.iadd, 1) := by decide +kernel
theorem dL_sums_55 : decode cL_sums 55 = .ok (.istore_n 2, 1) := by decide +kernel
theorem dL_sums_56 : decode cL_sums 56 = .ok (.iinc 3 1, 3) := by decide +kernel
theorem dL_sums_59 : decode cL_sums 59 = .ok (.goto (-53), 3) := by decide +kernel
theorem dL_sums_62 : decode cL_sums 62 = .ok (.aload_n 0, 1) := by decide +kernel
theorem dL_sums_63 : decode cL_sums 63 = .ok (.iconst 1, 1) := by decide +kernel
theorem dL_sums_64 : decode cL_sums 64 = .ok (.iconst 0, 1) := by decide +kernel
theorem dL_sums_65 : decode cL_sums 65 = .ok (.iconst 3, 1) := by decide +kernel
theorem dL_sums_66 : decode cL_sums 66 = .ok (.invokevirtual 30, 3) := by decide +kernel
theorem dL_sums_69 : decode cL_sums 69 = .ok (.ifCond .lt 34, 3) := by decide +kernel
theorem dL_sums_72 : decode cL_sums 72 = .ok (.aload_n 0, 1) := by decide +kernel
theorem dL_sums_73 : decode cL_sums 73 = .ok (.iconst 0, 1) := by decide +kernel
theorem dL_sums_74 : decode cL_sums 74 = .ok (.iconst 0, 1) := by decide +kernel
theorem dL_sums_75 : decode cL_sums 75 = .ok (.iconst 3, 1) := by decide +kernel
theorem dL_sums_76 : decode cL_sums 76 = .ok (.invokevirtual 30, 3) := by decide +kernel
theorem dL_sums_79 : decode cL_sums 79 = .ok (.ifCond .lt 24, 3) := by decide +kernel
theorem dL_sums_82 : decode cL_sums 82 = .ok (.aload_n 0, 1) := by decide +kernel
theorem dL_sums_83 : decode cL_sums 83 = .ok (.iconst 1, 1) := by decide +kernel
theorem dL_sums_84 : decode cL_sums 84 = .ok (.iconst 0, 1) := by decide +kernel
theorem dL_sums_85 : decode cL_sums 85 = .ok (.iconst 3, 1) := by decide +kernel
theorem dL_sums_86 : decode cL_sums 86 = .ok (.invokevirtual 30, 3) := by decide +kernel
theorem dL_sums_89 : decode cL_sums 89 = .ok (.aload_n 0, 1) := by decide +kernel
theorem dL_sums_90 : decode cL_sums 90 = .ok (.iconst 0, 1) := by decide +kernel
theorem dL_sums_91 : decode cL_sums 91 = .ok (.iconst 0, 1) := by decide +kernel
theorem dL_sums_92 : decode cL_sums 92 = .ok (.iconst 3, 1) := by decide +kernel
theorem dL_sums_93 : decode cL_sums 93 = .ok (.invokevirtual 30, 3) := by decide +kernel
theorem dL_sums_96 : decode cL_sums 96 = .ok (.if_icmp .lt 7, 3) := by decide +kernel
theorem dL_sums_99 : decode cL_sums 99 = .ok (.iconst 1, 1) := by decide +kernel
theorem dL_sums_100 : decode cL_sums 100 = .ok (.goto 4, 3) := by decide +kernel
theorem dL_sums_103 : decode cL_sums 103 = .ok (.iconst 0, 1) := by decide +kernel
theorem dL_sums_104 : decode cL_sums 104 = .ok (.istore_n 3, 1) := by decide +kernel
theorem dL_sums_105 : decode cL_sums 105 = .ok (.iload_n 3, 1) := by decide +kernel
theorem dL_sums_106 : decode cL_sums 106 = .ok (.ifCond .ne 103, 3) := by decide +kernel
theorem dL_sums_109 : decode cL_sums 109 = .ok (.aload_n 0, 1) := by decide +kernel
theorem dL_sums_110 : decode cL_sums 110 = .ok (.bipush 11, 2) := by decide +kernel
theorem dL_sums_112 : decode cL_sums 112 = .ok (.invokevirtual 13, 3) := by decide +kernel
theorem dL_sums_115 : decode cL_sums 115 = .ok (.iload_n 1, 1) := by decide +kernel
theorem dL_sums_116 : decode cL_sums 116 = .ok (.if_icmp .ne 93, 3) := by decide +kernel
theorem dL_sums_119 : decode cL_sums 119 = .ok (.iload_n 1, 1) := by decide +kernel
theorem dL_sums_120 : decode cL_sums 120 = .ok (.aload_n 0, 1) := by decide +kernel
theorem dL_sums_121 : decode cL_sums 121 = .ok (.bipush 12, 2) := by decide +kernel
theorem dL_sums_123 : decode cL_sums 123 = .ok (.invokevirtual 13, 3) := by decide +kernel
theorem dL_sums_126 : decode cL_sums 126 = .ok (.iadd, 1) := by decide +kernel
theorem dL_sums_127 : decode cL_sums 127 = .ok (.aload_n 0, 1) := by decide +kernel
theorem dL_sums_128 : decode cL_sums 128 = .ok (.bipush 13, 2) := by decide +kernel
theorem dL_sums_130 : decode cL_sums 130 = .ok (.invokevirtual 13, 3) := by decide +kernel
theorem dL_sums_133 : decode cL_sums 133 = .ok (.iadd, 1) := by decide +kernel
theorem dL_sums_134 : decode cL_sums 134 = .ok (.sipush 6000, 3) := by decide +kernel
theorem dL_sums_137 : decode cL_sums 137 = .ok (.if_icmp .ne 72, 3) := by decide +kernel
theorem dL_sums_140 : decode cL_sums 140 = .ok (.aload_n 0, 1) := by decide +kernel
theorem dL_sums_141 : decode cL_sums 141 = .ok (.iconst 1, 1) := by decide +kernel
theorem dL_sums_142 : decode cL_sums 142 = .ok (.invokevirtual 13, 3) := by decide +kernel
theorem dL_sums_145 : decode cL_sums 145 = .ok (.iload_n 2, 1) := by decide +kernel
theorem dL_sums_146 : decode cL_sums 146 = .ok (.if_icmp .ne 63, 3) := by decide +kernel
theorem dL_sums_149 : decode cL_sums 149 = .ok (.iload_n 2, 1) := by decide +kernel
theorem dL_sums_150 : decode cL_sums 150 = .ok (.aload_n 0, 1) := by decide +kernel
theorem dL_sums_151 : decode cL_sums 151 = .ok (.iconst 2, 1) := by decide +kernel
theorem dL_sums_152 : decode cL_sums 152 = .ok (.invokevirtual 13, 3) := by decide +kernel
theorem dL_sums_155 : decode cL_sums 155 = .ok (.aload_n 0, 1) := by decide +kernel
theorem dL_sums_156 : decode cL_sums 156 = .ok (.bipush 6, 2) := by decide +kernel
theorem dL_sums_158 : decode cL_sums 158 = .ok (.invokevirtual 13, 3) := by decide +kernel
theorem dL_sums_161 : decode cL_sums 161 = .ok (.iadd, 1) := by decide +kernel
theorem dL_sums_162 : decode cL_sums 162 = .ok (.aload_n 0, 1) := by decide +kernel
theorem dL_sums_163 : decode cL_sums 163 = .ok (.iconst 3, 1) := by decide +kernel
theorem dL_sums_164 : decode cL_sums 164 = .ok (.invokevirtual 13, 3) := by decide +kernel
theorem dL_sums_167 : decode cL_sums 167 = .ok (.isub, 1) := by decide +kernel
theorem dL_sums_168 : decode cL_sums 168 = .ok (.if_icmp .ne 41, 3) := by decide +kernel
theorem dL_sums_171 : decode cL_sums 171 = .ok (.aload_n 0, 1) := by decide +kernel
theorem dL_sums_172 : decode cL_sums 172 = .ok (.iconst 5, 1) := by decide +kernel
theorem dL_sums_173 : decode cL_sums 173 = .ok (.invokevirtual 13, 3) := by decide +kernel
theorem dL_sums_176 : decode cL_sums 176 = .ok (.aload_n 0, 1) := by decide +kernel
theorem dL_sums_177 : decode cL_sums 177 = .ok (.bipush 6, 2) := by decide +kernel
theorem dL_sums_179 : decode cL_sums 179 = .ok (.invokevirtual 13, 3) := by decide +kernel
theorem dL_sums_182 : decode cL_sums 182 = .ok (.iadd, 1) := by decide +kernel
theorem dL_sums_183 : decode cL_sums 183 = .ok (.sipush 500, 3) := by decide +kernel
theorem dL_sums_186 : decode cL_sums 186 = .ok (.if_icmp .ne 23, 3) := by decide +kernel
theorem dL_sums_189 : decode cL_sums 189 = .ok (.aload_n 0, 1) := by decide +kernel
theorem dL_sums_190 : decode cL_sums 190 = .ok (.iconst 1, 1) := by decide +kernel
theorem dL_sums_191 : decode cL_sums 191 = .ok (.invokestatic 43, 3) := by decide +kernel
theorem dL_sums_194 : decode cL_sums 194 = .ok (.ifCond .eq 15, 3) := by decide +kernel
theorem dL_sums_197 : decode cL_sums 197 = .ok (.aload_n 0, 1) := by decide +kernel
theorem dL_sums_198 : decode cL_sums 198 = .ok (.iconst 0, 1) := by decide +kernel
theorem dL_sums_199 : decode cL_sums 199 = .ok (.invokestatic 43, 3) := by decide +kernel
theorem dL_sums_202 : decode cL_sums 202 = .ok (.ifCond .eq 7, 3) := by decide +kernel
theorem dL_sums_205 : decode cL_sums 205 = .ok (.iconst 1, 1) := by decide +kernel
theorem dL_sums_206 : decode cL_sums 206 = .ok (.goto 4, 3) := by decide +kernel
theorem dL_sums_209 : decode cL_sums 209 = .ok (.iconst 0, 1) := by decide +kernel
theorem dL_sums_210 : decode cL_sums 210 = .ok (.ireturn, 1) := by decide +kernel
theorem dL_act_0 : decode cL_act 0 = .ok (.iload_n 1, 1) := by decide +kernel
theorem dL_act_1 : decode cL_act 1 = .ok (.bipush 8, 2) := by decide +kernel
theorem dL_act_3 : decode cL_act 3 = .ok (.ishr, 1) := by decide +kernel
theorem dL_act_4 : decode cL_act 4 = .ok (.bipush 6, 2) := by decide +kernel
theorem dL_act_6 : decode cL_act 6 = .ok (.invokestatic 47, 3) := by decide +kernel
theorem dL_act_9 : decode cL_act 9 = .ok (.istore_n 3, 1) := by decide +kernel
theorem dL_act_10 : decode cL_act 10 = .ok (.iload_n 1, 1) := by decide +kernel
theorem dL_act_11 : decode cL_act 11 = .ok (.iconst 3, 1) := by decide +kernel
theorem dL_act_12 : decode cL_act 12 = .ok (.ishr, 1) := by decide +kernel
theorem dL_act_13 : decode cL_act 13 = .ok (.bipush 14, 2) := by decide +kernel
theorem dL_act_15 : decode cL_act 15 = .ok (.invokestatic 47, 3) := by decide +kernel
theorem dL_act_18 : decode cL_act 18 = .ok (.istore 4, 2) := by decide +kernel
theorem dL_act_20 : decode cL_act 20 = .ok (.iload 4, 2) := by decide +kernel
theorem dL_act_22 : decode cL_act 22 = .ok (.iconst 2, 1) := by decide +kernel
theorem dL_act_23 : decode cL_act 23 = .ok (.if_icmp .ge 17, 3) := by decide +kernel
theorem dL_act_26 : decode cL_act 26 = .ok (.aload_n 0, 1) := by decide +kernel
theorem dL_act_27 : decode cL_act 27 = .ok (.iload_n 3, 1) := by decide +kernel
theorem dL_act_28 : decode cL_act 28 = .ok (.iconst 1, 1) := by decide +kernel
theorem dL_act_29 : decode cL_act 29 = .ok (.iload_n 2, 1) := by decide +kernel
theorem dL_act_30 : decode cL_act 30 = .ok (.bipush 60, 2) := by decide +kernel
theorem dL_act_32 : decode cL_act 32 = .ok (.invokestatic 47, 3) := by decide +kernel
theorem dL_act_35 : decode cL_act 35 = .ok (.iadd, 1) := by decide +kernel
theorem dL_act_36 : decode cL_act 36 = .ok (.invokevirtual 50, 3) := by decide +kernel
theorem dL_act_39 : decode cL_act 39 = .ok (.ireturn, 1) := by decide +kernel
theorem dL_act_40 : decode cL_act 40 = .ok (.iload 4, 2) := by decide +kernel
theorem dL_act_42 : decode cL_act 42 = .ok (.iconst 2, 1) := by decide +kernel
theorem dL_act_43 : decode cL_act 43 = .ok (.if_icmp .ne 32, 3) := by decide +kernel
theorem dL_act_46 : decode cL_act 46 = .ok (.iconst 1, 1) := by decide +kernel
theorem dL_act_47 : decode cL_act 47 = .ok (.iload_n 2, 1) := by decide +kernel
theorem dL_act_48 : decode cL_act 48 = .ok (.bipush 90, 2) := by decide +kernel
theorem dL_act_50 : decode cL_act 50 = .ok (.invokestatic 47, 3) := by decide +kernel
theorem dL_act_53 : decode cL_act 53 = .ok (.iadd, 1) := by decide +kernel
theorem dL_act_54 : decode cL_act 54 = .ok (.istore 5, 2) := by decide +kernel
theorem dL_act_56 : decode cL_act 56 = .ok (.aload_n 0, 1) := by decide +kernel
theorem dL_act_57 : decode cL_act 57 = .ok (.iload_n 3, 1) := by decide +kernel
theorem dL_act_58 : decode cL_act 58 = .ok (.iload 5, 2) := by decide +kernel
theorem dL_act_60 : decode cL_act 60 = .ok (.iload_n 2, 1) := by decide +kernel
theorem dL_act_61 : decode cL_act 61 = .ok (.bipush 7, 2) := by decide +kernel
theorem dL_act_63 : decode cL_act 63 = .ok (.ishr, 1) := by decide +kernel
theorem dL_act_64 : decode cL_act 64 = .ok (.iload 5, 2) := by decide +kernel
theorem dL_act_66 : decode cL_act 66 = .ok (.iconst 1, 1) := by decide +kernel
theorem dL_act_67 : decode cL_act 67 = .ok (.iadd, 1) := by decide +kernel
theorem dL_act_68 : decode cL_act 68 = .ok (.invokestatic 47, 3) := by decide +kernel
theorem dL_act_71 : decode cL_act 71 = .ok (.invokevirtual 53, 3) := by decide +kernel
theorem dL_act_74 : decode cL_act 74 = .ok (.ireturn, 1) := by decide +kernel
theorem dL_act_75 : decode cL_act 75 = .ok (.iload 4, 2) := by decide +kernel
theorem dL_act_77 : decode cL_act 77 = .ok (.iconst 3, 1) := by decide +kernel
theorem dL_act_78 : decode cL_act 78 = .ok (.if_icmp .ne 9, 3) := by decide +kernel
theorem dL_act_81 : decode cL_act 81 = .ok (.aload_n 0, 1) := by decide +kernel
theorem dL_act_82 : decode cL_act 82 = .ok (.iload_n 3, 1) := by decide +kernel
theorem dL_act_83 : decode cL_act 83 = .ok (.invokevirtual 57, 3) := by decide +kernel
theorem dL_act_86 : decode cL_act 86 = .ok (.ireturn, 1) := by decide +kernel
theorem dL_act_87 : decode cL_act 87 = .ok (.iload 4, 2) := by decide +kernel
theorem dL_act_89 : decode cL_act 89 = .ok (.bipush 7, 2) := by decide +kernel
theorem dL_act_91 : decode cL_act 91 = .ok (.if_icmp .ge 32, 3) := by decide +kernel
theorem dL_act_94 : decode cL_act 94 = .ok (.aload_n 0, 1) := by decide +kernel
theorem dL_act_95 : decode cL_act 95 = .ok (.iload_n 3, 1) := by decide +kernel
theorem dL_act_96 : decode cL_act 96 = .ok (.iconst 1, 1) := by decide +kernel
theorem dL_act_97 : decode cL_act 97 = .ok (.iload_n 2, 1) := by decide +kernel
theorem dL_act_98 : decode cL_act 98 = .ok (.bipush 12, 2) := by decide +kernel
theorem dL_act_100 : decode cL_act 100 = .ok (.invokestatic 47, 3) := by decide +kernel
theorem dL_act_103 : decode cL_act 103 = .ok (.iadd, 1) := by decide +kernel
theorem dL_act_104 : decode cL_act 104 = .ok (.aload_n 0, 1) := by decide +kernel
theorem dL_act_105 : decode cL_act 105 = .ok (.bipush 14, 2) := by decide +kernel
theorem dL_act_107 : decode cL_act 107 = .ok (.invokevirtual 13, 3) := by decide +kernel
theorem dL_act_110 : decode cL_act 110 = .ok (.iload_n 2, 1) := by decide +kernel
theorem dL_act_111 : decode cL_act 111 = .ok (.iconst 4, 1) := by decide +kernel
theorem dL_act_112 : decode cL_act 112 = .ok (.ishr, 1) := by decide +kernel
theorem dL_act_113 : decode cL_act 113 = .ok (.bipush 30, 2) := by decide +kernel
theorem dL_act_115 : decode cL_act 115 = .ok (.invokestatic 47, 3) := by decide +kernel
theorem dL_act_118 : decode cL_act 118 = .ok (.iadd, 1) := by decide +kernel
theorem dL_act_119 : decode cL_act 119 = .ok (.invokevirtual 60, 3) := by decide +kernel
theorem dL_act_122 : decode cL_act 122 = .ok (.ireturn, 1) := by decide +kernel
theorem dL_act_123 : decode cL_act 123 = .ok (.iload 4, 2) := by decide +kernel
theorem dL_act_125 : decode cL_act 125 = .ok (.bipush 10, 2) := by decide +kernel
theorem dL_act_127 : decode cL_act 127 = .ok (.if_icmp .ge 32, 3) := by decide +kernel
theorem dL_act_130 : decode cL_act 130 = .ok (.aload_n 0, 1) := by decide +kernel
theorem dL_act_131 : decode cL_act 131 = .ok (.iload_n 3, 1) := by decide +kernel
theorem dL_act_132 : decode cL_act 132 = .ok (.iconst 1, 1) := by decide +kernel
theorem dL_act_133 : decode cL_act 133 = .ok (.iload_n 2, 1) := by decide +kernel
theorem dL_act_134 : decode cL_act 134 = .ok (.bipush 20, 2) := by decide +kernel
theorem dL_act_136 : decode cL_act 136 = .ok (.invokestatic 47, 3) := by decide +kernel
theorem dL_act_139 : decode cL_act 139 = .ok (.iadd, 1) := by decide +kernel
theorem dL_act_140 : decode cL_act 140 = .ok (.aload_n 0, 1) := by decide +kernel
theorem dL_act_141 : decode cL_act 141 = .ok (.bipush 14, 2) := by decide +kernel
theorem dL_act_143 : decode cL_act 143 = .ok (.invokevirtual 13, 3) := by decide +kernel
theorem dL_act_146 : decode cL_act 146 = .ok (.iload_n 2, 1) := by decide +kernel
theorem dL_act_147 : decode cL_act 147 = .ok (.iconst 5, 1) := by decide +kernel
theorem dL_act_148 : decode cL_act 148 = .ok (.ishr, 1) := by decide +kernel
theorem dL_act_149 : decode cL_act 149 = .ok (.bipush 30, 2) := by decide +kernel
theorem dL_act_151 : decode cL_act 151 = .ok (.invokestatic 47, 3) := by decide +kernel
theorem dL_act_154 : decode cL_act 154 = .ok (.iadd, 1) := by decide +kernel
theorem dL_act_155 : decode cL_act 155 = .ok (.invokevirtual 63, 3) := by decide +kernel
theorem dL_act_158 : decode cL_act 158 = .ok (.ireturn, 1) := by decide +kernel
theorem dL_act_159 : decode cL_act 159 = .ok (.iload 4, 2) := by decide +kernel
theorem dL_act_161 : decode cL_act 161 = .ok (.bipush 10, 2) := by decide +kernel
theorem dL_act_163 : decode cL_act 163 = .ok (.if_icmp .ne 42, 3) := by decide +kernel
theorem dL_act_166 : decode cL_act 166 = .ok (.iload_n 2, 1) := by decide +kernel
theorem dL_act_167 : decode cL_act 167 = .ok (.iconst 2, 1) := by decide +kernel
theorem dL_act_168 : decode cL_act 168 = .ok (.invokestatic 47, 3) := by decide +kernel
theorem dL_act_171 : decode cL_act 171 = .ok (.ifCond .ne 18, 3) := by decide +kernel
theorem dL_act_174 : decode cL_act 174 = .ok (.aload_n 0, 1) := by decide +kernel
theorem dL_act_175 : decode cL_act 175 = .ok (.iload_n 2, 1) := by decide +kernel
theorem dL_act_176 : decode cL_act 176 = .ok (.iconst 1, 1) := by decide +kernel
theorem dL_act_177 : decode cL_act 177 = .ok (.ishr, 1) := by decide +kernel
theorem dL_act_178 : decode cL_act 178 = .ok (.bipush 20, 2) := by decide +kernel
theorem dL_act_180 : decode cL_act 180 = .ok (.invokestatic 47, 3) := by decide +kernel
theorem dL_act_183 : decode cL_act 183 = .ok (.invokevirtual 66, 3) := by decide +kernel
theorem dL_act_186 : decode cL_act 186 = .ok (.goto 18, 3) := by decide +kernel
theorem dL_act_189 : decode cL_act 189 = .ok (.aload_n 0, 1) := by decide +kernel
theorem dL_act_190 : decode cL_act 190 = .ok (.iload_n 3, 1) := by decide +kernel
theorem dL_act_191 : decode cL_act 191 = .ok (.iconst 1, 1) := by decide +kernel
theorem dL_act_192 : decode cL_act 192 = .ok (.iload_n 2, 1) := by decide +kernel
theorem dL_act_193 : decode cL_act 193 = .ok (.iconst 1, 1) := by decide +kernel
theorem dL_act_194 : decode cL_act 194 = .ok (.ishr, 1) := by decide +kernel
theorem dL_act_195 : decode cL_act 195 = .ok (.bipush 9, 2) := by decide +kernel
theorem dL_act_197 : decode cL_act 197 = .ok (.invokestatic 47, 3) := by decide +kernel
theorem dL_act_200 : decode cL_act 200 = .ok (.iadd, 1) := by decide +kernel
theorem dL_act_201 : decode cL_act 201 = .ok (.invokevirtual 69, 3) := by decide +kernel
theorem dL_act_204 : decode cL_act 204 = .ok (.ireturn, 1) := by decide +kernel
theorem dL_act_205 : decode cL_act 205 = .ok (.iload 4, 2) := by decide +kernel
theorem dL_act_207 : decode cL_act 207 = .ok (.bipush 11, 2) := by decide +kernel
theorem dL_act_209 : decode cL_act 209 = .ok (.if_icmp .ne 17, 3) := by decide +kernel
theorem dL_act_212 : decode cL_act 212 = .ok (.aload_n 0, 1) := by decide +kernel
theorem dL_act_213 : decode cL_act 213 = .ok (.iload_n 3, 1) := by decide +kernel
theorem dL_act_214 : decode cL_act 214 = .ok (.iconst 1, 1) := by decide +kernel
theorem dL_act_215 : decode cL_act 215 = .ok (.iload_n 2, 1) := by decide +kernel
theorem dL_act_216 : decode cL_act 216 = .ok (.bipush 12, 2) := by decide +kernel
theorem dL_act_218 : decode cL_act 218 = .ok (.invokestatic 47, 3) := by decide +kernel
theorem dL_act_221 : decode cL_act 221 = .ok (.iadd, 1) := by decide +kernel
theorem dL_act_222 : decode cL_act 222 = .ok (.invokevirtual 72, 3) := by decide +kernel
theorem dL_act_225 : decode cL_act 225 = .ok (.ireturn, 1) := by decide +kernel
theorem dL_act_226 : decode cL_act 226 = .ok (.iload 4, 2) := by decide +kernel
theorem dL_act_228 : decode cL_act 228 = .ok (.bipush 12, 2) := by decide +kernel
theorem dL_act_230 : decode cL_act 230 = .ok (.if_icmp .ne 23, 3) := by decide +kernel
theorem dL_act_233 : decode cL_act 233 = .ok (.aload_n 0, 1) := by decide +kernel
theorem dL_act_234 : decode cL_act 234 = .ok (.iload_n 2, 1) := by decide +kernel
theorem dL_act_235 : decode cL_act 235 = .ok (.iconst 5, 1) := by decide +kernel
theorem dL_act_236 : decode cL_act 236 = .ok (.invokestatic 47, 3) := by decide +kernel
theorem dL_act_239 : decode cL_act 239 = .ok (.iconst 1, 1) := by decide +kernel
theorem dL_act_240 : decode cL_act 240 = .ok (.iload_n 2, 1) := by decide +kernel
theorem dL_act_241 : decode cL_act 241 = .ok (.iconst 3, 1) := by decide +kernel
theorem dL_act_242 : decode cL_act 242 = .ok (.ishr, 1) := by decide +kernel
theorem dL_act_243 : decode cL_act 243 = .ok (.bipush 120, 2) := by decide +kernel
theorem dL_act_245 : decode cL_act 245 = .ok (.invokestatic 47, 3) := by decide +kernel
theorem dL_act_248 : decode cL_act 248 = .ok (.iadd, 1) := by decide +kernel
theorem dL_act_249 : decode cL_act 249 = .ok (.invokevirtual 75, 3) := by decide +kernel
theorem dL_act_252 : decode cL_act 252 = .ok (.ireturn, 1) := by decide +kernel
theorem dL_act_253 : decode cL_act 253 = .ok (.aload_n 0, 1) := by decide +kernel
theorem dL_act_254 : decode cL_act 254 = .ok (.invokevirtual 78, 3) := by decide +kernel
theorem dL_act_257 : decode cL_act 257 = .ok (.ireturn, 1) := by decide +kernel
theorem dL_law_0 : decode cL_law 0 = .ok (.new 14, 3) := by decide +kernel
theorem dL_law_3 : decode cL_law 3 = .ok (.dup, 1) := by decide +kernel
theorem dL_law_4 : decode cL_law 4 = .ok (.invokespecial 82, 3) := by decide +kernel
theorem dL_law_7 : decode cL_law 7 = .ok (.astore_n 1, 1) := by decide +kernel
theorem dL_law_8 : decode cL_law 8 = .ok (.iconst 0, 1) := by decide +kernel
theorem dL_law_9 : decode cL_law 9 = .ok (.istore_n 2, 1) := by decide +kernel
theorem dL_law_10 : decode cL_law 10 = .ok (.iload_n 2, 1) := by decide +kernel
theorem dL_law_11 : decode cL_law 11 = .ok (.bipush 22, 2) := by decide +kernel
theorem dL_law_13 : decode cL_law 13 = .ok (.if_icmp .ge 164, 3) := by decide +kernel
theorem dL_law_16 : decode cL_law 16 = .ok (.aload_n 0, 1) := by decide +kernel
theorem dL_law_17 : decode cL_law 17 = .ok (.iconst 2, 1) := by decide +kernel
theorem dL_law_18 : decode cL_law 18 = .ok (.iload_n 2, 1) := by decide +kernel
theorem dL_law_19 : decode cL_law 19 = .ok (.imul, 1) := by decide +kernel
theorem dL_law_20 : decode cL_law 20 = .ok (.invokestatic 83, 3) := by decide +kernel
theorem dL_law_23 : decode cL_law 23 = .ok (.istore_n 3, 1) := by decide +kernel
theorem dL_law_24 : decode cL_law 24 = .ok (.aload_n 0, 1) := by decide +kernel
theorem dL_law_25 : decode cL_law 25 = .ok (.iconst 2, 1) := by decide +kernel
theorem dL_law_26 : decode cL_law 26 = .ok (.iload_n 2, 1) := by decide +kernel
theorem dL_law_27 : decode cL_law 27 = .ok (.imul, 1) := by decide +kernel
theorem dL_law_28 : decode cL_law 28 = .ok (.iconst 1, 1) := by decide +kernel
theorem dL_law_29 : decode cL_law 29 = .ok (.iadd, 1) := by decide +kernel
theorem dL_law_30 : decode cL_law 30 = .ok (.invokestatic 83, 3) := by decide +kernel
theorem dL_law_33 : decode cL_law 33 = .ok (.istore 4, 2) := by decide +kernel
theorem dL_law_35 : decode cL_law 35 = .ok (.aload_n 1, 1) := by decide +kernel
theorem dL_law_36 : decode cL_law 36 = .ok (.invokestatic 87, 3) := by decide +kernel
theorem dL_law_39 : decode cL_law 39 = .ok (.lstore 5, 2) := by decide +kernel
theorem dL_law_41 : decode cL_law 41 = .ok (.aload_n 1, 1) := by decide +kernel
theorem dL_law_42 : decode cL_law 42 = .ok (.bipush 19, 2) := by decide +kernel
theorem dL_law_44 : decode cL_law 44 = .ok (.invokevirtual 13, 3) := by decide +kernel
theorem dL_law_47 : decode cL_law 47 = .ok (.istore 7, 2) := by decide +kernel
theorem dL_law_49 : decode cL_law 49 = .ok (.aload_n 1, 1) := by decide +kernel
theorem dL_law_50 : decode cL_law 50 = .ok (.iload_n 3, 1) := by decide +kernel
theorem dL_law_51 : decode cL_law 51 = .ok (.iload 4, 2) := by decide +kernel
theorem dL_law_53 : decode cL_law 53 = .ok (.invokestatic 91, 3) := by decide +kernel
theorem dL_law_56 : decode cL_law 56 = .ok (.istore 8, 2) := by decide +kernel
theorem dL_law_58 : decode cL_law 58 = .ok (.iload 8, 2) := by decide +kernel
theorem dL_law_60 : decode cL_law 60 = .ok (.ifCond .ge 26, 3) := by decide +kernel
theorem dL_law_63 : decode cL_law 63 = .ok (.aload_n 1, 1) := by decide +kernel
theorem dL_law_64 : decode cL_law 64 = .ok (.invokestatic 87, 3) := by decide +kernel
theorem dL_law_67 : decode cL_law 67 = .ok (.lload 5, 2) := by decide +kernel
theorem dL_law_69 : decode cL_law 69 = .ok (.lcmp, 1) := by decide +kernel
theorem dL_law_70 : decode cL_law 70 = .ok (.ifCond .ne 14, 3) := by decide +kernel
theorem dL_law_73 : decode cL_law 73 = .ok (.aload_n 1, 1) := by decide +kernel
theorem dL_law_74 : decode cL_law 74 = .ok (.bipush 19, 2) := by decide +kernel
theorem dL_law_76 : decode cL_law 76 = .ok (.invokevirtual 13, 3) := by decide +kernel
theorem dL_law_79 : decode cL_law 79 = .ok (.iload 7, 2) := by decide +kernel
theorem dL_law_81 : decode cL_law 81 = .ok (.if_icmp .eq 5, 3) := by decide +kernel
theorem dL_law_84 : decode cL_law 84 = .ok (.iconst 0, 1) := by decide +kernel
theorem dL_law_85 : decode cL_law 85 = .ok (.ireturn, 1) := by decide +kernel
theorem dL_law_86 : decode cL_law 86 = .ok (.iload 8, 2) := by decide +kernel
theorem dL_law_88 : decode cL_law 88 = .ok (.ifCond .lt 74, 3) := by decide +kernel
theorem dL_law_91 : decode cL_law 91 = .ok (.iload_n 3, 1) := by decide +kernel
theorem dL_law_92 : decode cL_law 92 = .ok (.iconst 4, 1) := by decide +kernel
theorem dL_law_93 : decode cL_law 93 = .ok (.invokestatic 47, 3) := by decide +kernel
theorem dL_law_96 : decode cL_law 96 = .ok (.ifCond .ne 66, 3) := by decide +kernel
theorem dL_law_99 : decode cL_law 99 = .ok (.aload_n 1, 1) := by decide +kernel
theorem dL_law_100 : decode cL_law 100 = .ok (.invokestatic 87, 3) := by decide +kernel
theorem dL_law_103 : decode cL_law 103 = .ok (.lstore 9, 2) := by decide +kernel
theorem dL_law_105 : decode cL_law 105 = .ok (.aload_n 1, 1) := by decide +kernel
theorem dL_law_106 : decode cL_law 106 = .ok (.invokevirtual 95, 3) := by decide +kernel
theorem dL_law_109 : decode cL_law 109 = .ok (.istore 11, 2) := by decide +kernel
theorem dL_law_111 : decode cL_law 111 = .ok (.aload_n 1, 1) := by decide +kernel
theorem dL_law_112 : decode cL_law 112 = .ok (.invokestatic 87, 3) := by decide +kernel
theorem dL_law_115 : decode cL_law 115 = .ok (.lload 5, 2) := by decide +kernel
theorem dL_law_117 : decode cL_law 117 = .ok (.lcmp, 1) := by decide +kernel
theorem dL_law_118 : decode cL_law 118 = .ok (.ifCond .ne 42, 3) := by decide +kernel
theorem dL_law_121 : decode cL_law 121 = .ok (.iload 11, 2) := by decide +kernel
theorem dL_law_123 : decode cL_law 123 = .ok (.iload 7, 2) := by decide +kernel
theorem dL_law_125 : decode cL_law 125 = .ok (.iconst 4, 1) := by decide +kernel
theorem dL_law_126 : decode cL_law 126 = .ok (.if_icmp .ne 7, 3) := by decide +kernel
theorem dL_law_129 : decode cL_law 129 = .ok (.iconst 3, 1) := by decide +kernel
theorem dL_law_130 : decode cL_law 130 = .ok (.goto 5, 3) := by decide +kernel
theorem dL_law_133 : decode cL_law 133 = .ok (.iload 7, 2) := by decide +kernel
theorem dL_law_135 : decode cL_law 135 = .ok (.if_icmp .ne 25, 3) := by decide +kernel
theorem dL_law_138 : decode cL_law 138 = .ok (.aload_n 1, 1) := by decide +kernel
theorem dL_law_139 : decode cL_law 139 = .ok (.iload_n 3, 1) := by decide +kernel
theorem dL_law_140 : decode cL_law 140 = .ok (.iload 4, 2) := by decide +kernel
theorem dL_law_142 : decode cL_law 142 = .ok (.invokestatic 91, 3) := by decide +kernel
theorem dL_law_145 : decode cL_law 145 = .ok (.iload 8, 2) := by decide +kernel
theorem dL_law_147 : decode cL_law 147 = .ok (.if_icmp .ne 13, 3) := by decide +kernel
theorem dL_law_150 : decode cL_law 150 = .ok (.aload_n 1, 1) := by decide +kernel
theorem dL_law_151 : decode cL_law 151 = .ok (.invokestatic 87, 3) := by decide +kernel
theorem dL_law_154 : decode cL_law 154 = .ok (.lload 9, 2) := by decide +kernel
theorem dL_law_156 : decode cL_law 156 = .ok (.lcmp, 1) := by decide +kernel
theorem dL_law_157 : decode cL_law 157 = .ok (.ifCond .eq 5, 3) := by decide +kernel
theorem dL_law_160 : decode cL_law 160 = .ok (.iconst 0, 1) := by decide +kernel
theorem dL_law_161 : decode cL_law 161 = .ok (.ireturn, 1) := by decide +kernel
theorem dL_law_162 : decode cL_law 162 = .ok (.aload_n 1, 1) := by decide +kernel
theorem dL_law_163 : decode cL_law 163 = .ok (.invokestatic 98, 3) := by decide +kernel
theorem dL_law_166 : decode cL_law 166 = .ok (.ifCond .ne 5, 3) := by decide +kernel
theorem dL_law_169 : decode cL_law 169 = .ok (.iconst 0, 1) := by decide +kernel
theorem dL_law_170 : decode cL_law 170 = .ok (.ireturn, 1) := by decide +kernel
theorem dL_law_171 : decode cL_law 171 = .ok (.iinc 2 1, 3) := by decide +kernel
theorem dL_law_174 : decode cL_law 174 = .ok (.goto (-164), 3) := by decide +kernel
theorem dL_law_177 : decode cL_law 177 = .ok (.iconst 1, 1) := by decide +kernel
theorem dL_law_178 : decode cL_law 178 = .ok (.ireturn, 1) := by decide +kernel
