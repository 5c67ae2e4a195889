/-! Printed by wip/whole/print_names.py: decode rows -/
theorem gd_M_astray_0 : decode F_M_astray.2.1 0 = .ok (.aload_n 0, 1) := by decide +kernel
theorem gd_M_astray_1 : decode F_M_astray.2.1 1 = .ok (.iconst 0, 1) := by decide +kernel
theorem gd_M_astray_2 : decode F_M_astray.2.1 2 = .ok (.putfield 100, 3) := by decide +kernel
theorem gd_M_astray_5 : decode F_M_astray.2.1 5 = .ok (.iconst 0, 1) := by decide +kernel
theorem gd_M_astray_6 : decode F_M_astray.2.1 6 = .ok (.ireturn, 1) := by decide +kernel
theorem gd_M_best_0 : decode F_M_best.2.1 0 = .ok (.iconst 0, 1) := by decide +kernel
theorem gd_M_best_1 : decode F_M_best.2.1 1 = .ok (.istore_n 2, 1) := by decide +kernel
theorem gd_M_best_2 : decode F_M_best.2.1 2 = .ok (.iconst 1, 1) := by decide +kernel
theorem gd_M_best_3 : decode F_M_best.2.1 3 = .ok (.istore_n 3, 1) := by decide +kernel
theorem gd_M_best_4 : decode F_M_best.2.1 4 = .ok (.iload_n 3, 1) := by decide +kernel
theorem gd_M_best_5 : decode F_M_best.2.1 5 = .ok (.bipush 6, 2) := by decide +kernel
theorem gd_M_best_7 : decode F_M_best.2.1 7 = .ok (.if_icmp .ge 95, 3) := by decide +kernel
theorem gd_M_best_10 : decode F_M_best.2.1 10 = .ok (.iload_n 1, 1) := by decide +kernel
theorem gd_M_best_11 : decode F_M_best.2.1 11 = .ok (.iconst 2, 1) := by decide +kernel
theorem gd_M_best_12 : decode F_M_best.2.1 12 = .ok (.if_icmp .ne 12, 3) := by decide +kernel
theorem gd_M_best_15 : decode F_M_best.2.1 15 = .ok (.aload_n 0, 1) := by decide +kernel
theorem gd_M_best_16 : decode F_M_best.2.1 16 = .ok (.getfield 94, 3) := by decide +kernel
theorem gd_M_best_19 : decode F_M_best.2.1 19 = .ok (.iload_n 3, 1) := by decide +kernel
theorem gd_M_best_20 : decode F_M_best.2.1 20 = .ok (.laload, 1) := by decide +kernel
theorem gd_M_best_21 : decode F_M_best.2.1 21 = .ok (.goto 23, 3) := by decide +kernel
theorem gd_M_best_24 : decode F_M_best.2.1 24 = .ok (.aload_n 0, 1) := by decide +kernel
theorem gd_M_best_25 : decode F_M_best.2.1 25 = .ok (.getfield 90, 3) := by decide +kernel
theorem gd_M_best_28 : decode F_M_best.2.1 28 = .ok (.iload_n 3, 1) := by decide +kernel
theorem gd_M_best_29 : decode F_M_best.2.1 29 = .ok (.laload, 1) := by decide +kernel
theorem gd_M_best_30 : decode F_M_best.2.1 30 = .ok (.lconst 1, 1) := by decide +kernel
theorem gd_M_best_31 : decode F_M_best.2.1 31 = .ok (.iload_n 1, 1) := by decide +kernel
theorem gd_M_best_32 : decode F_M_best.2.1 32 = .ok (.iconst 1, 1) := by decide +kernel
theorem gd_M_best_33 : decode F_M_best.2.1 33 = .ok (.iadd, 1) := by decide +kernel
theorem gd_M_best_34 : decode F_M_best.2.1 34 = .ok (.aload_n 0, 1) := by decide +kernel
theorem gd_M_best_35 : decode F_M_best.2.1 35 = .ok (.getfield 97, 3) := by decide +kernel
theorem gd_M_best_38 : decode F_M_best.2.1 38 = .ok (.iload_n 2, 1) := by decide +kernel
theorem gd_M_best_39 : decode F_M_best.2.1 39 = .ok (.iaload, 1) := by decide +kernel
theorem gd_M_best_40 : decode F_M_best.2.1 40 = .ok (.imul, 1) := by decide +kernel
theorem gd_M_best_41 : decode F_M_best.2.1 41 = .ok (.i2l, 1) := by decide +kernel
theorem gd_M_best_42 : decode F_M_best.2.1 42 = .ok (.ladd, 1) := by decide +kernel
theorem gd_M_best_43 : decode F_M_best.2.1 43 = .ok (.lmul, 1) := by decide +kernel
theorem gd_M_best_44 : decode F_M_best.2.1 44 = .ok (.lstore 4, 2) := by decide +kernel
theorem gd_M_best_46 : decode F_M_best.2.1 46 = .ok (.iload_n 1, 1) := by decide +kernel
theorem gd_M_best_47 : decode F_M_best.2.1 47 = .ok (.iconst 2, 1) := by decide +kernel
theorem gd_M_best_48 : decode F_M_best.2.1 48 = .ok (.if_icmp .ne 12, 3) := by decide +kernel
theorem gd_M_best_51 : decode F_M_best.2.1 51 = .ok (.aload_n 0, 1) := by decide +kernel
theorem gd_M_best_52 : decode F_M_best.2.1 52 = .ok (.getfield 94, 3) := by decide +kernel
theorem gd_M_best_55 : decode F_M_best.2.1 55 = .ok (.iload_n 2, 1) := by decide +kernel
theorem gd_M_best_56 : decode F_M_best.2.1 56 = .ok (.laload, 1) := by decide +kernel
theorem gd_M_best_57 : decode F_M_best.2.1 57 = .ok (.goto 23, 3) := by decide +kernel
theorem gd_M_best_60 : decode F_M_best.2.1 60 = .ok (.aload_n 0, 1) := by decide +kernel
theorem gd_M_best_61 : decode F_M_best.2.1 61 = .ok (.getfield 90, 3) := by decide +kernel
theorem gd_M_best_64 : decode F_M_best.2.1 64 = .ok (.iload_n 2, 1) := by decide +kernel
theorem gd_M_best_65 : decode F_M_best.2.1 65 = .ok (.laload, 1) := by decide +kernel
theorem gd_M_best_66 : decode F_M_best.2.1 66 = .ok (.lconst 1, 1) := by decide +kernel
theorem gd_M_best_67 : decode F_M_best.2.1 67 = .ok (.iload_n 1, 1) := by decide +kernel
theorem gd_M_best_68 : decode F_M_best.2.1 68 = .ok (.iconst 1, 1) := by decide +kernel
theorem gd_M_best_69 : decode F_M_best.2.1 69 = .ok (.iadd, 1) := by decide +kernel
theorem gd_M_best_70 : decode F_M_best.2.1 70 = .ok (.aload_n 0, 1) := by decide +kernel
theorem gd_M_best_71 : decode F_M_best.2.1 71 = .ok (.getfield 97, 3) := by decide +kernel
theorem gd_M_best_74 : decode F_M_best.2.1 74 = .ok (.iload_n 3, 1) := by decide +kernel
theorem gd_M_best_75 : decode F_M_best.2.1 75 = .ok (.iaload, 1) := by decide +kernel
theorem gd_M_best_76 : decode F_M_best.2.1 76 = .ok (.imul, 1) := by decide +kernel
theorem gd_M_best_77 : decode F_M_best.2.1 77 = .ok (.i2l, 1) := by decide +kernel
theorem gd_M_best_78 : decode F_M_best.2.1 78 = .ok (.ladd, 1) := by decide +kernel
theorem gd_M_best_79 : decode F_M_best.2.1 79 = .ok (.lmul, 1) := by decide +kernel
theorem gd_M_best_80 : decode F_M_best.2.1 80 = .ok (.lstore 6, 2) := by decide +kernel
theorem gd_M_best_82 : decode F_M_best.2.1 82 = .ok (.lload 4, 2) := by decide +kernel
theorem gd_M_best_84 : decode F_M_best.2.1 84 = .ok (.lload 6, 2) := by decide +kernel
theorem gd_M_best_86 : decode F_M_best.2.1 86 = .ok (.lcmp, 1) := by decide +kernel
theorem gd_M_best_87 : decode F_M_best.2.1 87 = .ok (.ifCond .le 7, 3) := by decide +kernel
theorem gd_M_best_90 : decode F_M_best.2.1 90 = .ok (.iload_n 3, 1) := by decide +kernel
theorem gd_M_best_91 : decode F_M_best.2.1 91 = .ok (.goto 4, 3) := by decide +kernel
theorem gd_M_best_94 : decode F_M_best.2.1 94 = .ok (.iload_n 2, 1) := by decide +kernel
theorem gd_M_best_95 : decode F_M_best.2.1 95 = .ok (.istore_n 2, 1) := by decide +kernel
theorem gd_M_best_96 : decode F_M_best.2.1 96 = .ok (.iinc 3 1, 3) := by decide +kernel
theorem gd_M_best_99 : decode F_M_best.2.1 99 = .ok (.goto (-95), 3) := by decide +kernel
theorem gd_M_best_102 : decode F_M_best.2.1 102 = .ok (.iload_n 2, 1) := by decide +kernel
theorem gd_M_best_103 : decode F_M_best.2.1 103 = .ok (.ireturn, 1) := by decide +kernel
theorem gd_M_childrenOf_0 : decode F_M_childrenOf.2.1 0 = .ok (.iconst 0, 1) := by decide +kernel
theorem gd_M_childrenOf_1 : decode F_M_childrenOf.2.1 1 = .ok (.istore_n 2, 1) := by decide +kernel
theorem gd_M_childrenOf_2 : decode F_M_childrenOf.2.1 2 = .ok (.iconst 0, 1) := by decide +kernel
theorem gd_M_childrenOf_3 : decode F_M_childrenOf.2.1 3 = .ok (.istore_n 3, 1) := by decide +kernel
theorem gd_M_childrenOf_4 : decode F_M_childrenOf.2.1 4 = .ok (.iload_n 3, 1) := by decide +kernel
theorem gd_M_childrenOf_5 : decode F_M_childrenOf.2.1 5 = .ok (.bipush 12, 2) := by decide +kernel
theorem gd_M_childrenOf_7 : decode F_M_childrenOf.2.1 7 = .ok (.if_icmp .ge 27, 3) := by decide +kernel
theorem gd_M_childrenOf_10 : decode F_M_childrenOf.2.1 10 = .ok (.iload_n 2, 1) := by decide +kernel
theorem gd_M_childrenOf_11 : decode F_M_childrenOf.2.1 11 = .ok (.aload_n 0, 1) := by decide +kernel
theorem gd_M_childrenOf_12 : decode F_M_childrenOf.2.1 12 = .ok (.getfield 38, 3) := by decide +kernel
theorem gd_M_childrenOf_15 : decode F_M_childrenOf.2.1 15 = .ok (.iload_n 3, 1) := by decide +kernel
theorem gd_M_childrenOf_16 : decode F_M_childrenOf.2.1 16 = .ok (.iaload, 1) := by decide +kernel
theorem gd_M_childrenOf_17 : decode F_M_childrenOf.2.1 17 = .ok (.iload_n 1, 1) := by decide +kernel
theorem gd_M_childrenOf_18 : decode F_M_childrenOf.2.1 18 = .ok (.if_icmp .ne 7, 3) := by decide +kernel
theorem gd_M_childrenOf_21 : decode F_M_childrenOf.2.1 21 = .ok (.iconst 1, 1) := by decide +kernel
theorem gd_M_childrenOf_22 : decode F_M_childrenOf.2.1 22 = .ok (.goto 4, 3) := by decide +kernel
theorem gd_M_childrenOf_25 : decode F_M_childrenOf.2.1 25 = .ok (.iconst 0, 1) := by decide +kernel
theorem gd_M_childrenOf_26 : decode F_M_childrenOf.2.1 26 = .ok (.iadd, 1) := by decide +kernel
theorem gd_M_childrenOf_27 : decode F_M_childrenOf.2.1 27 = .ok (.istore_n 2, 1) := by decide +kernel
theorem gd_M_childrenOf_28 : decode F_M_childrenOf.2.1 28 = .ok (.iinc 3 1, 3) := by decide +kernel
theorem gd_M_childrenOf_31 : decode F_M_childrenOf.2.1 31 = .ok (.goto (-27), 3) := by decide +kernel
theorem gd_M_childrenOf_34 : decode F_M_childrenOf.2.1 34 = .ok (.iload_n 2, 1) := by decide +kernel
theorem gd_M_childrenOf_35 : decode F_M_childrenOf.2.1 35 = .ok (.ireturn, 1) := by decide +kernel
theorem gd_M_copyLetter_0 : decode F_M_copyLetter.2.1 0 = .ok (.aload_n 0, 1) := by decide +kernel
theorem gd_M_copyLetter_1 : decode F_M_copyLetter.2.1 1 = .ok (.getfield 75, 3) := by decide +kernel
theorem gd_M_copyLetter_4 : decode F_M_copyLetter.2.1 4 = .ok (.iload_n 2, 1) := by decide +kernel
theorem gd_M_copyLetter_5 : decode F_M_copyLetter.2.1 5 = .ok (.aload_n 0, 1) := by decide +kernel
theorem gd_M_copyLetter_6 : decode F_M_copyLetter.2.1 6 = .ok (.getfield 75, 3) := by decide +kernel
theorem gd_M_copyLetter_9 : decode F_M_copyLetter.2.1 9 = .ok (.iload_n 1, 1) := by decide +kernel
theorem gd_M_copyLetter_10 : decode F_M_copyLetter.2.1 10 = .ok (.iaload, 1) := by decide +kernel
theorem gd_M_copyLetter_11 : decode F_M_copyLetter.2.1 11 = .ok (.iastore, 1) := by decide +kernel
theorem gd_M_copyLetter_12 : decode F_M_copyLetter.2.1 12 = .ok (.aload_n 0, 1) := by decide +kernel
theorem gd_M_copyLetter_13 : decode F_M_copyLetter.2.1 13 = .ok (.getfield 78, 3) := by decide +kernel
theorem gd_M_copyLetter_16 : decode F_M_copyLetter.2.1 16 = .ok (.iload_n 2, 1) := by decide +kernel
theorem gd_M_copyLetter_17 : decode F_M_copyLetter.2.1 17 = .ok (.aload_n 0, 1) := by decide +kernel
theorem gd_M_copyLetter_18 : decode F_M_copyLetter.2.1 18 = .ok (.getfield 78, 3) := by decide +kernel
theorem gd_M_copyLetter_21 : decode F_M_copyLetter.2.1 21 = .ok (.iload_n 1, 1) := by decide +kernel
theorem gd_M_copyLetter_22 : decode F_M_copyLetter.2.1 22 = .ok (.iaload, 1) := by decide +kernel
theorem gd_M_copyLetter_23 : decode F_M_copyLetter.2.1 23 = .ok (.iastore, 1) := by decide +kernel
theorem gd_M_copyLetter_24 : decode F_M_copyLetter.2.1 24 = .ok (.aload_n 0, 1) := by decide +kernel
theorem gd_M_copyLetter_25 : decode F_M_copyLetter.2.1 25 = .ok (.getfield 81, 3) := by decide +kernel
theorem gd_M_copyLetter_28 : decode F_M_copyLetter.2.1 28 = .ok (.iload_n 2, 1) := by decide +kernel
theorem gd_M_copyLetter_29 : decode F_M_copyLetter.2.1 29 = .ok (.aload_n 0, 1) := by decide +kernel
theorem gd_M_copyLetter_30 : decode F_M_copyLetter.2.1 30 = .ok (.getfield 81, 3) := by decide +kernel
theorem gd_M_copyLetter_33 : decode F_M_copyLetter.2.1 33 = .ok (.iload_n 1, 1) := by decide +kernel
theorem gd_M_copyLetter_34 : decode F_M_copyLetter.2.1 34 = .ok (.iaload, 1) := by decide +kernel
theorem gd_M_copyLetter_35 : decode F_M_copyLetter.2.1 35 = .ok (.iastore, 1) := by decide +kernel
theorem gd_M_copyLetter_36 : decode F_M_copyLetter.2.1 36 = .ok (.aload_n 0, 1) := by decide +kernel
theorem gd_M_copyLetter_37 : decode F_M_copyLetter.2.1 37 = .ok (.getfield 84, 3) := by decide +kernel
theorem gd_M_copyLetter_40 : decode F_M_copyLetter.2.1 40 = .ok (.iload_n 2, 1) := by decide +kernel
theorem gd_M_copyLetter_41 : decode F_M_copyLetter.2.1 41 = .ok (.aload_n 0, 1) := by decide +kernel
theorem gd_M_copyLetter_42 : decode F_M_copyLetter.2.1 42 = .ok (.getfield 84, 3) := by decide +kernel
theorem gd_M_copyLetter_45 : decode F_M_copyLetter.2.1 45 = .ok (.iload_n 1, 1) := by decide +kernel
theorem gd_M_copyLetter_46 : decode F_M_copyLetter.2.1 46 = .ok (.iaload, 1) := by decide +kernel
theorem gd_M_copyLetter_47 : decode F_M_copyLetter.2.1 47 = .ok (.iastore, 1) := by decide +kernel
theorem gd_M_copyLetter_48 : decode F_M_copyLetter.2.1 48 = .ok (.aload_n 0, 1) := by decide +kernel
theorem gd_M_copyLetter_49 : decode F_M_copyLetter.2.1 49 = .ok (.getfield 87, 3) := by decide +kernel
theorem gd_M_copyLetter_52 : decode F_M_copyLetter.2.1 52 = .ok (.iload_n 2, 1) := by decide +kernel
theorem gd_M_copyLetter_53 : decode F_M_copyLetter.2.1 53 = .ok (.aload_n 0, 1) := by decide +kernel
theorem gd_M_copyLetter_54 : decode F_M_copyLetter.2.1 54 = .ok (.getfield 87, 3) := by decide +kernel
theorem gd_M_copyLetter_57 : decode F_M_copyLetter.2.1 57 = .ok (.iload_n 1, 1) := by decide +kernel
theorem gd_M_copyLetter_58 : decode F_M_copyLetter.2.1 58 = .ok (.iaload, 1) := by decide +kernel
theorem gd_M_copyLetter_59 : decode F_M_copyLetter.2.1 59 = .ok (.iastore, 1) := by decide +kernel
theorem gd_M_copyLetter_60 : decode F_M_copyLetter.2.1 60 = .ok (.return_, 1) := by decide +kernel
theorem gd_M_deliver_0 : decode F_M_deliver.2.1 0 = .ok (.aload_n 0, 1) := by decide +kernel
theorem gd_M_deliver_1 : decode F_M_deliver.2.1 1 = .ok (.aload_n 0, 1) := by decide +kernel
theorem gd_M_deliver_2 : decode F_M_deliver.2.1 2 = .ok (.iload_n 1, 1) := by decide +kernel
theorem gd_M_deliver_3 : decode F_M_deliver.2.1 3 = .ok (.invokevirtual 176, 3) := by decide +kernel
theorem gd_M_deliver_6 : decode F_M_deliver.2.1 6 = .ok (.ifCond .eq 7, 3) := by decide +kernel
theorem gd_M_deliver_9 : decode F_M_deliver.2.1 9 = .ok (.iconst 0, 1) := by decide +kernel
theorem gd_M_deliver_10 : decode F_M_deliver.2.1 10 = .ok (.goto 4, 3) := by decide +kernel
theorem gd_M_deliver_13 : decode F_M_deliver.2.1 13 = .ok (.iconst 1, 1) := by decide +kernel
theorem gd_M_deliver_14 : decode F_M_deliver.2.1 14 = .ok (.putfield 100, 3) := by decide +kernel
theorem gd_M_deliver_17 : decode F_M_deliver.2.1 17 = .ok (.aload_n 0, 1) := by decide +kernel
theorem gd_M_deliver_18 : decode F_M_deliver.2.1 18 = .ok (.getfield 100, 3) := by decide +kernel
theorem gd_M_deliver_21 : decode F_M_deliver.2.1 21 = .ok (.ifCond .le 5, 3) := by decide +kernel
theorem gd_M_deliver_24 : decode F_M_deliver.2.1 24 = .ok (.iconst 0, 1) := by decide +kernel
theorem gd_M_deliver_25 : decode F_M_deliver.2.1 25 = .ok (.ireturn, 1) := by decide +kernel
theorem gd_M_deliver_26 : decode F_M_deliver.2.1 26 = .ok (.aload_n 0, 1) := by decide +kernel
theorem gd_M_deliver_27 : decode F_M_deliver.2.1 27 = .ok (.iload_n 1, 1) := by decide +kernel
theorem gd_M_deliver_28 : decode F_M_deliver.2.1 28 = .ok (.invokevirtual 179, 3) := by decide +kernel
theorem gd_M_deliver_31 : decode F_M_deliver.2.1 31 = .ok (.aload_n 0, 1) := by decide +kernel
theorem gd_M_deliver_32 : decode F_M_deliver.2.1 32 = .ok (.getfield 75, 3) := by decide +kernel
theorem gd_M_deliver_35 : decode F_M_deliver.2.1 35 = .ok (.sipush 500, 3) := by decide +kernel
theorem gd_M_deliver_38 : decode F_M_deliver.2.1 38 = .ok (.iaload, 1) := by decide +kernel
theorem gd_M_deliver_39 : decode F_M_deliver.2.1 39 = .ok (.istore_n 2, 1) := by decide +kernel
theorem gd_M_deliver_40 : decode F_M_deliver.2.1 40 = .ok (.aload_n 0, 1) := by decide +kernel
theorem gd_M_deliver_41 : decode F_M_deliver.2.1 41 = .ok (.getfield 38, 3) := by decide +kernel
theorem gd_M_deliver_44 : decode F_M_deliver.2.1 44 = .ok (.iload_n 2, 1) := by decide +kernel
theorem gd_M_deliver_45 : decode F_M_deliver.2.1 45 = .ok (.iaload, 1) := by decide +kernel
theorem gd_M_deliver_46 : decode F_M_deliver.2.1 46 = .ok (.ifCond .lt 43, 3) := by decide +kernel
theorem gd_M_deliver_49 : decode F_M_deliver.2.1 49 = .ok (.aload_n 0, 1) := by decide +kernel
theorem gd_M_deliver_50 : decode F_M_deliver.2.1 50 = .ok (.getfield 41, 3) := by decide +kernel
theorem gd_M_deliver_53 : decode F_M_deliver.2.1 53 = .ok (.iload_n 2, 1) := by decide +kernel
theorem gd_M_deliver_54 : decode F_M_deliver.2.1 54 = .ok (.iaload, 1) := by decide +kernel
theorem gd_M_deliver_55 : decode F_M_deliver.2.1 55 = .ok (.aload_n 0, 1) := by decide +kernel
theorem gd_M_deliver_56 : decode F_M_deliver.2.1 56 = .ok (.getfield 78, 3) := by decide +kernel
theorem gd_M_deliver_59 : decode F_M_deliver.2.1 59 = .ok (.sipush 500, 3) := by decide +kernel
theorem gd_M_deliver_62 : decode F_M_deliver.2.1 62 = .ok (.iaload, 1) := by decide +kernel
theorem gd_M_deliver_63 : decode F_M_deliver.2.1 63 = .ok (.if_icmp .ne 26, 3) := by decide +kernel
theorem gd_M_deliver_66 : decode F_M_deliver.2.1 66 = .ok (.aload_n 0, 1) := by decide +kernel
theorem gd_M_deliver_67 : decode F_M_deliver.2.1 67 = .ok (.getfield 81, 3) := by decide +kernel
theorem gd_M_deliver_70 : decode F_M_deliver.2.1 70 = .ok (.sipush 500, 3) := by decide +kernel
theorem gd_M_deliver_73 : decode F_M_deliver.2.1 73 = .ok (.iaload, 1) := by decide +kernel
theorem gd_M_deliver_74 : decode F_M_deliver.2.1 74 = .ok (.aload_n 0, 1) := by decide +kernel
theorem gd_M_deliver_75 : decode F_M_deliver.2.1 75 = .ok (.getfield 63, 3) := by decide +kernel
theorem gd_M_deliver_78 : decode F_M_deliver.2.1 78 = .ok (.iload_n 2, 1) := by decide +kernel
theorem gd_M_deliver_79 : decode F_M_deliver.2.1 79 = .ok (.iaload, 1) := by decide +kernel
theorem gd_M_deliver_80 : decode F_M_deliver.2.1 80 = .ok (.iconst 1, 1) := by decide +kernel
theorem gd_M_deliver_81 : decode F_M_deliver.2.1 81 = .ok (.iadd, 1) := by decide +kernel
theorem gd_M_deliver_82 : decode F_M_deliver.2.1 82 = .ok (.if_icmp .ne 7, 3) := by decide +kernel
theorem gd_M_deliver_85 : decode F_M_deliver.2.1 85 = .ok (.iconst 1, 1) := by decide +kernel
theorem gd_M_deliver_86 : decode F_M_deliver.2.1 86 = .ok (.goto 4, 3) := by decide +kernel
theorem gd_M_deliver_89 : decode F_M_deliver.2.1 89 = .ok (.iconst 0, 1) := by decide +kernel
theorem gd_M_deliver_90 : decode F_M_deliver.2.1 90 = .ok (.istore_n 3, 1) := by decide +kernel
theorem gd_M_deliver_91 : decode F_M_deliver.2.1 91 = .ok (.iload_n 3, 1) := by decide +kernel
theorem gd_M_deliver_92 : decode F_M_deliver.2.1 92 = .ok (.ifCond .eq 40, 3) := by decide +kernel
theorem gd_M_deliver_95 : decode F_M_deliver.2.1 95 = .ok (.aload_n 0, 1) := by decide +kernel
theorem gd_M_deliver_96 : decode F_M_deliver.2.1 96 = .ok (.getfield 63, 3) := by decide +kernel
theorem gd_M_deliver_99 : decode F_M_deliver.2.1 99 = .ok (.iload_n 2, 1) := by decide +kernel
theorem gd_M_deliver_100 : decode F_M_deliver.2.1 100 = .ok (.dup2, 1) := by decide +kernel
theorem gd_M_deliver_101 : decode F_M_deliver.2.1 101 = .ok (.iaload, 1) := by decide +kernel
theorem gd_M_deliver_102 : decode F_M_deliver.2.1 102 = .ok (.iconst 1, 1) := by decide +kernel
theorem gd_M_deliver_103 : decode F_M_deliver.2.1 103 = .ok (.iadd, 1) := by decide +kernel
theorem gd_M_deliver_104 : decode F_M_deliver.2.1 104 = .ok (.iastore, 1) := by decide +kernel
theorem gd_M_deliver_105 : decode F_M_deliver.2.1 105 = .ok (.aload_n 0, 1) := by decide +kernel
theorem gd_M_deliver_106 : decode F_M_deliver.2.1 106 = .ok (.aload_n 0, 1) := by decide +kernel
theorem gd_M_deliver_107 : decode F_M_deliver.2.1 107 = .ok (.getfield 38, 3) := by decide +kernel
theorem gd_M_deliver_110 : decode F_M_deliver.2.1 110 = .ok (.iload_n 2, 1) := by decide +kernel
theorem gd_M_deliver_111 : decode F_M_deliver.2.1 111 = .ok (.iaload, 1) := by decide +kernel
theorem gd_M_deliver_112 : decode F_M_deliver.2.1 112 = .ok (.iload_n 2, 1) := by decide +kernel
theorem gd_M_deliver_113 : decode F_M_deliver.2.1 113 = .ok (.aload_n 0, 1) := by decide +kernel
theorem gd_M_deliver_114 : decode F_M_deliver.2.1 114 = .ok (.getfield 84, 3) := by decide +kernel
theorem gd_M_deliver_117 : decode F_M_deliver.2.1 117 = .ok (.sipush 500, 3) := by decide +kernel
theorem gd_M_deliver_120 : decode F_M_deliver.2.1 120 = .ok (.iaload, 1) := by decide +kernel
theorem gd_M_deliver_121 : decode F_M_deliver.2.1 121 = .ok (.aload_n 0, 1) := by decide +kernel
theorem gd_M_deliver_122 : decode F_M_deliver.2.1 122 = .ok (.getfield 87, 3) := by decide +kernel
theorem gd_M_deliver_125 : decode F_M_deliver.2.1 125 = .ok (.sipush 500, 3) := by decide +kernel
theorem gd_M_deliver_128 : decode F_M_deliver.2.1 128 = .ok (.iaload, 1) := by decide +kernel
theorem gd_M_deliver_129 : decode F_M_deliver.2.1 129 = .ok (.invokevirtual 182, 3) := by decide +kernel
theorem gd_M_deliver_132 : decode F_M_deliver.2.1 132 = .ok (.iload_n 3, 1) := by decide +kernel
theorem gd_M_deliver_133 : decode F_M_deliver.2.1 133 = .ok (.ireturn, 1) := by decide +kernel
theorem gd_M_drop_0 : decode F_M_drop.2.1 0 = .ok (.aload_n 0, 1) := by decide +kernel
theorem gd_M_drop_1 : decode F_M_drop.2.1 1 = .ok (.aload_n 0, 1) := by decide +kernel
theorem gd_M_drop_2 : decode F_M_drop.2.1 2 = .ok (.iload_n 1, 1) := by decide +kernel
theorem gd_M_drop_3 : decode F_M_drop.2.1 3 = .ok (.invokevirtual 176, 3) := by decide +kernel
theorem gd_M_drop_6 : decode F_M_drop.2.1 6 = .ok (.ifCond .eq 7, 3) := by decide +kernel
theorem gd_M_drop_9 : decode F_M_drop.2.1 9 = .ok (.iconst 0, 1) := by decide +kernel
theorem gd_M_drop_10 : decode F_M_drop.2.1 10 = .ok (.goto 4, 3) := by decide +kernel
theorem gd_M_drop_13 : decode F_M_drop.2.1 13 = .ok (.iconst 1, 1) := by decide +kernel
theorem gd_M_drop_14 : decode F_M_drop.2.1 14 = .ok (.putfield 100, 3) := by decide +kernel
theorem gd_M_drop_17 : decode F_M_drop.2.1 17 = .ok (.aload_n 0, 1) := by decide +kernel
theorem gd_M_drop_18 : decode F_M_drop.2.1 18 = .ok (.getfield 100, 3) := by decide +kernel
theorem gd_M_drop_21 : decode F_M_drop.2.1 21 = .ok (.ifCond .le 5, 3) := by decide +kernel
theorem gd_M_drop_24 : decode F_M_drop.2.1 24 = .ok (.iconst 0, 1) := by decide +kernel
theorem gd_M_drop_25 : decode F_M_drop.2.1 25 = .ok (.ireturn, 1) := by decide +kernel
theorem gd_M_drop_26 : decode F_M_drop.2.1 26 = .ok (.aload_n 0, 1) := by decide +kernel
theorem gd_M_drop_27 : decode F_M_drop.2.1 27 = .ok (.iload_n 1, 1) := by decide +kernel
theorem gd_M_drop_28 : decode F_M_drop.2.1 28 = .ok (.invokevirtual 179, 3) := by decide +kernel
theorem gd_M_drop_31 : decode F_M_drop.2.1 31 = .ok (.aload_n 0, 1) := by decide +kernel
theorem gd_M_drop_32 : decode F_M_drop.2.1 32 = .ok (.getfield 112, 3) := by decide +kernel
theorem gd_M_drop_35 : decode F_M_drop.2.1 35 = .ok (.ireturn, 1) := by decide +kernel
theorem gd_M_endHanging_0 : decode F_M_endHanging.2.1 0 = .ok (.aload_n 0, 1) := by decide +kernel
theorem gd_M_endHanging_1 : decode F_M_endHanging.2.1 1 = .ok (.getfield 38, 3) := by decide +kernel
theorem gd_M_endHanging_4 : decode F_M_endHanging.2.1 4 = .ok (.iload_n 1, 1) := by decide +kernel
theorem gd_M_endHanging_5 : decode F_M_endHanging.2.1 5 = .ok (.iconst (-1), 1) := by decide +kernel
theorem gd_M_endHanging_6 : decode F_M_endHanging.2.1 6 = .ok (.iastore, 1) := by decide +kernel
theorem gd_M_endHanging_7 : decode F_M_endHanging.2.1 7 = .ok (.aload_n 0, 1) := by decide +kernel
theorem gd_M_endHanging_8 : decode F_M_endHanging.2.1 8 = .ok (.getfield 53, 3) := by decide +kernel
theorem gd_M_endHanging_11 : decode F_M_endHanging.2.1 11 = .ok (.iload_n 1, 1) := by decide +kernel
theorem gd_M_endHanging_12 : decode F_M_endHanging.2.1 12 = .ok (.iconst 0, 1) := by decide +kernel
theorem gd_M_endHanging_13 : decode F_M_endHanging.2.1 13 = .ok (.iastore, 1) := by decide +kernel
theorem gd_M_endHanging_14 : decode F_M_endHanging.2.1 14 = .ok (.aload_n 0, 1) := by decide +kernel
theorem gd_M_endHanging_15 : decode F_M_endHanging.2.1 15 = .ok (.getfield 63, 3) := by decide +kernel
theorem gd_M_endHanging_18 : decode F_M_endHanging.2.1 18 = .ok (.iload_n 1, 1) := by decide +kernel
theorem gd_M_endHanging_19 : decode F_M_endHanging.2.1 19 = .ok (.iconst 0, 1) := by decide +kernel
theorem gd_M_endHanging_20 : decode F_M_endHanging.2.1 20 = .ok (.iastore, 1) := by decide +kernel
theorem gd_M_endHanging_21 : decode F_M_endHanging.2.1 21 = .ok (.aload_n 0, 1) := by decide +kernel
theorem gd_M_endHanging_22 : decode F_M_endHanging.2.1 22 = .ok (.getfield 66, 3) := by decide +kernel
theorem gd_M_endHanging_25 : decode F_M_endHanging.2.1 25 = .ok (.iload_n 1, 1) := by decide +kernel
theorem gd_M_endHanging_26 : decode F_M_endHanging.2.1 26 = .ok (.iconst 0, 1) := by decide +kernel
theorem gd_M_endHanging_27 : decode F_M_endHanging.2.1 27 = .ok (.iastore, 1) := by decide +kernel
theorem gd_M_endHanging_28 : decode F_M_endHanging.2.1 28 = .ok (.return_, 1) := by decide +kernel
theorem gd_M_fail_0 : decode F_M_fail.2.1 0 = .ok (.aload_n 0, 1) := by decide +kernel
theorem gd_M_fail_1 : decode F_M_fail.2.1 1 = .ok (.iload_n 1, 1) := by decide +kernel
theorem gd_M_fail_2 : decode F_M_fail.2.1 2 = .ok (.invokestatic 150, 3) := by decide +kernel
theorem gd_M_fail_5 : decode F_M_fail.2.1 5 = .ok (.ifCond .ne 7, 3) := by decide +kernel
theorem gd_M_fail_8 : decode F_M_fail.2.1 8 = .ok (.iconst 1, 1) := by decide +kernel
theorem gd_M_fail_9 : decode F_M_fail.2.1 9 = .ok (.goto 30, 3) := by decide +kernel
theorem gd_M_fail_12 : decode F_M_fail.2.1 12 = .ok (.aload_n 0, 1) := by decide +kernel
theorem gd_M_fail_13 : decode F_M_fail.2.1 13 = .ok (.getfield 35, 3) := by decide +kernel
theorem gd_M_fail_16 : decode F_M_fail.2.1 16 = .ok (.iload_n 1, 1) := by decide +kernel
theorem gd_M_fail_17 : decode F_M_fail.2.1 17 = .ok (.baload, 1) := by decide +kernel
theorem gd_M_fail_18 : decode F_M_fail.2.1 18 = .ok (.ifCond .ne 7, 3) := by decide +kernel
theorem gd_M_fail_21 : decode F_M_fail.2.1 21 = .ok (.iconst 2, 1) := by decide +kernel
theorem gd_M_fail_22 : decode F_M_fail.2.1 22 = .ok (.goto 17, 3) := by decide +kernel
theorem gd_M_fail_25 : decode F_M_fail.2.1 25 = .ok (.aload_n 0, 1) := by decide +kernel
theorem gd_M_fail_26 : decode F_M_fail.2.1 26 = .ok (.getfield 169, 3) := by decide +kernel
theorem gd_M_fail_29 : decode F_M_fail.2.1 29 = .ok (.bipush 30, 2) := by decide +kernel
theorem gd_M_fail_31 : decode F_M_fail.2.1 31 = .ok (.if_icmp .ne 7, 3) := by decide +kernel
theorem gd_M_fail_34 : decode F_M_fail.2.1 34 = .ok (.iconst 3, 1) := by decide +kernel
theorem gd_M_fail_35 : decode F_M_fail.2.1 35 = .ok (.goto 4, 3) := by decide +kernel
theorem gd_M_fail_38 : decode F_M_fail.2.1 38 = .ok (.iconst 0, 1) := by decide +kernel
theorem gd_M_fail_39 : decode F_M_fail.2.1 39 = .ok (.putfield 100, 3) := by decide +kernel
theorem gd_M_fail_42 : decode F_M_fail.2.1 42 = .ok (.aload_n 0, 1) := by decide +kernel
theorem gd_M_fail_43 : decode F_M_fail.2.1 43 = .ok (.getfield 100, 3) := by decide +kernel
theorem gd_M_fail_46 : decode F_M_fail.2.1 46 = .ok (.ifCond .le 5, 3) := by decide +kernel
theorem gd_M_fail_49 : decode F_M_fail.2.1 49 = .ok (.iconst 0, 1) := by decide +kernel
theorem gd_M_fail_50 : decode F_M_fail.2.1 50 = .ok (.ireturn, 1) := by decide +kernel
theorem gd_M_fail_51 : decode F_M_fail.2.1 51 = .ok (.aload_n 0, 1) := by decide +kernel
theorem gd_M_fail_52 : decode F_M_fail.2.1 52 = .ok (.dup, 1) := by decide +kernel
theorem gd_M_fail_53 : decode F_M_fail.2.1 53 = .ok (.getfield 169, 3) := by decide +kernel
theorem gd_M_fail_56 : decode F_M_fail.2.1 56 = .ok (.iconst 1, 1) := by decide +kernel
theorem gd_M_fail_57 : decode F_M_fail.2.1 57 = .ok (.iadd, 1) := by decide +kernel
theorem gd_M_fail_58 : decode F_M_fail.2.1 58 = .ok (.putfield 169, 3) := by decide +kernel
theorem gd_M_fail_61 : decode F_M_fail.2.1 61 = .ok (.aload_n 0, 1) := by decide +kernel
theorem gd_M_fail_62 : decode F_M_fail.2.1 62 = .ok (.iload_n 1, 1) := by decide +kernel
theorem gd_M_fail_63 : decode F_M_fail.2.1 63 = .ok (.invokevirtual 172, 3) := by decide +kernel
theorem gd_M_fail_66 : decode F_M_fail.2.1 66 = .ok (.istore_n 2, 1) := by decide +kernel
theorem gd_M_fail_67 : decode F_M_fail.2.1 67 = .ok (.aload_n 0, 1) := by decide +kernel
theorem gd_M_fail_68 : decode F_M_fail.2.1 68 = .ok (.iload_n 1, 1) := by decide +kernel
theorem gd_M_fail_69 : decode F_M_fail.2.1 69 = .ok (.invokevirtual 166, 3) := by decide +kernel
theorem gd_M_fail_72 : decode F_M_fail.2.1 72 = .ok (.aload_n 0, 1) := by decide +kernel
theorem gd_M_fail_73 : decode F_M_fail.2.1 73 = .ok (.getfield 35, 3) := by decide +kernel
theorem gd_M_fail_76 : decode F_M_fail.2.1 76 = .ok (.iload_n 1, 1) := by decide +kernel
theorem gd_M_fail_77 : decode F_M_fail.2.1 77 = .ok (.iconst 0, 1) := by decide +kernel
theorem gd_M_fail_78 : decode F_M_fail.2.1 78 = .ok (.bastore, 1) := by decide +kernel
theorem gd_M_fail_79 : decode F_M_fail.2.1 79 = .ok (.iconst 0, 1) := by decide +kernel
theorem gd_M_fail_80 : decode F_M_fail.2.1 80 = .ok (.istore_n 3, 1) := by decide +kernel
theorem gd_M_fail_81 : decode F_M_fail.2.1 81 = .ok (.iload_n 3, 1) := by decide +kernel
theorem gd_M_fail_82 : decode F_M_fail.2.1 82 = .ok (.bipush 12, 2) := by decide +kernel
theorem gd_M_fail_84 : decode F_M_fail.2.1 84 = .ok (.if_icmp .ge 24, 3) := by decide +kernel
theorem gd_M_fail_87 : decode F_M_fail.2.1 87 = .ok (.aload_n 0, 1) := by decide +kernel
theorem gd_M_fail_88 : decode F_M_fail.2.1 88 = .ok (.getfield 38, 3) := by decide +kernel
theorem gd_M_fail_91 : decode F_M_fail.2.1 91 = .ok (.iload_n 3, 1) := by decide +kernel
theorem gd_M_fail_92 : decode F_M_fail.2.1 92 = .ok (.iaload, 1) := by decide +kernel
theorem gd_M_fail_93 : decode F_M_fail.2.1 93 = .ok (.iload_n 1, 1) := by decide +kernel
theorem gd_M_fail_94 : decode F_M_fail.2.1 94 = .ok (.if_icmp .ne 8, 3) := by decide +kernel
theorem gd_M_fail_97 : decode F_M_fail.2.1 97 = .ok (.aload_n 0, 1) := by decide +kernel
theorem gd_M_fail_98 : decode F_M_fail.2.1 98 = .ok (.iload_n 3, 1) := by decide +kernel
theorem gd_M_fail_99 : decode F_M_fail.2.1 99 = .ok (.invokevirtual 147, 3) := by decide +kernel
theorem gd_M_fail_102 : decode F_M_fail.2.1 102 = .ok (.iinc 3 1, 3) := by decide +kernel
theorem gd_M_fail_105 : decode F_M_fail.2.1 105 = .ok (.goto (-24), 3) := by decide +kernel
theorem gd_M_fail_108 : decode F_M_fail.2.1 108 = .ok (.bipush 40, 2) := by decide +kernel
theorem gd_M_fail_110 : decode F_M_fail.2.1 110 = .ok (.iload_n 1, 1) := by decide +kernel
theorem gd_M_fail_111 : decode F_M_fail.2.1 111 = .ok (.imul, 1) := by decide +kernel
theorem gd_M_fail_112 : decode F_M_fail.2.1 112 = .ok (.istore_n 3, 1) := by decide +kernel
theorem gd_M_fail_113 : decode F_M_fail.2.1 113 = .ok (.iload_n 3, 1) := by decide +kernel
theorem gd_M_fail_114 : decode F_M_fail.2.1 114 = .ok (.bipush 40, 2) := by decide +kernel
theorem gd_M_fail_116 : decode F_M_fail.2.1 116 = .ok (.iload_n 1, 1) := by decide +kernel
theorem gd_M_fail_117 : decode F_M_fail.2.1 117 = .ok (.imul, 1) := by decide +kernel
theorem gd_M_fail_118 : decode F_M_fail.2.1 118 = .ok (.bipush 40, 2) := by decide +kernel
theorem gd_M_fail_120 : decode F_M_fail.2.1 120 = .ok (.iadd, 1) := by decide +kernel
theorem gd_M_fail_121 : decode F_M_fail.2.1 121 = .ok (.if_icmp .ge 30, 3) := by decide +kernel
theorem gd_M_fail_124 : decode F_M_fail.2.1 124 = .ok (.aload_n 0, 1) := by decide +kernel
theorem gd_M_fail_125 : decode F_M_fail.2.1 125 = .ok (.getfield 44, 3) := by decide +kernel
theorem gd_M_fail_128 : decode F_M_fail.2.1 128 = .ok (.iload_n 3, 1) := by decide +kernel
theorem gd_M_fail_129 : decode F_M_fail.2.1 129 = .ok (.iconst 0, 1) := by decide +kernel
theorem gd_M_fail_130 : decode F_M_fail.2.1 130 = .ok (.iastore, 1) := by decide +kernel
theorem gd_M_fail_131 : decode F_M_fail.2.1 131 = .ok (.aload_n 0, 1) := by decide +kernel
theorem gd_M_fail_132 : decode F_M_fail.2.1 132 = .ok (.getfield 47, 3) := by decide +kernel
theorem gd_M_fail_135 : decode F_M_fail.2.1 135 = .ok (.iload_n 3, 1) := by decide +kernel
theorem gd_M_fail_136 : decode F_M_fail.2.1 136 = .ok (.iconst (-1), 1) := by decide +kernel
theorem gd_M_fail_137 : decode F_M_fail.2.1 137 = .ok (.iastore, 1) := by decide +kernel
theorem gd_M_fail_138 : decode F_M_fail.2.1 138 = .ok (.aload_n 0, 1) := by decide +kernel
theorem gd_M_fail_139 : decode F_M_fail.2.1 139 = .ok (.getfield 50, 3) := by decide +kernel
theorem gd_M_fail_142 : decode F_M_fail.2.1 142 = .ok (.iload_n 3, 1) := by decide +kernel
theorem gd_M_fail_143 : decode F_M_fail.2.1 143 = .ok (.iconst 0, 1) := by decide +kernel
theorem gd_M_fail_144 : decode F_M_fail.2.1 144 = .ok (.bastore, 1) := by decide +kernel
theorem gd_M_fail_145 : decode F_M_fail.2.1 145 = .ok (.iinc 3 1, 3) := by decide +kernel
theorem gd_M_fail_148 : decode F_M_fail.2.1 148 = .ok (.goto (-35), 3) := by decide +kernel
theorem gd_M_fail_151 : decode F_M_fail.2.1 151 = .ok (.iload_n 2, 1) := by decide +kernel
theorem gd_M_fail_152 : decode F_M_fail.2.1 152 = .ok (.ireturn, 1) := by decide +kernel
theorem gd_M_hang_0 : decode F_M_hang.2.1 0 = .ok (.aload_n 0, 1) := by decide +kernel
theorem gd_M_hang_1 : decode F_M_hang.2.1 1 = .ok (.iload_n 1, 1) := by decide +kernel
theorem gd_M_hang_2 : decode F_M_hang.2.1 2 = .ok (.invokestatic 150, 3) := by decide +kernel
theorem gd_M_hang_5 : decode F_M_hang.2.1 5 = .ok (.ifCond .eq 10, 3) := by decide +kernel
theorem gd_M_hang_8 : decode F_M_hang.2.1 8 = .ok (.iload_n 2, 1) := by decide +kernel
theorem gd_M_hang_9 : decode F_M_hang.2.1 9 = .ok (.invokestatic 150, 3) := by decide +kernel
theorem gd_M_hang_12 : decode F_M_hang.2.1 12 = .ok (.ifCond .ne 7, 3) := by decide +kernel
theorem gd_M_hang_15 : decode F_M_hang.2.1 15 = .ok (.iconst 1, 1) := by decide +kernel
theorem gd_M_hang_16 : decode F_M_hang.2.1 16 = .ok (.goto 17, 3) := by decide +kernel
theorem gd_M_hang_19 : decode F_M_hang.2.1 19 = .ok (.iload_n 1, 1) := by decide +kernel
theorem gd_M_hang_20 : decode F_M_hang.2.1 20 = .ok (.ifCond .eq 8, 3) := by decide +kernel
theorem gd_M_hang_23 : decode F_M_hang.2.1 23 = .ok (.iload_n 1, 1) := by decide +kernel
theorem gd_M_hang_24 : decode F_M_hang.2.1 24 = .ok (.iload_n 2, 1) := by decide +kernel
theorem gd_M_hang_25 : decode F_M_hang.2.1 25 = .ok (.if_icmp .ne 7, 3) := by decide +kernel
theorem gd_M_hang_28 : decode F_M_hang.2.1 28 = .ok (.iconst 2, 1) := by decide +kernel
theorem gd_M_hang_29 : decode F_M_hang.2.1 29 = .ok (.goto 4, 3) := by decide +kernel
theorem gd_M_hang_32 : decode F_M_hang.2.1 32 = .ok (.iconst 0, 1) := by decide +kernel
theorem gd_M_hang_33 : decode F_M_hang.2.1 33 = .ok (.putfield 100, 3) := by decide +kernel
theorem gd_M_hang_36 : decode F_M_hang.2.1 36 = .ok (.aload_n 0, 1) := by decide +kernel
theorem gd_M_hang_37 : decode F_M_hang.2.1 37 = .ok (.getfield 100, 3) := by decide +kernel
theorem gd_M_hang_40 : decode F_M_hang.2.1 40 = .ok (.ifCond .ne 52, 3) := by decide +kernel
theorem gd_M_hang_43 : decode F_M_hang.2.1 43 = .ok (.aload_n 0, 1) := by decide +kernel
theorem gd_M_hang_44 : decode F_M_hang.2.1 44 = .ok (.aload_n 0, 1) := by decide +kernel
theorem gd_M_hang_45 : decode F_M_hang.2.1 45 = .ok (.getfield 35, 3) := by decide +kernel
theorem gd_M_hang_48 : decode F_M_hang.2.1 48 = .ok (.iload_n 1, 1) := by decide +kernel
theorem gd_M_hang_49 : decode F_M_hang.2.1 49 = .ok (.baload, 1) := by decide +kernel
theorem gd_M_hang_50 : decode F_M_hang.2.1 50 = .ok (.ifCond .eq 21, 3) := by decide +kernel
theorem gd_M_hang_53 : decode F_M_hang.2.1 53 = .ok (.aload_n 0, 1) := by decide +kernel
theorem gd_M_hang_54 : decode F_M_hang.2.1 54 = .ok (.getfield 35, 3) := by decide +kernel
theorem gd_M_hang_57 : decode F_M_hang.2.1 57 = .ok (.iload_n 2, 1) := by decide +kernel
theorem gd_M_hang_58 : decode F_M_hang.2.1 58 = .ok (.baload, 1) := by decide +kernel
theorem gd_M_hang_59 : decode F_M_hang.2.1 59 = .ok (.ifCond .eq 12, 3) := by decide +kernel
theorem gd_M_hang_62 : decode F_M_hang.2.1 62 = .ok (.aload_n 0, 1) := by decide +kernel
theorem gd_M_hang_63 : decode F_M_hang.2.1 63 = .ok (.iload_n 2, 1) := by decide +kernel
theorem gd_M_hang_64 : decode F_M_hang.2.1 64 = .ok (.iload_n 1, 1) := by decide +kernel
theorem gd_M_hang_65 : decode F_M_hang.2.1 65 = .ok (.invokevirtual 160, 3) := by decide +kernel
theorem gd_M_hang_68 : decode F_M_hang.2.1 68 = .ok (.ifCond .eq 7, 3) := by decide +kernel
theorem gd_M_hang_71 : decode F_M_hang.2.1 71 = .ok (.iconst 3, 1) := by decide +kernel
theorem gd_M_hang_72 : decode F_M_hang.2.1 72 = .ok (.goto 17, 3) := by decide +kernel
theorem gd_M_hang_75 : decode F_M_hang.2.1 75 = .ok (.aload_n 0, 1) := by decide +kernel
theorem gd_M_hang_76 : decode F_M_hang.2.1 76 = .ok (.getfield 163, 3) := by decide +kernel
theorem gd_M_hang_79 : decode F_M_hang.2.1 79 = .ok (.bipush 60, 2) := by decide +kernel
theorem gd_M_hang_81 : decode F_M_hang.2.1 81 = .ok (.if_icmp .ne 7, 3) := by decide +kernel
theorem gd_M_hang_84 : decode F_M_hang.2.1 84 = .ok (.iconst 4, 1) := by decide +kernel
theorem gd_M_hang_85 : decode F_M_hang.2.1 85 = .ok (.goto 4, 3) := by decide +kernel
theorem gd_M_hang_88 : decode F_M_hang.2.1 88 = .ok (.iconst 0, 1) := by decide +kernel
theorem gd_M_hang_89 : decode F_M_hang.2.1 89 = .ok (.putfield 100, 3) := by decide +kernel
theorem gd_M_hang_92 : decode F_M_hang.2.1 92 = .ok (.aload_n 0, 1) := by decide +kernel
theorem gd_M_hang_93 : decode F_M_hang.2.1 93 = .ok (.getfield 100, 3) := by decide +kernel
theorem gd_M_hang_96 : decode F_M_hang.2.1 96 = .ok (.ifCond .le 5, 3) := by decide +kernel
theorem gd_M_hang_99 : decode F_M_hang.2.1 99 = .ok (.iconst 0, 1) := by decide +kernel
theorem gd_M_hang_100 : decode F_M_hang.2.1 100 = .ok (.ireturn, 1) := by decide +kernel
theorem gd_M_hang_101 : decode F_M_hang.2.1 101 = .ok (.aload_n 0, 1) := by decide +kernel
theorem gd_M_hang_102 : decode F_M_hang.2.1 102 = .ok (.dup, 1) := by decide +kernel
theorem gd_M_hang_103 : decode F_M_hang.2.1 103 = .ok (.getfield 163, 3) := by decide +kernel
theorem gd_M_hang_106 : decode F_M_hang.2.1 106 = .ok (.iconst 1, 1) := by decide +kernel
theorem gd_M_hang_107 : decode F_M_hang.2.1 107 = .ok (.iadd, 1) := by decide +kernel
theorem gd_M_hang_108 : decode F_M_hang.2.1 108 = .ok (.putfield 163, 3) := by decide +kernel
theorem gd_M_hang_111 : decode F_M_hang.2.1 111 = .ok (.aload_n 0, 1) := by decide +kernel
theorem gd_M_hang_112 : decode F_M_hang.2.1 112 = .ok (.iload_n 1, 1) := by decide +kernel
theorem gd_M_hang_113 : decode F_M_hang.2.1 113 = .ok (.invokevirtual 166, 3) := by decide +kernel
theorem gd_M_hang_116 : decode F_M_hang.2.1 116 = .ok (.aload_n 0, 1) := by decide +kernel
theorem gd_M_hang_117 : decode F_M_hang.2.1 117 = .ok (.getfield 38, 3) := by decide +kernel
theorem gd_M_hang_120 : decode F_M_hang.2.1 120 = .ok (.iload_n 1, 1) := by decide +kernel
theorem gd_M_hang_121 : decode F_M_hang.2.1 121 = .ok (.iload_n 2, 1) := by decide +kernel
theorem gd_M_hang_122 : decode F_M_hang.2.1 122 = .ok (.iastore, 1) := by decide +kernel
theorem gd_M_hang_123 : decode F_M_hang.2.1 123 = .ok (.aload_n 0, 1) := by decide +kernel
theorem gd_M_hang_124 : decode F_M_hang.2.1 124 = .ok (.getfield 41, 3) := by decide +kernel
theorem gd_M_hang_127 : decode F_M_hang.2.1 127 = .ok (.iload_n 1, 1) := by decide +kernel
theorem gd_M_hang_128 : decode F_M_hang.2.1 128 = .ok (.dup2, 1) := by decide +kernel
theorem gd_M_hang_129 : decode F_M_hang.2.1 129 = .ok (.iaload, 1) := by decide +kernel
theorem gd_M_hang_130 : decode F_M_hang.2.1 130 = .ok (.iconst 1, 1) := by decide +kernel
theorem gd_M_hang_131 : decode F_M_hang.2.1 131 = .ok (.iadd, 1) := by decide +kernel
theorem gd_M_hang_132 : decode F_M_hang.2.1 132 = .ok (.iastore, 1) := by decide +kernel
theorem gd_M_hang_133 : decode F_M_hang.2.1 133 = .ok (.iconst 0, 1) := by decide +kernel
theorem gd_M_hang_134 : decode F_M_hang.2.1 134 = .ok (.istore_n 3, 1) := by decide +kernel
theorem gd_M_hang_135 : decode F_M_hang.2.1 135 = .ok (.iload_n 3, 1) := by decide +kernel
theorem gd_M_hang_136 : decode F_M_hang.2.1 136 = .ok (.bipush 40, 2) := by decide +kernel
theorem gd_M_hang_138 : decode F_M_hang.2.1 138 = .ok (.if_icmp .ge 40, 3) := by decide +kernel
theorem gd_M_hang_141 : decode F_M_hang.2.1 141 = .ok (.aload_n 0, 1) := by decide +kernel
theorem gd_M_hang_142 : decode F_M_hang.2.1 142 = .ok (.getfield 44, 3) := by decide +kernel
theorem gd_M_hang_145 : decode F_M_hang.2.1 145 = .ok (.bipush 40, 2) := by decide +kernel
theorem gd_M_hang_147 : decode F_M_hang.2.1 147 = .ok (.iload_n 1, 1) := by decide +kernel
theorem gd_M_hang_148 : decode F_M_hang.2.1 148 = .ok (.imul, 1) := by decide +kernel
theorem gd_M_hang_149 : decode F_M_hang.2.1 149 = .ok (.iload_n 3, 1) := by decide +kernel
theorem gd_M_hang_150 : decode F_M_hang.2.1 150 = .ok (.iadd, 1) := by decide +kernel
theorem gd_M_hang_151 : decode F_M_hang.2.1 151 = .ok (.iaload, 1) := by decide +kernel
theorem gd_M_hang_152 : decode F_M_hang.2.1 152 = .ok (.ifCond .le 20, 3) := by decide +kernel
theorem gd_M_hang_155 : decode F_M_hang.2.1 155 = .ok (.aload_n 0, 1) := by decide +kernel
theorem gd_M_hang_156 : decode F_M_hang.2.1 156 = .ok (.iload_n 1, 1) := by decide +kernel
theorem gd_M_hang_157 : decode F_M_hang.2.1 157 = .ok (.iload_n 3, 1) := by decide +kernel
theorem gd_M_hang_158 : decode F_M_hang.2.1 158 = .ok (.aload_n 0, 1) := by decide +kernel
theorem gd_M_hang_159 : decode F_M_hang.2.1 159 = .ok (.getfield 44, 3) := by decide +kernel
theorem gd_M_hang_162 : decode F_M_hang.2.1 162 = .ok (.bipush 40, 2) := by decide +kernel
theorem gd_M_hang_164 : decode F_M_hang.2.1 164 = .ok (.iload_n 1, 1) := by decide +kernel
theorem gd_M_hang_165 : decode F_M_hang.2.1 165 = .ok (.imul, 1) := by decide +kernel
theorem gd_M_hang_166 : decode F_M_hang.2.1 166 = .ok (.iload_n 3, 1) := by decide +kernel
theorem gd_M_hang_167 : decode F_M_hang.2.1 167 = .ok (.iadd, 1) := by decide +kernel
theorem gd_M_hang_168 : decode F_M_hang.2.1 168 = .ok (.iaload, 1) := by decide +kernel
theorem gd_M_hang_169 : decode F_M_hang.2.1 169 = .ok (.invokevirtual 123, 3) := by decide +kernel
theorem gd_M_hang_172 : decode F_M_hang.2.1 172 = .ok (.iinc 3 1, 3) := by decide +kernel
theorem gd_M_hang_175 : decode F_M_hang.2.1 175 = .ok (.goto (-40), 3) := by decide +kernel
theorem gd_M_hang_178 : decode F_M_hang.2.1 178 = .ok (.aload_n 0, 1) := by decide +kernel
theorem gd_M_hang_179 : decode F_M_hang.2.1 179 = .ok (.getfield 41, 3) := by decide +kernel
theorem gd_M_hang_182 : decode F_M_hang.2.1 182 = .ok (.iload_n 1, 1) := by decide +kernel
theorem gd_M_hang_183 : decode F_M_hang.2.1 183 = .ok (.iaload, 1) := by decide +kernel
theorem gd_M_hang_184 : decode F_M_hang.2.1 184 = .ok (.ireturn, 1) := by decide +kernel
theorem gd_M_held_0 : decode F_M_held.2.1 0 = .ok (.aload_n 0, 1) := by decide +kernel
theorem gd_M_held_1 : decode F_M_held.2.1 1 = .ok (.iload_n 1, 1) := by decide +kernel
theorem gd_M_held_2 : decode F_M_held.2.1 2 = .ok (.invokestatic 150, 3) := by decide +kernel
theorem gd_M_held_5 : decode F_M_held.2.1 5 = .ok (.ifCond .eq 23, 3) := by decide +kernel
theorem gd_M_held_8 : decode F_M_held.2.1 8 = .ok (.iload_n 2, 1) := by decide +kernel
theorem gd_M_held_9 : decode F_M_held.2.1 9 = .ok (.invokestatic 150, 3) := by decide +kernel
theorem gd_M_held_12 : decode F_M_held.2.1 12 = .ok (.ifCond .eq 16, 3) := by decide +kernel
theorem gd_M_held_15 : decode F_M_held.2.1 15 = .ok (.iload_n 3, 1) := by decide +kernel
theorem gd_M_held_16 : decode F_M_held.2.1 16 = .ok (.iconst 0, 1) := by decide +kernel
theorem gd_M_held_17 : decode F_M_held.2.1 17 = .ok (.iconst 5, 1) := by decide +kernel
theorem gd_M_held_18 : decode F_M_held.2.1 18 = .ok (.invokestatic 104, 3) := by decide +kernel
theorem gd_M_held_21 : decode F_M_held.2.1 21 = .ok (.ifCond .eq 7, 3) := by decide +kernel
theorem gd_M_held_24 : decode F_M_held.2.1 24 = .ok (.iconst 0, 1) := by decide +kernel
theorem gd_M_held_25 : decode F_M_held.2.1 25 = .ok (.goto 4, 3) := by decide +kernel
theorem gd_M_held_28 : decode F_M_held.2.1 28 = .ok (.iconst 1, 1) := by decide +kernel
theorem gd_M_held_29 : decode F_M_held.2.1 29 = .ok (.putfield 100, 3) := by decide +kernel
theorem gd_M_held_32 : decode F_M_held.2.1 32 = .ok (.aload_n 0, 1) := by decide +kernel
theorem gd_M_held_33 : decode F_M_held.2.1 33 = .ok (.getfield 100, 3) := by decide +kernel
theorem gd_M_held_36 : decode F_M_held.2.1 36 = .ok (.ifCond .gt 13, 3) := by decide +kernel
theorem gd_M_held_39 : decode F_M_held.2.1 39 = .ok (.aload_n 0, 1) := by decide +kernel
theorem gd_M_held_40 : decode F_M_held.2.1 40 = .ok (.getfield 38, 3) := by decide +kernel
theorem gd_M_held_43 : decode F_M_held.2.1 43 = .ok (.iload_n 2, 1) := by decide +kernel
theorem gd_M_held_44 : decode F_M_held.2.1 44 = .ok (.iaload, 1) := by decide +kernel
theorem gd_M_held_45 : decode F_M_held.2.1 45 = .ok (.iload_n 1, 1) := by decide +kernel
theorem gd_M_held_46 : decode F_M_held.2.1 46 = .ok (.if_icmp .eq 5, 3) := by decide +kernel
theorem gd_M_held_49 : decode F_M_held.2.1 49 = .ok (.lconst 0, 1) := by decide +kernel
theorem gd_M_held_50 : decode F_M_held.2.1 50 = .ok (.lreturn, 1) := by decide +kernel
theorem gd_M_held_51 : decode F_M_held.2.1 51 = .ok (.aload_n 0, 1) := by decide +kernel
theorem gd_M_held_52 : decode F_M_held.2.1 52 = .ok (.iload_n 1, 1) := by decide +kernel
theorem gd_M_held_53 : decode F_M_held.2.1 53 = .ok (.iload_n 2, 1) := by decide +kernel
theorem gd_M_held_54 : decode F_M_held.2.1 54 = .ok (.invokevirtual 185, 3) := by decide +kernel
theorem gd_M_held_57 : decode F_M_held.2.1 57 = .ok (.aload_n 0, 1) := by decide +kernel
theorem gd_M_held_58 : decode F_M_held.2.1 58 = .ok (.getfield 90, 3) := by decide +kernel
theorem gd_M_held_61 : decode F_M_held.2.1 61 = .ok (.iload_n 3, 1) := by decide +kernel
theorem gd_M_held_62 : decode F_M_held.2.1 62 = .ok (.laload, 1) := by decide +kernel
theorem gd_M_held_63 : decode F_M_held.2.1 63 = .ok (.lreturn, 1) := by decide +kernel
theorem gd_M_in_0 : decode F_M_in.2.1 0 = .ok (.iload_n 0, 1) := by decide +kernel
theorem gd_M_in_1 : decode F_M_in.2.1 1 = .ok (.iload_n 1, 1) := by decide +kernel
theorem gd_M_in_2 : decode F_M_in.2.1 2 = .ok (.if_icmp .lt 12, 3) := by decide +kernel
theorem gd_M_in_5 : decode F_M_in.2.1 5 = .ok (.iload_n 0, 1) := by decide +kernel
theorem gd_M_in_6 : decode F_M_in.2.1 6 = .ok (.iload_n 2, 1) := by decide +kernel
theorem gd_M_in_7 : decode F_M_in.2.1 7 = .ok (.if_icmp .gt 7, 3) := by decide +kernel
theorem gd_M_in_10 : decode F_M_in.2.1 10 = .ok (.iconst 1, 1) := by decide +kernel
theorem gd_M_in_11 : decode F_M_in.2.1 11 = .ok (.goto 4, 3) := by decide +kernel
theorem gd_M_in_14 : decode F_M_in.2.1 14 = .ok (.iconst 0, 1) := by decide +kernel
theorem gd_M_in_15 : decode F_M_in.2.1 15 = .ok (.ireturn, 1) := by decide +kernel
theorem gd_M_included_0 : decode F_M_included.2.1 0 = .ok (.aload_n 0, 1) := by decide +kernel
theorem gd_M_included_1 : decode F_M_included.2.1 1 = .ok (.iload_n 1, 1) := by decide +kernel
theorem gd_M_included_2 : decode F_M_included.2.1 2 = .ok (.invokestatic 150, 3) := by decide +kernel
theorem gd_M_included_5 : decode F_M_included.2.1 5 = .ok (.ifCond .eq 14, 3) := by decide +kernel
theorem gd_M_included_8 : decode F_M_included.2.1 8 = .ok (.iload_n 2, 1) := by decide +kernel
theorem gd_M_included_9 : decode F_M_included.2.1 9 = .ok (.invokestatic 108, 3) := by decide +kernel
theorem gd_M_included_12 : decode F_M_included.2.1 12 = .ok (.ifCond .eq 7, 3) := by decide +kernel
theorem gd_M_included_15 : decode F_M_included.2.1 15 = .ok (.iconst 0, 1) := by decide +kernel
theorem gd_M_included_16 : decode F_M_included.2.1 16 = .ok (.goto 4, 3) := by decide +kernel
theorem gd_M_included_19 : decode F_M_included.2.1 19 = .ok (.iconst 1, 1) := by decide +kernel
theorem gd_M_included_20 : decode F_M_included.2.1 20 = .ok (.putfield 100, 3) := by decide +kernel
theorem gd_M_included_23 : decode F_M_included.2.1 23 = .ok (.aload_n 0, 1) := by decide +kernel
theorem gd_M_included_24 : decode F_M_included.2.1 24 = .ok (.getfield 100, 3) := by decide +kernel
theorem gd_M_included_27 : decode F_M_included.2.1 27 = .ok (.ifCond .le 7, 3) := by decide +kernel
theorem gd_M_included_30 : decode F_M_included.2.1 30 = .ok (.iconst 0, 1) := by decide +kernel
theorem gd_M_included_31 : decode F_M_included.2.1 31 = .ok (.goto 19, 3) := by decide +kernel
theorem gd_M_included_34 : decode F_M_included.2.1 34 = .ok (.aload_n 0, 1) := by decide +kernel
theorem gd_M_included_35 : decode F_M_included.2.1 35 = .ok (.getfield 23, 3) := by decide +kernel
theorem gd_M_included_38 : decode F_M_included.2.1 38 = .ok (.aload_n 0, 1) := by decide +kernel
theorem gd_M_included_39 : decode F_M_included.2.1 39 = .ok (.getfield 44, 3) := by decide +kernel
theorem gd_M_included_42 : decode F_M_included.2.1 42 = .ok (.bipush 40, 2) := by decide +kernel
theorem gd_M_included_44 : decode F_M_included.2.1 44 = .ok (.iload_n 1, 1) := by decide +kernel
theorem gd_M_included_45 : decode F_M_included.2.1 45 = .ok (.imul, 1) := by decide +kernel
theorem gd_M_included_46 : decode F_M_included.2.1 46 = .ok (.iload_n 2, 1) := by decide +kernel
theorem gd_M_included_47 : decode F_M_included.2.1 47 = .ok (.iadd, 1) := by decide +kernel
theorem gd_M_included_48 : decode F_M_included.2.1 48 = .ok (.iaload, 1) := by decide +kernel
theorem gd_M_included_49 : decode F_M_included.2.1 49 = .ok (.iaload, 1) := by decide +kernel
theorem gd_M_included_50 : decode F_M_included.2.1 50 = .ok (.ireturn, 1) := by decide +kernel
theorem gd_M_init_0 : decode F_M_init.2.1 0 = .ok (.aload_n 0, 1) := by decide +kernel
theorem gd_M_init_1 : decode F_M_init.2.1 1 = .ok (.invokespecial 1, 3) := by decide +kernel
theorem gd_M_init_4 : decode F_M_init.2.1 4 = .ok (.aload_n 0, 1) := by decide +kernel
theorem gd_M_init_5 : decode F_M_init.2.1 5 = .ok (.bipush 40, 2) := by decide +kernel
theorem gd_M_init_7 : decode F_M_init.2.1 7 = .ok (.newarray .boolean, 2) := by decide +kernel
theorem gd_M_init_9 : decode F_M_init.2.1 9 = .ok (.putfield 7, 3) := by decide +kernel
theorem gd_M_init_12 : decode F_M_init.2.1 12 = .ok (.aload_n 0, 1) := by decide +kernel
theorem gd_M_init_13 : decode F_M_init.2.1 13 = .ok (.bipush 40, 2) := by decide +kernel
theorem gd_M_init_15 : decode F_M_init.2.1 15 = .ok (.newarray .int, 2) := by decide +kernel
theorem gd_M_init_17 : decode F_M_init.2.1 17 = .ok (.putfield 13, 3) := by decide +kernel
theorem gd_M_init_20 : decode F_M_init.2.1 20 = .ok (.aload_n 0, 1) := by decide +kernel
theorem gd_M_init_21 : decode F_M_init.2.1 21 = .ok (.bipush 40, 2) := by decide +kernel
theorem gd_M_init_23 : decode F_M_init.2.1 23 = .ok (.newarray .int, 2) := by decide +kernel
theorem gd_M_init_25 : decode F_M_init.2.1 25 = .ok (.putfield 17, 3) := by decide +kernel
theorem gd_M_init_28 : decode F_M_init.2.1 28 = .ok (.aload_n 0, 1) := by decide +kernel
theorem gd_M_init_29 : decode F_M_init.2.1 29 = .ok (.bipush 40, 2) := by decide +kernel
theorem gd_M_init_31 : decode F_M_init.2.1 31 = .ok (.newarray .int, 2) := by decide +kernel
theorem gd_M_init_33 : decode F_M_init.2.1 33 = .ok (.putfield 20, 3) := by decide +kernel
theorem gd_M_init_36 : decode F_M_init.2.1 36 = .ok (.aload_n 0, 1) := by decide +kernel
theorem gd_M_init_37 : decode F_M_init.2.1 37 = .ok (.sipush 301, 3) := by decide +kernel
theorem gd_M_init_40 : decode F_M_init.2.1 40 = .ok (.newarray .int, 2) := by decide +kernel
theorem gd_M_init_42 : decode F_M_init.2.1 42 = .ok (.putfield 23, 3) := by decide +kernel
theorem gd_M_init_45 : decode F_M_init.2.1 45 = .ok (.aload_n 0, 1) := by decide +kernel
theorem gd_M_init_46 : decode F_M_init.2.1 46 = .ok (.sipush 1806, 3) := by decide +kernel
theorem gd_M_init_49 : decode F_M_init.2.1 49 = .ok (.newarray .int, 2) := by decide +kernel
theorem gd_M_init_51 : decode F_M_init.2.1 51 = .ok (.putfield 26, 3) := by decide +kernel
theorem gd_M_init_54 : decode F_M_init.2.1 54 = .ok (.aload_n 0, 1) := by decide +kernel
theorem gd_M_init_55 : decode F_M_init.2.1 55 = .ok (.sipush 301, 3) := by decide +kernel
theorem gd_M_init_58 : decode F_M_init.2.1 58 = .ok (.newarray .int, 2) := by decide +kernel
theorem gd_M_init_60 : decode F_M_init.2.1 60 = .ok (.putfield 29, 3) := by decide +kernel
theorem gd_M_init_63 : decode F_M_init.2.1 63 = .ok (.aload_n 0, 1) := by decide +kernel
theorem gd_M_init_64 : decode F_M_init.2.1 64 = .ok (.bipush 6, 2) := by decide +kernel
theorem gd_M_init_66 : decode F_M_init.2.1 66 = .ok (.newarray .int, 2) := by decide +kernel
theorem gd_M_init_68 : decode F_M_init.2.1 68 = .ok (.putfield 32, 3) := by decide +kernel
theorem gd_M_init_71 : decode F_M_init.2.1 71 = .ok (.aload_n 0, 1) := by decide +kernel
theorem gd_M_init_72 : decode F_M_init.2.1 72 = .ok (.bipush 12, 2) := by decide +kernel
theorem gd_M_init_74 : decode F_M_init.2.1 74 = .ok (.newarray .boolean, 2) := by decide +kernel
theorem gd_M_init_76 : decode F_M_init.2.1 76 = .ok (.putfield 35, 3) := by decide +kernel
theorem gd_M_init_79 : decode F_M_init.2.1 79 = .ok (.aload_n 0, 1) := by decide +kernel
theorem gd_M_init_80 : decode F_M_init.2.1 80 = .ok (.bipush 12, 2) := by decide +kernel
theorem gd_M_init_82 : decode F_M_init.2.1 82 = .ok (.newarray .int, 2) := by decide +kernel
theorem gd_M_init_84 : decode F_M_init.2.1 84 = .ok (.putfield 38, 3) := by decide +kernel
theorem gd_M_init_87 : decode F_M_init.2.1 87 = .ok (.aload_n 0, 1) := by decide +kernel
theorem gd_M_init_88 : decode F_M_init.2.1 88 = .ok (.bipush 12, 2) := by decide +kernel
theorem gd_M_init_90 : decode F_M_init.2.1 90 = .ok (.newarray .int, 2) := by decide +kernel
theorem gd_M_init_92 : decode F_M_init.2.1 92 = .ok (.putfield 41, 3) := by decide +kernel
theorem gd_M_init_95 : decode F_M_init.2.1 95 = .ok (.aload_n 0, 1) := by decide +kernel
theorem gd_M_init_96 : decode F_M_init.2.1 96 = .ok (.sipush 480, 3) := by decide +kernel
theorem gd_M_init_99 : decode F_M_init.2.1 99 = .ok (.newarray .int, 2) := by decide +kernel
theorem gd_M_init_101 : decode F_M_init.2.1 101 = .ok (.putfield 44, 3) := by decide +kernel
theorem gd_M_init_104 : decode F_M_init.2.1 104 = .ok (.aload_n 0, 1) := by decide +kernel
theorem gd_M_init_105 : decode F_M_init.2.1 105 = .ok (.sipush 480, 3) := by decide +kernel
theorem gd_M_init_108 : decode F_M_init.2.1 108 = .ok (.newarray .int, 2) := by decide +kernel
theorem gd_M_init_110 : decode F_M_init.2.1 110 = .ok (.putfield 47, 3) := by decide +kernel
theorem gd_M_init_113 : decode F_M_init.2.1 113 = .ok (.aload_n 0, 1) := by decide +kernel
theorem gd_M_init_114 : decode F_M_init.2.1 114 = .ok (.sipush 480, 3) := by decide +kernel
theorem gd_M_init_117 : decode F_M_init.2.1 117 = .ok (.newarray .boolean, 2) := by decide +kernel
theorem gd_M_init_119 : decode F_M_init.2.1 119 = .ok (.putfield 50, 3) := by decide +kernel
theorem gd_M_init_122 : decode F_M_init.2.1 122 = .ok (.aload_n 0, 1) := by decide +kernel
theorem gd_M_init_123 : decode F_M_init.2.1 123 = .ok (.bipush 12, 2) := by decide +kernel
theorem gd_M_init_125 : decode F_M_init.2.1 125 = .ok (.newarray .int, 2) := by decide +kernel
theorem gd_M_init_127 : decode F_M_init.2.1 127 = .ok (.putfield 53, 3) := by decide +kernel
theorem gd_M_init_130 : decode F_M_init.2.1 130 = .ok (.aload_n 0, 1) := by decide +kernel
theorem gd_M_init_131 : decode F_M_init.2.1 131 = .ok (.ldc 56, 2) := by decide +kernel
theorem gd_M_init_133 : decode F_M_init.2.1 133 = .ok (.newarray .int, 2) := by decide +kernel
theorem gd_M_init_135 : decode F_M_init.2.1 135 = .ok (.putfield 57, 3) := by decide +kernel
theorem gd_M_init_138 : decode F_M_init.2.1 138 = .ok (.aload_n 0, 1) := by decide +kernel
theorem gd_M_init_139 : decode F_M_init.2.1 139 = .ok (.ldc 56, 2) := by decide +kernel
theorem gd_M_init_141 : decode F_M_init.2.1 141 = .ok (.newarray .int, 2) := by decide +kernel
theorem gd_M_init_143 : decode F_M_init.2.1 143 = .ok (.putfield 60, 3) := by decide +kernel
theorem gd_M_init_146 : decode F_M_init.2.1 146 = .ok (.aload_n 0, 1) := by decide +kernel
theorem gd_M_init_147 : decode F_M_init.2.1 147 = .ok (.bipush 12, 2) := by decide +kernel
theorem gd_M_init_149 : decode F_M_init.2.1 149 = .ok (.newarray .int, 2) := by decide +kernel
theorem gd_M_init_151 : decode F_M_init.2.1 151 = .ok (.putfield 63, 3) := by decide +kernel
theorem gd_M_init_154 : decode F_M_init.2.1 154 = .ok (.aload_n 0, 1) := by decide +kernel
theorem gd_M_init_155 : decode F_M_init.2.1 155 = .ok (.bipush 12, 2) := by decide +kernel
theorem gd_M_init_157 : decode F_M_init.2.1 157 = .ok (.newarray .int, 2) := by decide +kernel
theorem gd_M_init_159 : decode F_M_init.2.1 159 = .ok (.putfield 66, 3) := by decide +kernel
theorem gd_M_init_162 : decode F_M_init.2.1 162 = .ok (.aload_n 0, 1) := by decide +kernel
theorem gd_M_init_163 : decode F_M_init.2.1 163 = .ok (.sipush 24000, 3) := by decide +kernel
theorem gd_M_init_166 : decode F_M_init.2.1 166 = .ok (.newarray .int, 2) := by decide +kernel
theorem gd_M_init_168 : decode F_M_init.2.1 168 = .ok (.putfield 69, 3) := by decide +kernel
theorem gd_M_init_171 : decode F_M_init.2.1 171 = .ok (.aload_n 0, 1) := by decide +kernel
theorem gd_M_init_172 : decode F_M_init.2.1 172 = .ok (.sipush 24000, 3) := by decide +kernel
theorem gd_M_init_175 : decode F_M_init.2.1 175 = .ok (.newarray .int, 2) := by decide +kernel
theorem gd_M_init_177 : decode F_M_init.2.1 177 = .ok (.putfield 72, 3) := by decide +kernel
theorem gd_M_init_180 : decode F_M_init.2.1 180 = .ok (.aload_n 0, 1) := by decide +kernel
theorem gd_M_init_181 : decode F_M_init.2.1 181 = .ok (.sipush 501, 3) := by decide +kernel
theorem gd_M_init_184 : decode F_M_init.2.1 184 = .ok (.newarray .int, 2) := by decide +kernel
theorem gd_M_init_186 : decode F_M_init.2.1 186 = .ok (.putfield 75, 3) := by decide +kernel
theorem gd_M_init_189 : decode F_M_init.2.1 189 = .ok (.aload_n 0, 1) := by decide +kernel
theorem gd_M_init_190 : decode F_M_init.2.1 190 = .ok (.sipush 501, 3) := by decide +kernel
theorem gd_M_init_193 : decode F_M_init.2.1 193 = .ok (.newarray .int, 2) := by decide +kernel
theorem gd_M_init_195 : decode F_M_init.2.1 195 = .ok (.putfield 78, 3) := by decide +kernel
theorem gd_M_init_198 : decode F_M_init.2.1 198 = .ok (.aload_n 0, 1) := by decide +kernel
theorem gd_M_init_199 : decode F_M_init.2.1 199 = .ok (.sipush 501, 3) := by decide +kernel
theorem gd_M_init_202 : decode F_M_init.2.1 202 = .ok (.newarray .int, 2) := by decide +kernel
theorem gd_M_init_204 : decode F_M_init.2.1 204 = .ok (.putfield 81, 3) := by decide +kernel
theorem gd_M_init_207 : decode F_M_init.2.1 207 = .ok (.aload_n 0, 1) := by decide +kernel
theorem gd_M_init_208 : decode F_M_init.2.1 208 = .ok (.sipush 501, 3) := by decide +kernel
theorem gd_M_init_211 : decode F_M_init.2.1 211 = .ok (.newarray .int, 2) := by decide +kernel
theorem gd_M_init_213 : decode F_M_init.2.1 213 = .ok (.putfield 84, 3) := by decide +kernel
theorem gd_M_init_216 : decode F_M_init.2.1 216 = .ok (.aload_n 0, 1) := by decide +kernel
theorem gd_M_init_217 : decode F_M_init.2.1 217 = .ok (.sipush 501, 3) := by decide +kernel
theorem gd_M_init_220 : decode F_M_init.2.1 220 = .ok (.newarray .int, 2) := by decide +kernel
theorem gd_M_init_222 : decode F_M_init.2.1 222 = .ok (.putfield 87, 3) := by decide +kernel
theorem gd_M_init_225 : decode F_M_init.2.1 225 = .ok (.aload_n 0, 1) := by decide +kernel
theorem gd_M_init_226 : decode F_M_init.2.1 226 = .ok (.bipush 6, 2) := by decide +kernel
theorem gd_M_init_228 : decode F_M_init.2.1 228 = .ok (.newarray .long, 2) := by decide +kernel
theorem gd_M_init_230 : decode F_M_init.2.1 230 = .ok (.putfield 90, 3) := by decide +kernel
theorem gd_M_init_233 : decode F_M_init.2.1 233 = .ok (.aload_n 0, 1) := by decide +kernel
theorem gd_M_init_234 : decode F_M_init.2.1 234 = .ok (.bipush 6, 2) := by decide +kernel
theorem gd_M_init_236 : decode F_M_init.2.1 236 = .ok (.newarray .long, 2) := by decide +kernel
theorem gd_M_init_238 : decode F_M_init.2.1 238 = .ok (.putfield 94, 3) := by decide +kernel
theorem gd_M_init_241 : decode F_M_init.2.1 241 = .ok (.aload_n 0, 1) := by decide +kernel
theorem gd_M_init_242 : decode F_M_init.2.1 242 = .ok (.bipush 6, 2) := by decide +kernel
theorem gd_M_init_244 : decode F_M_init.2.1 244 = .ok (.newarray .int, 2) := by decide +kernel
theorem gd_M_init_246 : decode F_M_init.2.1 246 = .ok (.putfield 97, 3) := by decide +kernel
theorem gd_M_init_249 : decode F_M_init.2.1 249 = .ok (.iconst 0, 1) := by decide +kernel
theorem gd_M_init_250 : decode F_M_init.2.1 250 = .ok (.istore_n 1, 1) := by decide +kernel
theorem gd_M_init_251 : decode F_M_init.2.1 251 = .ok (.iload_n 1, 1) := by decide +kernel
theorem gd_M_init_252 : decode F_M_init.2.1 252 = .ok (.bipush 12, 2) := by decide +kernel
theorem gd_M_init_254 : decode F_M_init.2.1 254 = .ok (.if_icmp .ge 23, 3) := by decide +kernel
theorem gd_M_init_257 : decode F_M_init.2.1 257 = .ok (.aload_n 0, 1) := by decide +kernel
theorem gd_M_init_258 : decode F_M_init.2.1 258 = .ok (.getfield 35, 3) := by decide +kernel
theorem gd_M_init_261 : decode F_M_init.2.1 261 = .ok (.iload_n 1, 1) := by decide +kernel
theorem gd_M_init_262 : decode F_M_init.2.1 262 = .ok (.iconst 1, 1) := by decide +kernel
theorem gd_M_init_263 : decode F_M_init.2.1 263 = .ok (.bastore, 1) := by decide +kernel
theorem gd_M_init_264 : decode F_M_init.2.1 264 = .ok (.aload_n 0, 1) := by decide +kernel
theorem gd_M_init_265 : decode F_M_init.2.1 265 = .ok (.getfield 38, 3) := by decide +kernel
theorem gd_M_init_268 : decode F_M_init.2.1 268 = .ok (.iload_n 1, 1) := by decide +kernel
theorem gd_M_init_269 : decode F_M_init.2.1 269 = .ok (.iconst (-1), 1) := by decide +kernel
theorem gd_M_init_270 : decode F_M_init.2.1 270 = .ok (.iastore, 1) := by decide +kernel
theorem gd_M_init_271 : decode F_M_init.2.1 271 = .ok (.iinc 1 1, 3) := by decide +kernel
theorem gd_M_init_274 : decode F_M_init.2.1 274 = .ok (.goto (-23), 3) := by decide +kernel
theorem gd_M_init_277 : decode F_M_init.2.1 277 = .ok (.iconst 0, 1) := by decide +kernel
theorem gd_M_init_278 : decode F_M_init.2.1 278 = .ok (.istore_n 1, 1) := by decide +kernel
theorem gd_M_init_279 : decode F_M_init.2.1 279 = .ok (.iload_n 1, 1) := by decide +kernel
theorem gd_M_init_280 : decode F_M_init.2.1 280 = .ok (.sipush 480, 3) := by decide +kernel
theorem gd_M_init_283 : decode F_M_init.2.1 283 = .ok (.if_icmp .ge 16, 3) := by decide +kernel
theorem gd_M_init_286 : decode F_M_init.2.1 286 = .ok (.aload_n 0, 1) := by decide +kernel
theorem gd_M_init_287 : decode F_M_init.2.1 287 = .ok (.getfield 47, 3) := by decide +kernel
theorem gd_M_init_290 : decode F_M_init.2.1 290 = .ok (.iload_n 1, 1) := by decide +kernel
theorem gd_M_init_291 : decode F_M_init.2.1 291 = .ok (.iconst (-1), 1) := by decide +kernel
theorem gd_M_init_292 : decode F_M_init.2.1 292 = .ok (.iastore, 1) := by decide +kernel
theorem gd_M_init_293 : decode F_M_init.2.1 293 = .ok (.iinc 1 1, 3) := by decide +kernel
theorem gd_M_init_296 : decode F_M_init.2.1 296 = .ok (.goto (-17), 3) := by decide +kernel
theorem gd_M_init_299 : decode F_M_init.2.1 299 = .ok (.return_, 1) := by decide +kernel
theorem gd_M_isAtRest_0 : decode F_M_isAtRest.2.1 0 = .ok (.aload_n 0, 1) := by decide +kernel
theorem gd_M_isAtRest_1 : decode F_M_isAtRest.2.1 1 = .ok (.iconst 0, 1) := by decide +kernel
theorem gd_M_isAtRest_2 : decode F_M_isAtRest.2.1 2 = .ok (.putfield 100, 3) := by decide +kernel
theorem gd_M_isAtRest_5 : decode F_M_isAtRest.2.1 5 = .ok (.aload_n 0, 1) := by decide +kernel
theorem gd_M_isAtRest_6 : decode F_M_isAtRest.2.1 6 = .ok (.getfield 112, 3) := by decide +kernel
theorem gd_M_isAtRest_9 : decode F_M_isAtRest.2.1 9 = .ok (.ifCond .ne 7, 3) := by decide +kernel
theorem gd_M_isAtRest_12 : decode F_M_isAtRest.2.1 12 = .ok (.iconst 1, 1) := by decide +kernel
theorem gd_M_isAtRest_13 : decode F_M_isAtRest.2.1 13 = .ok (.goto 4, 3) := by decide +kernel
theorem gd_M_isAtRest_16 : decode F_M_isAtRest.2.1 16 = .ok (.iconst 0, 1) := by decide +kernel
theorem gd_M_isAtRest_17 : decode F_M_isAtRest.2.1 17 = .ok (.istore_n 1, 1) := by decide +kernel
theorem gd_M_isAtRest_18 : decode F_M_isAtRest.2.1 18 = .ok (.iconst 0, 1) := by decide +kernel
theorem gd_M_isAtRest_19 : decode F_M_isAtRest.2.1 19 = .ok (.istore_n 2, 1) := by decide +kernel
theorem gd_M_isAtRest_20 : decode F_M_isAtRest.2.1 20 = .ok (.iload_n 2, 1) := by decide +kernel
theorem gd_M_isAtRest_21 : decode F_M_isAtRest.2.1 21 = .ok (.bipush 12, 2) := by decide +kernel
theorem gd_M_isAtRest_23 : decode F_M_isAtRest.2.1 23 = .ok (.if_icmp .ge 42, 3) := by decide +kernel
theorem gd_M_isAtRest_26 : decode F_M_isAtRest.2.1 26 = .ok (.iload_n 1, 1) := by decide +kernel
theorem gd_M_isAtRest_27 : decode F_M_isAtRest.2.1 27 = .ok (.ifCond .eq 30, 3) := by decide +kernel
theorem gd_M_isAtRest_30 : decode F_M_isAtRest.2.1 30 = .ok (.aload_n 0, 1) := by decide +kernel
theorem gd_M_isAtRest_31 : decode F_M_isAtRest.2.1 31 = .ok (.getfield 63, 3) := by decide +kernel
theorem gd_M_isAtRest_34 : decode F_M_isAtRest.2.1 34 = .ok (.iload_n 2, 1) := by decide +kernel
theorem gd_M_isAtRest_35 : decode F_M_isAtRest.2.1 35 = .ok (.iaload, 1) := by decide +kernel
theorem gd_M_isAtRest_36 : decode F_M_isAtRest.2.1 36 = .ok (.aload_n 0, 1) := by decide +kernel
theorem gd_M_isAtRest_37 : decode F_M_isAtRest.2.1 37 = .ok (.getfield 53, 3) := by decide +kernel
theorem gd_M_isAtRest_40 : decode F_M_isAtRest.2.1 40 = .ok (.iload_n 2, 1) := by decide +kernel
theorem gd_M_isAtRest_41 : decode F_M_isAtRest.2.1 41 = .ok (.iaload, 1) := by decide +kernel
theorem gd_M_isAtRest_42 : decode F_M_isAtRest.2.1 42 = .ok (.if_icmp .ne 15, 3) := by decide +kernel
theorem gd_M_isAtRest_45 : decode F_M_isAtRest.2.1 45 = .ok (.aload_n 0, 1) := by decide +kernel
theorem gd_M_isAtRest_46 : decode F_M_isAtRest.2.1 46 = .ok (.iload_n 2, 1) := by decide +kernel
theorem gd_M_isAtRest_47 : decode F_M_isAtRest.2.1 47 = .ok (.invokevirtual 188, 3) := by decide +kernel
theorem gd_M_isAtRest_50 : decode F_M_isAtRest.2.1 50 = .ok (.ifCond .ne 7, 3) := by decide +kernel
theorem gd_M_isAtRest_53 : decode F_M_isAtRest.2.1 53 = .ok (.iconst 1, 1) := by decide +kernel
theorem gd_M_isAtRest_54 : decode F_M_isAtRest.2.1 54 = .ok (.goto 4, 3) := by decide +kernel
theorem gd_M_isAtRest_57 : decode F_M_isAtRest.2.1 57 = .ok (.iconst 0, 1) := by decide +kernel
theorem gd_M_isAtRest_58 : decode F_M_isAtRest.2.1 58 = .ok (.istore_n 1, 1) := by decide +kernel
theorem gd_M_isAtRest_59 : decode F_M_isAtRest.2.1 59 = .ok (.iinc 2 1, 3) := by decide +kernel
theorem gd_M_isAtRest_62 : decode F_M_isAtRest.2.1 62 = .ok (.goto (-42), 3) := by decide +kernel
theorem gd_M_isAtRest_65 : decode F_M_isAtRest.2.1 65 = .ok (.iload_n 1, 1) := by decide +kernel
theorem gd_M_isAtRest_66 : decode F_M_isAtRest.2.1 66 = .ok (.ireturn, 1) := by decide +kernel
theorem gd_M_isLetter_0 : decode F_M_isLetter.2.1 0 = .ok (.iload_n 1, 1) := by decide +kernel
theorem gd_M_isLetter_1 : decode F_M_isLetter.2.1 1 = .ok (.iconst 0, 1) := by decide +kernel
theorem gd_M_isLetter_2 : decode F_M_isLetter.2.1 2 = .ok (.aload_n 0, 1) := by decide +kernel
theorem gd_M_isLetter_3 : decode F_M_isLetter.2.1 3 = .ok (.getfield 112, 3) := by decide +kernel
theorem gd_M_isLetter_6 : decode F_M_isLetter.2.1 6 = .ok (.iconst 1, 1) := by decide +kernel
theorem gd_M_isLetter_7 : decode F_M_isLetter.2.1 7 = .ok (.isub, 1) := by decide +kernel
theorem gd_M_isLetter_8 : decode F_M_isLetter.2.1 8 = .ok (.invokestatic 104, 3) := by decide +kernel
theorem gd_M_isLetter_11 : decode F_M_isLetter.2.1 11 = .ok (.ireturn, 1) := by decide +kernel
theorem gd_M_isOffice_0 : decode F_M_isOffice.2.1 0 = .ok (.iload_n 0, 1) := by decide +kernel
theorem gd_M_isOffice_1 : decode F_M_isOffice.2.1 1 = .ok (.iconst 0, 1) := by decide +kernel
theorem gd_M_isOffice_2 : decode F_M_isOffice.2.1 2 = .ok (.bipush 11, 2) := by decide +kernel
theorem gd_M_isOffice_4 : decode F_M_isOffice.2.1 4 = .ok (.invokestatic 104, 3) := by decide +kernel
theorem gd_M_isOffice_7 : decode F_M_isOffice.2.1 7 = .ok (.ireturn, 1) := by decide +kernel
theorem gd_M_isPlace_0 : decode F_M_isPlace.2.1 0 = .ok (.iload_n 0, 1) := by decide +kernel
theorem gd_M_isPlace_1 : decode F_M_isPlace.2.1 1 = .ok (.iconst 0, 1) := by decide +kernel
theorem gd_M_isPlace_2 : decode F_M_isPlace.2.1 2 = .ok (.bipush 39, 2) := by decide +kernel
theorem gd_M_isPlace_4 : decode F_M_isPlace.2.1 4 = .ok (.invokestatic 104, 3) := by decide +kernel
theorem gd_M_isPlace_7 : decode F_M_isPlace.2.1 7 = .ok (.ireturn, 1) := by decide +kernel
theorem gd_M_isPrecinct_0 : decode F_M_isPrecinct.2.1 0 = .ok (.iload_n 1, 1) := by decide +kernel
theorem gd_M_isPrecinct_1 : decode F_M_isPrecinct.2.1 1 = .ok (.invokestatic 108, 3) := by decide +kernel
theorem gd_M_isPrecinct_4 : decode F_M_isPrecinct.2.1 4 = .ok (.ifCond .eq 16, 3) := by decide +kernel
theorem gd_M_isPrecinct_7 : decode F_M_isPrecinct.2.1 7 = .ok (.aload_n 0, 1) := by decide +kernel
theorem gd_M_isPrecinct_8 : decode F_M_isPrecinct.2.1 8 = .ok (.getfield 7, 3) := by decide +kernel
theorem gd_M_isPrecinct_11 : decode F_M_isPrecinct.2.1 11 = .ok (.iload_n 1, 1) := by decide +kernel
theorem gd_M_isPrecinct_12 : decode F_M_isPrecinct.2.1 12 = .ok (.baload, 1) := by decide +kernel
theorem gd_M_isPrecinct_13 : decode F_M_isPrecinct.2.1 13 = .ok (.ifCond .eq 7, 3) := by decide +kernel
theorem gd_M_isPrecinct_16 : decode F_M_isPrecinct.2.1 16 = .ok (.iconst 1, 1) := by decide +kernel
theorem gd_M_isPrecinct_17 : decode F_M_isPrecinct.2.1 17 = .ok (.goto 4, 3) := by decide +kernel
theorem gd_M_isPrecinct_20 : decode F_M_isPrecinct.2.1 20 = .ok (.iconst 0, 1) := by decide +kernel
theorem gd_M_isPrecinct_21 : decode F_M_isPrecinct.2.1 21 = .ok (.ireturn, 1) := by decide +kernel
theorem gd_M_isUnder_0 : decode F_M_isUnder.2.1 0 = .ok (.iload_n 1, 1) := by decide +kernel
theorem gd_M_isUnder_1 : decode F_M_isUnder.2.1 1 = .ok (.istore_n 3, 1) := by decide +kernel
theorem gd_M_isUnder_2 : decode F_M_isUnder.2.1 2 = .ok (.iload_n 3, 1) := by decide +kernel
theorem gd_M_isUnder_3 : decode F_M_isUnder.2.1 3 = .ok (.ifCond .lt 18, 3) := by decide +kernel
theorem gd_M_isUnder_6 : decode F_M_isUnder.2.1 6 = .ok (.iload_n 3, 1) := by decide +kernel
theorem gd_M_isUnder_7 : decode F_M_isUnder.2.1 7 = .ok (.iload_n 2, 1) := by decide +kernel
theorem gd_M_isUnder_8 : decode F_M_isUnder.2.1 8 = .ok (.if_icmp .eq 13, 3) := by decide +kernel
theorem gd_M_isUnder_11 : decode F_M_isUnder.2.1 11 = .ok (.aload_n 0, 1) := by decide +kernel
theorem gd_M_isUnder_12 : decode F_M_isUnder.2.1 12 = .ok (.getfield 38, 3) := by decide +kernel
theorem gd_M_isUnder_15 : decode F_M_isUnder.2.1 15 = .ok (.iload_n 3, 1) := by decide +kernel
theorem gd_M_isUnder_16 : decode F_M_isUnder.2.1 16 = .ok (.iaload, 1) := by decide +kernel
theorem gd_M_isUnder_17 : decode F_M_isUnder.2.1 17 = .ok (.istore_n 3, 1) := by decide +kernel
theorem gd_M_isUnder_18 : decode F_M_isUnder.2.1 18 = .ok (.goto (-16), 3) := by decide +kernel
theorem gd_M_isUnder_21 : decode F_M_isUnder.2.1 21 = .ok (.iload_n 3, 1) := by decide +kernel
theorem gd_M_isUnder_22 : decode F_M_isUnder.2.1 22 = .ok (.iload_n 2, 1) := by decide +kernel
theorem gd_M_isUnder_23 : decode F_M_isUnder.2.1 23 = .ok (.if_icmp .ne 7, 3) := by decide +kernel
theorem gd_M_isUnder_26 : decode F_M_isUnder.2.1 26 = .ok (.iconst 1, 1) := by decide +kernel
theorem gd_M_isUnder_27 : decode F_M_isUnder.2.1 27 = .ok (.goto 4, 3) := by decide +kernel
theorem gd_M_isUnder_30 : decode F_M_isUnder.2.1 30 = .ok (.iconst 0, 1) := by decide +kernel
theorem gd_M_isUnder_31 : decode F_M_isUnder.2.1 31 = .ok (.ireturn, 1) := by decide +kernel
theorem gd_M_letter_0 : decode F_M_letter.2.1 0 = .ok (.aload_n 0, 1) := by decide +kernel
theorem gd_M_letter_1 : decode F_M_letter.2.1 1 = .ok (.aload_n 0, 1) := by decide +kernel
theorem gd_M_letter_2 : decode F_M_letter.2.1 2 = .ok (.iload_n 1, 1) := by decide +kernel
theorem gd_M_letter_3 : decode F_M_letter.2.1 3 = .ok (.invokevirtual 176, 3) := by decide +kernel
theorem gd_M_letter_6 : decode F_M_letter.2.1 6 = .ok (.ifCond .ne 7, 3) := by decide +kernel
theorem gd_M_letter_9 : decode F_M_letter.2.1 9 = .ok (.iconst 1, 1) := by decide +kernel
theorem gd_M_letter_10 : decode F_M_letter.2.1 10 = .ok (.goto 17, 3) := by decide +kernel
theorem gd_M_letter_13 : decode F_M_letter.2.1 13 = .ok (.iload_n 2, 1) := by decide +kernel
theorem gd_M_letter_14 : decode F_M_letter.2.1 14 = .ok (.iconst 0, 1) := by decide +kernel
theorem gd_M_letter_15 : decode F_M_letter.2.1 15 = .ok (.iconst 4, 1) := by decide +kernel
theorem gd_M_letter_16 : decode F_M_letter.2.1 16 = .ok (.invokestatic 104, 3) := by decide +kernel
theorem gd_M_letter_19 : decode F_M_letter.2.1 19 = .ok (.ifCond .eq 7, 3) := by decide +kernel
theorem gd_M_letter_22 : decode F_M_letter.2.1 22 = .ok (.iconst 0, 1) := by decide +kernel
theorem gd_M_letter_23 : decode F_M_letter.2.1 23 = .ok (.goto 4, 3) := by decide +kernel
theorem gd_M_letter_26 : decode F_M_letter.2.1 26 = .ok (.iconst 2, 1) := by decide +kernel
theorem gd_M_letter_27 : decode F_M_letter.2.1 27 = .ok (.putfield 100, 3) := by decide +kernel
theorem gd_M_letter_30 : decode F_M_letter.2.1 30 = .ok (.aload_n 0, 1) := by decide +kernel
theorem gd_M_letter_31 : decode F_M_letter.2.1 31 = .ok (.getfield 100, 3) := by decide +kernel
theorem gd_M_letter_34 : decode F_M_letter.2.1 34 = .ok (.ifCond .le 5, 3) := by decide +kernel
theorem gd_M_letter_37 : decode F_M_letter.2.1 37 = .ok (.iconst 0, 1) := by decide +kernel
theorem gd_M_letter_38 : decode F_M_letter.2.1 38 = .ok (.ireturn, 1) := by decide +kernel
theorem gd_M_letter_39 : decode F_M_letter.2.1 39 = .ok (.iload_n 2, 1) := by decide +kernel
theorem gd_M_letter_40 : decode F_M_letter.2.1 40 = .ok (.tableswitch 60 0 3 #[32, 39, 46, 53], 32) := by decide +kernel
theorem gd_M_letter_72 : decode F_M_letter.2.1 72 = .ok (.aload_n 0, 1) := by decide +kernel
theorem gd_M_letter_73 : decode F_M_letter.2.1 73 = .ok (.getfield 75, 3) := by decide +kernel
theorem gd_M_letter_76 : decode F_M_letter.2.1 76 = .ok (.iload_n 1, 1) := by decide +kernel
theorem gd_M_letter_77 : decode F_M_letter.2.1 77 = .ok (.iaload, 1) := by decide +kernel
theorem gd_M_letter_78 : decode F_M_letter.2.1 78 = .ok (.ireturn, 1) := by decide +kernel
theorem gd_M_letter_79 : decode F_M_letter.2.1 79 = .ok (.aload_n 0, 1) := by decide +kernel
theorem gd_M_letter_80 : decode F_M_letter.2.1 80 = .ok (.getfield 78, 3) := by decide +kernel
theorem gd_M_letter_83 : decode F_M_letter.2.1 83 = .ok (.iload_n 1, 1) := by decide +kernel
theorem gd_M_letter_84 : decode F_M_letter.2.1 84 = .ok (.iaload, 1) := by decide +kernel
theorem gd_M_letter_85 : decode F_M_letter.2.1 85 = .ok (.ireturn, 1) := by decide +kernel
theorem gd_M_letter_86 : decode F_M_letter.2.1 86 = .ok (.aload_n 0, 1) := by decide +kernel
theorem gd_M_letter_87 : decode F_M_letter.2.1 87 = .ok (.getfield 81, 3) := by decide +kernel
theorem gd_M_letter_90 : decode F_M_letter.2.1 90 = .ok (.iload_n 1, 1) := by decide +kernel
theorem gd_M_letter_91 : decode F_M_letter.2.1 91 = .ok (.iaload, 1) := by decide +kernel
theorem gd_M_letter_92 : decode F_M_letter.2.1 92 = .ok (.ireturn, 1) := by decide +kernel
theorem gd_M_letter_93 : decode F_M_letter.2.1 93 = .ok (.aload_n 0, 1) := by decide +kernel
theorem gd_M_letter_94 : decode F_M_letter.2.1 94 = .ok (.getfield 84, 3) := by decide +kernel
theorem gd_M_letter_97 : decode F_M_letter.2.1 97 = .ok (.iload_n 1, 1) := by decide +kernel
theorem gd_M_letter_98 : decode F_M_letter.2.1 98 = .ok (.iaload, 1) := by decide +kernel
theorem gd_M_letter_99 : decode F_M_letter.2.1 99 = .ok (.ireturn, 1) := by decide +kernel
theorem gd_M_letter_100 : decode F_M_letter.2.1 100 = .ok (.aload_n 0, 1) := by decide +kernel
theorem gd_M_letter_101 : decode F_M_letter.2.1 101 = .ok (.getfield 23, 3) := by decide +kernel
theorem gd_M_letter_104 : decode F_M_letter.2.1 104 = .ok (.aload_n 0, 1) := by decide +kernel
theorem gd_M_letter_105 : decode F_M_letter.2.1 105 = .ok (.getfield 87, 3) := by decide +kernel
theorem gd_M_letter_108 : decode F_M_letter.2.1 108 = .ok (.iload_n 1, 1) := by decide +kernel
theorem gd_M_letter_109 : decode F_M_letter.2.1 109 = .ok (.iaload, 1) := by decide +kernel
theorem gd_M_letter_110 : decode F_M_letter.2.1 110 = .ok (.iaload, 1) := by decide +kernel
theorem gd_M_letter_111 : decode F_M_letter.2.1 111 = .ok (.ireturn, 1) := by decide +kernel
theorem gd_M_letters_0 : decode F_M_letters.2.1 0 = .ok (.aload_n 0, 1) := by decide +kernel
theorem gd_M_letters_1 : decode F_M_letters.2.1 1 = .ok (.iconst 0, 1) := by decide +kernel
theorem gd_M_letters_2 : decode F_M_letters.2.1 2 = .ok (.putfield 100, 3) := by decide +kernel
theorem gd_M_letters_5 : decode F_M_letters.2.1 5 = .ok (.aload_n 0, 1) := by decide +kernel
theorem gd_M_letters_6 : decode F_M_letters.2.1 6 = .ok (.getfield 112, 3) := by decide +kernel
theorem gd_M_letters_9 : decode F_M_letters.2.1 9 = .ok (.ireturn, 1) := by decide +kernel
theorem gd_M_marked_0 : decode F_M_marked.2.1 0 = .ok (.aload_n 0, 1) := by decide +kernel
theorem gd_M_marked_1 : decode F_M_marked.2.1 1 = .ok (.iload_n 1, 1) := by decide +kernel
theorem gd_M_marked_2 : decode F_M_marked.2.1 2 = .ok (.invokestatic 150, 3) := by decide +kernel
theorem gd_M_marked_5 : decode F_M_marked.2.1 5 = .ok (.ifCond .eq 7, 3) := by decide +kernel
theorem gd_M_marked_8 : decode F_M_marked.2.1 8 = .ok (.iconst 0, 1) := by decide +kernel
theorem gd_M_marked_9 : decode F_M_marked.2.1 9 = .ok (.goto 4, 3) := by decide +kernel
theorem gd_M_marked_12 : decode F_M_marked.2.1 12 = .ok (.iconst 1, 1) := by decide +kernel
theorem gd_M_marked_13 : decode F_M_marked.2.1 13 = .ok (.putfield 100, 3) := by decide +kernel
theorem gd_M_marked_16 : decode F_M_marked.2.1 16 = .ok (.iconst 0, 1) := by decide +kernel
theorem gd_M_marked_17 : decode F_M_marked.2.1 17 = .ok (.istore_n 2, 1) := by decide +kernel
theorem gd_M_marked_18 : decode F_M_marked.2.1 18 = .ok (.iconst 0, 1) := by decide +kernel
theorem gd_M_marked_19 : decode F_M_marked.2.1 19 = .ok (.istore_n 3, 1) := by decide +kernel
theorem gd_M_marked_20 : decode F_M_marked.2.1 20 = .ok (.iload_n 3, 1) := by decide +kernel
theorem gd_M_marked_21 : decode F_M_marked.2.1 21 = .ok (.bipush 40, 2) := by decide +kernel
theorem gd_M_marked_23 : decode F_M_marked.2.1 23 = .ok (.if_icmp .ge 43, 3) := by decide +kernel
theorem gd_M_marked_26 : decode F_M_marked.2.1 26 = .ok (.aload_n 0, 1) := by decide +kernel
theorem gd_M_marked_27 : decode F_M_marked.2.1 27 = .ok (.getfield 100, 3) := by decide +kernel
theorem gd_M_marked_30 : decode F_M_marked.2.1 30 = .ok (.ifCond .ne 36, 3) := by decide +kernel
theorem gd_M_marked_33 : decode F_M_marked.2.1 33 = .ok (.iload_n 2, 1) := by decide +kernel
theorem gd_M_marked_34 : decode F_M_marked.2.1 34 = .ok (.aload_n 0, 1) := by decide +kernel
theorem gd_M_marked_35 : decode F_M_marked.2.1 35 = .ok (.getfield 29, 3) := by decide +kernel
theorem gd_M_marked_38 : decode F_M_marked.2.1 38 = .ok (.aload_n 0, 1) := by decide +kernel
theorem gd_M_marked_39 : decode F_M_marked.2.1 39 = .ok (.getfield 44, 3) := by decide +kernel
theorem gd_M_marked_42 : decode F_M_marked.2.1 42 = .ok (.bipush 40, 2) := by decide +kernel
theorem gd_M_marked_44 : decode F_M_marked.2.1 44 = .ok (.iload_n 1, 1) := by decide +kernel
theorem gd_M_marked_45 : decode F_M_marked.2.1 45 = .ok (.imul, 1) := by decide +kernel
theorem gd_M_marked_46 : decode F_M_marked.2.1 46 = .ok (.iload_n 3, 1) := by decide +kernel
theorem gd_M_marked_47 : decode F_M_marked.2.1 47 = .ok (.iadd, 1) := by decide +kernel
theorem gd_M_marked_48 : decode F_M_marked.2.1 48 = .ok (.iaload, 1) := by decide +kernel
theorem gd_M_marked_49 : decode F_M_marked.2.1 49 = .ok (.iaload, 1) := by decide +kernel
theorem gd_M_marked_50 : decode F_M_marked.2.1 50 = .ok (.ifCond .eq 7, 3) := by decide +kernel
theorem gd_M_marked_53 : decode F_M_marked.2.1 53 = .ok (.iconst 1, 1) := by decide +kernel
theorem gd_M_marked_54 : decode F_M_marked.2.1 54 = .ok (.goto 4, 3) := by decide +kernel
theorem gd_M_marked_57 : decode F_M_marked.2.1 57 = .ok (.iconst 0, 1) := by decide +kernel
theorem gd_M_marked_58 : decode F_M_marked.2.1 58 = .ok (.iadd, 1) := by decide +kernel
theorem gd_M_marked_59 : decode F_M_marked.2.1 59 = .ok (.istore_n 2, 1) := by decide +kernel
theorem gd_M_marked_60 : decode F_M_marked.2.1 60 = .ok (.iinc 3 1, 3) := by decide +kernel
theorem gd_M_marked_63 : decode F_M_marked.2.1 63 = .ok (.goto (-43), 3) := by decide +kernel
theorem gd_M_marked_66 : decode F_M_marked.2.1 66 = .ok (.iload_n 2, 1) := by decide +kernel
theorem gd_M_marked_67 : decode F_M_marked.2.1 67 = .ok (.ireturn, 1) := by decide +kernel
theorem gd_M_maySet_0 : decode F_M_maySet.2.1 0 = .ok (.aload_n 0, 1) := by decide +kernel
theorem gd_M_maySet_1 : decode F_M_maySet.2.1 1 = .ok (.getfield 44, 3) := by decide +kernel
theorem gd_M_maySet_4 : decode F_M_maySet.2.1 4 = .ok (.bipush 40, 2) := by decide +kernel
theorem gd_M_maySet_6 : decode F_M_maySet.2.1 6 = .ok (.iload_n 1, 1) := by decide +kernel
theorem gd_M_maySet_7 : decode F_M_maySet.2.1 7 = .ok (.imul, 1) := by decide +kernel
theorem gd_M_maySet_8 : decode F_M_maySet.2.1 8 = .ok (.iload_n 2, 1) := by decide +kernel
theorem gd_M_maySet_9 : decode F_M_maySet.2.1 9 = .ok (.iadd, 1) := by decide +kernel
theorem gd_M_maySet_10 : decode F_M_maySet.2.1 10 = .ok (.iaload, 1) := by decide +kernel
theorem gd_M_maySet_11 : decode F_M_maySet.2.1 11 = .ok (.ifCond .eq 18, 3) := by decide +kernel
theorem gd_M_maySet_14 : decode F_M_maySet.2.1 14 = .ok (.aload_n 0, 1) := by decide +kernel
theorem gd_M_maySet_15 : decode F_M_maySet.2.1 15 = .ok (.getfield 47, 3) := by decide +kernel
theorem gd_M_maySet_18 : decode F_M_maySet.2.1 18 = .ok (.bipush 40, 2) := by decide +kernel
theorem gd_M_maySet_20 : decode F_M_maySet.2.1 20 = .ok (.iload_n 1, 1) := by decide +kernel
theorem gd_M_maySet_21 : decode F_M_maySet.2.1 21 = .ok (.imul, 1) := by decide +kernel
theorem gd_M_maySet_22 : decode F_M_maySet.2.1 22 = .ok (.iload_n 2, 1) := by decide +kernel
theorem gd_M_maySet_23 : decode F_M_maySet.2.1 23 = .ok (.iadd, 1) := by decide +kernel
theorem gd_M_maySet_24 : decode F_M_maySet.2.1 24 = .ok (.iaload, 1) := by decide +kernel
theorem gd_M_maySet_25 : decode F_M_maySet.2.1 25 = .ok (.iload_n 3, 1) := by decide +kernel
theorem gd_M_maySet_26 : decode F_M_maySet.2.1 26 = .ok (.if_icmp .ne 7, 3) := by decide +kernel
theorem gd_M_maySet_29 : decode F_M_maySet.2.1 29 = .ok (.iconst 1, 1) := by decide +kernel
theorem gd_M_maySet_30 : decode F_M_maySet.2.1 30 = .ok (.goto 4, 3) := by decide +kernel
theorem gd_M_maySet_33 : decode F_M_maySet.2.1 33 = .ok (.iconst 0, 1) := by decide +kernel
theorem gd_M_maySet_34 : decode F_M_maySet.2.1 34 = .ok (.ireturn, 1) := by decide +kernel
theorem gd_M_move_0 : decode F_M_move.2.1 0 = .ok (.aload_n 0, 1) := by decide +kernel
theorem gd_M_move_1 : decode F_M_move.2.1 1 = .ok (.aload_n 0, 1) := by decide +kernel
theorem gd_M_move_2 : decode F_M_move.2.1 2 = .ok (.iload_n 1, 1) := by decide +kernel
theorem gd_M_move_3 : decode F_M_move.2.1 3 = .ok (.invokevirtual 154, 3) := by decide +kernel
theorem gd_M_move_6 : decode F_M_move.2.1 6 = .ok (.ifCond .eq 10, 3) := by decide +kernel
theorem gd_M_move_9 : decode F_M_move.2.1 9 = .ok (.iload_n 2, 1) := by decide +kernel
theorem gd_M_move_10 : decode F_M_move.2.1 10 = .ok (.invokestatic 150, 3) := by decide +kernel
theorem gd_M_move_13 : decode F_M_move.2.1 13 = .ok (.ifCond .ne 7, 3) := by decide +kernel
theorem gd_M_move_16 : decode F_M_move.2.1 16 = .ok (.iconst 1, 1) := by decide +kernel
theorem gd_M_move_17 : decode F_M_move.2.1 17 = .ok (.goto 18, 3) := by decide +kernel
theorem gd_M_move_20 : decode F_M_move.2.1 20 = .ok (.aload_n 0, 1) := by decide +kernel
theorem gd_M_move_21 : decode F_M_move.2.1 21 = .ok (.getfield 13, 3) := by decide +kernel
theorem gd_M_move_24 : decode F_M_move.2.1 24 = .ok (.iload_n 1, 1) := by decide +kernel
theorem gd_M_move_25 : decode F_M_move.2.1 25 = .ok (.iaload, 1) := by decide +kernel
theorem gd_M_move_26 : decode F_M_move.2.1 26 = .ok (.iload_n 2, 1) := by decide +kernel
theorem gd_M_move_27 : decode F_M_move.2.1 27 = .ok (.if_icmp .ne 7, 3) := by decide +kernel
theorem gd_M_move_30 : decode F_M_move.2.1 30 = .ok (.iconst 2, 1) := by decide +kernel
theorem gd_M_move_31 : decode F_M_move.2.1 31 = .ok (.goto 4, 3) := by decide +kernel
theorem gd_M_move_34 : decode F_M_move.2.1 34 = .ok (.iconst 0, 1) := by decide +kernel
theorem gd_M_move_35 : decode F_M_move.2.1 35 = .ok (.putfield 100, 3) := by decide +kernel
theorem gd_M_move_38 : decode F_M_move.2.1 38 = .ok (.aload_n 0, 1) := by decide +kernel
theorem gd_M_move_39 : decode F_M_move.2.1 39 = .ok (.getfield 100, 3) := by decide +kernel
theorem gd_M_move_42 : decode F_M_move.2.1 42 = .ok (.ifCond .le 5, 3) := by decide +kernel
theorem gd_M_move_45 : decode F_M_move.2.1 45 = .ok (.iconst 0, 1) := by decide +kernel
theorem gd_M_move_46 : decode F_M_move.2.1 46 = .ok (.ireturn, 1) := by decide +kernel
theorem gd_M_move_47 : decode F_M_move.2.1 47 = .ok (.aload_n 0, 1) := by decide +kernel
theorem gd_M_move_48 : decode F_M_move.2.1 48 = .ok (.getfield 13, 3) := by decide +kernel
theorem gd_M_move_51 : decode F_M_move.2.1 51 = .ok (.iload_n 1, 1) := by decide +kernel
theorem gd_M_move_52 : decode F_M_move.2.1 52 = .ok (.iaload, 1) := by decide +kernel
theorem gd_M_move_53 : decode F_M_move.2.1 53 = .ok (.istore_n 3, 1) := by decide +kernel
theorem gd_M_move_54 : decode F_M_move.2.1 54 = .ok (.aload_n 0, 1) := by decide +kernel
theorem gd_M_move_55 : decode F_M_move.2.1 55 = .ok (.getfield 13, 3) := by decide +kernel
theorem gd_M_move_58 : decode F_M_move.2.1 58 = .ok (.iload_n 1, 1) := by decide +kernel
theorem gd_M_move_59 : decode F_M_move.2.1 59 = .ok (.iload_n 2, 1) := by decide +kernel
theorem gd_M_move_60 : decode F_M_move.2.1 60 = .ok (.iastore, 1) := by decide +kernel
theorem gd_M_move_61 : decode F_M_move.2.1 61 = .ok (.aload_n 0, 1) := by decide +kernel
theorem gd_M_move_62 : decode F_M_move.2.1 62 = .ok (.getfield 35, 3) := by decide +kernel
theorem gd_M_move_65 : decode F_M_move.2.1 65 = .ok (.iload_n 3, 1) := by decide +kernel
theorem gd_M_move_66 : decode F_M_move.2.1 66 = .ok (.baload, 1) := by decide +kernel
theorem gd_M_move_67 : decode F_M_move.2.1 67 = .ok (.ifCond .eq 27, 3) := by decide +kernel
theorem gd_M_move_70 : decode F_M_move.2.1 70 = .ok (.aload_n 0, 1) := by decide +kernel
theorem gd_M_move_71 : decode F_M_move.2.1 71 = .ok (.getfield 50, 3) := by decide +kernel
theorem gd_M_move_74 : decode F_M_move.2.1 74 = .ok (.bipush 40, 2) := by decide +kernel
theorem gd_M_move_76 : decode F_M_move.2.1 76 = .ok (.iload_n 3, 1) := by decide +kernel
theorem gd_M_move_77 : decode F_M_move.2.1 77 = .ok (.imul, 1) := by decide +kernel
theorem gd_M_move_78 : decode F_M_move.2.1 78 = .ok (.iload_n 1, 1) := by decide +kernel
theorem gd_M_move_79 : decode F_M_move.2.1 79 = .ok (.iadd, 1) := by decide +kernel
theorem gd_M_move_80 : decode F_M_move.2.1 80 = .ok (.iconst 0, 1) := by decide +kernel
theorem gd_M_move_81 : decode F_M_move.2.1 81 = .ok (.bastore, 1) := by decide +kernel
theorem gd_M_move_82 : decode F_M_move.2.1 82 = .ok (.aload_n 0, 1) := by decide +kernel
theorem gd_M_move_83 : decode F_M_move.2.1 83 = .ok (.iload_n 3, 1) := by decide +kernel
theorem gd_M_move_84 : decode F_M_move.2.1 84 = .ok (.iload_n 1, 1) := by decide +kernel
theorem gd_M_move_85 : decode F_M_move.2.1 85 = .ok (.iload_n 3, 1) := by decide +kernel
theorem gd_M_move_86 : decode F_M_move.2.1 86 = .ok (.invokevirtual 140, 3) := by decide +kernel
theorem gd_M_move_89 : decode F_M_move.2.1 89 = .ok (.aload_n 0, 1) := by decide +kernel
theorem gd_M_move_90 : decode F_M_move.2.1 90 = .ok (.iload_n 3, 1) := by decide +kernel
theorem gd_M_move_91 : decode F_M_move.2.1 91 = .ok (.invokevirtual 143, 3) := by decide +kernel
theorem gd_M_move_94 : decode F_M_move.2.1 94 = .ok (.aload_n 0, 1) := by decide +kernel
theorem gd_M_move_95 : decode F_M_move.2.1 95 = .ok (.getfield 35, 3) := by decide +kernel
theorem gd_M_move_98 : decode F_M_move.2.1 98 = .ok (.iload_n 2, 1) := by decide +kernel
theorem gd_M_move_99 : decode F_M_move.2.1 99 = .ok (.baload, 1) := by decide +kernel
theorem gd_M_move_100 : decode F_M_move.2.1 100 = .ok (.ifCond .eq 25, 3) := by decide +kernel
theorem gd_M_move_103 : decode F_M_move.2.1 103 = .ok (.aload_n 0, 1) := by decide +kernel
theorem gd_M_move_104 : decode F_M_move.2.1 104 = .ok (.getfield 20, 3) := by decide +kernel
theorem gd_M_move_107 : decode F_M_move.2.1 107 = .ok (.iload_n 1, 1) := by decide +kernel
theorem gd_M_move_108 : decode F_M_move.2.1 108 = .ok (.iaload, 1) := by decide +kernel
theorem gd_M_move_109 : decode F_M_move.2.1 109 = .ok (.ifCond .le 16, 3) := by decide +kernel
theorem gd_M_move_112 : decode F_M_move.2.1 112 = .ok (.aload_n 0, 1) := by decide +kernel
theorem gd_M_move_113 : decode F_M_move.2.1 113 = .ok (.iload_n 2, 1) := by decide +kernel
theorem gd_M_move_114 : decode F_M_move.2.1 114 = .ok (.iload_n 1, 1) := by decide +kernel
theorem gd_M_move_115 : decode F_M_move.2.1 115 = .ok (.invokevirtual 134, 3) := by decide +kernel
theorem gd_M_move_118 : decode F_M_move.2.1 118 = .ok (.ifCond .eq 7, 3) := by decide +kernel
theorem gd_M_move_121 : decode F_M_move.2.1 121 = .ok (.iconst 1, 1) := by decide +kernel
theorem gd_M_move_122 : decode F_M_move.2.1 122 = .ok (.goto 4, 3) := by decide +kernel
theorem gd_M_move_125 : decode F_M_move.2.1 125 = .ok (.iconst 0, 1) := by decide +kernel
theorem gd_M_move_126 : decode F_M_move.2.1 126 = .ok (.ireturn, 1) := by decide +kernel
theorem gd_M_newest_0 : decode F_M_newest.2.1 0 = .ok (.aload_n 0, 1) := by decide +kernel
theorem gd_M_newest_1 : decode F_M_newest.2.1 1 = .ok (.iload_n 1, 1) := by decide +kernel
theorem gd_M_newest_2 : decode F_M_newest.2.1 2 = .ok (.invokestatic 108, 3) := by decide +kernel
theorem gd_M_newest_5 : decode F_M_newest.2.1 5 = .ok (.ifCond .eq 7, 3) := by decide +kernel
theorem gd_M_newest_8 : decode F_M_newest.2.1 8 = .ok (.iconst 0, 1) := by decide +kernel
theorem gd_M_newest_9 : decode F_M_newest.2.1 9 = .ok (.goto 4, 3) := by decide +kernel
theorem gd_M_newest_12 : decode F_M_newest.2.1 12 = .ok (.iconst 1, 1) := by decide +kernel
theorem gd_M_newest_13 : decode F_M_newest.2.1 13 = .ok (.putfield 100, 3) := by decide +kernel
theorem gd_M_newest_16 : decode F_M_newest.2.1 16 = .ok (.aload_n 0, 1) := by decide +kernel
theorem gd_M_newest_17 : decode F_M_newest.2.1 17 = .ok (.getfield 100, 3) := by decide +kernel
theorem gd_M_newest_20 : decode F_M_newest.2.1 20 = .ok (.ifCond .le 7, 3) := by decide +kernel
theorem gd_M_newest_23 : decode F_M_newest.2.1 23 = .ok (.iconst 0, 1) := by decide +kernel
theorem gd_M_newest_24 : decode F_M_newest.2.1 24 = .ok (.goto 27, 3) := by decide +kernel
theorem gd_M_newest_27 : decode F_M_newest.2.1 27 = .ok (.aload_n 0, 1) := by decide +kernel
theorem gd_M_newest_28 : decode F_M_newest.2.1 28 = .ok (.getfield 7, 3) := by decide +kernel
theorem gd_M_newest_31 : decode F_M_newest.2.1 31 = .ok (.iload_n 1, 1) := by decide +kernel
theorem gd_M_newest_32 : decode F_M_newest.2.1 32 = .ok (.baload, 1) := by decide +kernel
theorem gd_M_newest_33 : decode F_M_newest.2.1 33 = .ok (.ifCond .eq 17, 3) := by decide +kernel
theorem gd_M_newest_36 : decode F_M_newest.2.1 36 = .ok (.aload_n 0, 1) := by decide +kernel
theorem gd_M_newest_37 : decode F_M_newest.2.1 37 = .ok (.getfield 23, 3) := by decide +kernel
theorem gd_M_newest_40 : decode F_M_newest.2.1 40 = .ok (.aload_n 0, 1) := by decide +kernel
theorem gd_M_newest_41 : decode F_M_newest.2.1 41 = .ok (.getfield 20, 3) := by decide +kernel
theorem gd_M_newest_44 : decode F_M_newest.2.1 44 = .ok (.iload_n 1, 1) := by decide +kernel
theorem gd_M_newest_45 : decode F_M_newest.2.1 45 = .ok (.iaload, 1) := by decide +kernel
theorem gd_M_newest_46 : decode F_M_newest.2.1 46 = .ok (.iaload, 1) := by decide +kernel
theorem gd_M_newest_47 : decode F_M_newest.2.1 47 = .ok (.goto 4, 3) := by decide +kernel
theorem gd_M_newest_50 : decode F_M_newest.2.1 50 = .ok (.iconst (-1), 1) := by decide +kernel
theorem gd_M_newest_51 : decode F_M_newest.2.1 51 = .ok (.ireturn, 1) := by decide +kernel
theorem gd_M_office_0 : decode F_M_office.2.1 0 = .ok (.aload_n 0, 1) := by decide +kernel
theorem gd_M_office_1 : decode F_M_office.2.1 1 = .ok (.iload_n 1, 1) := by decide +kernel
theorem gd_M_office_2 : decode F_M_office.2.1 2 = .ok (.invokestatic 150, 3) := by decide +kernel
theorem gd_M_office_5 : decode F_M_office.2.1 5 = .ok (.ifCond .ne 7, 3) := by decide +kernel
theorem gd_M_office_8 : decode F_M_office.2.1 8 = .ok (.iconst 1, 1) := by decide +kernel
theorem gd_M_office_9 : decode F_M_office.2.1 9 = .ok (.goto 18, 3) := by decide +kernel
theorem gd_M_office_12 : decode F_M_office.2.1 12 = .ok (.iload_n 2, 1) := by decide +kernel
theorem gd_M_office_13 : decode F_M_office.2.1 13 = .ok (.iconst 0, 1) := by decide +kernel
theorem gd_M_office_14 : decode F_M_office.2.1 14 = .ok (.bipush 7, 2) := by decide +kernel
theorem gd_M_office_16 : decode F_M_office.2.1 16 = .ok (.invokestatic 104, 3) := by decide +kernel
theorem gd_M_office_19 : decode F_M_office.2.1 19 = .ok (.ifCond .eq 7, 3) := by decide +kernel
theorem gd_M_office_22 : decode F_M_office.2.1 22 = .ok (.iconst 0, 1) := by decide +kernel
theorem gd_M_office_23 : decode F_M_office.2.1 23 = .ok (.goto 4, 3) := by decide +kernel
theorem gd_M_office_26 : decode F_M_office.2.1 26 = .ok (.iconst 2, 1) := by decide +kernel
theorem gd_M_office_27 : decode F_M_office.2.1 27 = .ok (.putfield 100, 3) := by decide +kernel
theorem gd_M_office_30 : decode F_M_office.2.1 30 = .ok (.aload_n 0, 1) := by decide +kernel
theorem gd_M_office_31 : decode F_M_office.2.1 31 = .ok (.getfield 100, 3) := by decide +kernel
theorem gd_M_office_34 : decode F_M_office.2.1 34 = .ok (.ifCond .le 5, 3) := by decide +kernel
theorem gd_M_office_37 : decode F_M_office.2.1 37 = .ok (.iconst 0, 1) := by decide +kernel
theorem gd_M_office_38 : decode F_M_office.2.1 38 = .ok (.ireturn, 1) := by decide +kernel
theorem gd_M_office_39 : decode F_M_office.2.1 39 = .ok (.iconst 0, 1) := by decide +kernel
theorem gd_M_office_40 : decode F_M_office.2.1 40 = .ok (.istore_n 3, 1) := by decide +kernel
theorem gd_M_office_41 : decode F_M_office.2.1 41 = .ok (.iconst 0, 1) := by decide +kernel
theorem gd_M_office_42 : decode F_M_office.2.1 42 = .ok (.istore 4, 2) := by decide +kernel
theorem gd_M_office_44 : decode F_M_office.2.1 44 = .ok (.iload 4, 2) := by decide +kernel
theorem gd_M_office_46 : decode F_M_office.2.1 46 = .ok (.bipush 40, 2) := by decide +kernel
theorem gd_M_office_48 : decode F_M_office.2.1 48 = .ok (.if_icmp .ge 32, 3) := by decide +kernel
theorem gd_M_office_51 : decode F_M_office.2.1 51 = .ok (.iload_n 3, 1) := by decide +kernel
theorem gd_M_office_52 : decode F_M_office.2.1 52 = .ok (.aload_n 0, 1) := by decide +kernel
theorem gd_M_office_53 : decode F_M_office.2.1 53 = .ok (.getfield 44, 3) := by decide +kernel
theorem gd_M_office_56 : decode F_M_office.2.1 56 = .ok (.bipush 40, 2) := by decide +kernel
theorem gd_M_office_58 : decode F_M_office.2.1 58 = .ok (.iload_n 1, 1) := by decide +kernel
theorem gd_M_office_59 : decode F_M_office.2.1 59 = .ok (.imul, 1) := by decide +kernel
theorem gd_M_office_60 : decode F_M_office.2.1 60 = .ok (.iload 4, 2) := by decide +kernel
theorem gd_M_office_62 : decode F_M_office.2.1 62 = .ok (.iadd, 1) := by decide +kernel
theorem gd_M_office_63 : decode F_M_office.2.1 63 = .ok (.iaload, 1) := by decide +kernel
theorem gd_M_office_64 : decode F_M_office.2.1 64 = .ok (.ifCond .le 7, 3) := by decide +kernel
theorem gd_M_office_67 : decode F_M_office.2.1 67 = .ok (.iconst 1, 1) := by decide +kernel
theorem gd_M_office_68 : decode F_M_office.2.1 68 = .ok (.goto 4, 3) := by decide +kernel
theorem gd_M_office_71 : decode F_M_office.2.1 71 = .ok (.iconst 0, 1) := by decide +kernel
theorem gd_M_office_72 : decode F_M_office.2.1 72 = .ok (.iadd, 1) := by decide +kernel
theorem gd_M_office_73 : decode F_M_office.2.1 73 = .ok (.istore_n 3, 1) := by decide +kernel
theorem gd_M_office_74 : decode F_M_office.2.1 74 = .ok (.iinc 4 1, 3) := by decide +kernel
theorem gd_M_office_77 : decode F_M_office.2.1 77 = .ok (.goto (-33), 3) := by decide +kernel
theorem gd_M_office_80 : decode F_M_office.2.1 80 = .ok (.iload_n 2, 1) := by decide +kernel
theorem gd_M_office_81 : decode F_M_office.2.1 81 = .ok (.tableswitch 98 0 6 #[43, 50, 57, 72, 78, 84, 91], 43) := by decide +kernel
theorem gd_M_office_124 : decode F_M_office.2.1 124 = .ok (.aload_n 0, 1) := by decide +kernel
theorem gd_M_office_125 : decode F_M_office.2.1 125 = .ok (.getfield 38, 3) := by decide +kernel
theorem gd_M_office_128 : decode F_M_office.2.1 128 = .ok (.iload_n 1, 1) := by decide +kernel
theorem gd_M_office_129 : decode F_M_office.2.1 129 = .ok (.iaload, 1) := by decide +kernel
theorem gd_M_office_130 : decode F_M_office.2.1 130 = .ok (.ireturn, 1) := by decide +kernel
theorem gd_M_office_131 : decode F_M_office.2.1 131 = .ok (.aload_n 0, 1) := by decide +kernel
theorem gd_M_office_132 : decode F_M_office.2.1 132 = .ok (.getfield 41, 3) := by decide +kernel
theorem gd_M_office_135 : decode F_M_office.2.1 135 = .ok (.iload_n 1, 1) := by decide +kernel
theorem gd_M_office_136 : decode F_M_office.2.1 136 = .ok (.iaload, 1) := by decide +kernel
theorem gd_M_office_137 : decode F_M_office.2.1 137 = .ok (.ireturn, 1) := by decide +kernel
theorem gd_M_office_138 : decode F_M_office.2.1 138 = .ok (.aload_n 0, 1) := by decide +kernel
theorem gd_M_office_139 : decode F_M_office.2.1 139 = .ok (.getfield 35, 3) := by decide +kernel
theorem gd_M_office_142 : decode F_M_office.2.1 142 = .ok (.iload_n 1, 1) := by decide +kernel
theorem gd_M_office_143 : decode F_M_office.2.1 143 = .ok (.baload, 1) := by decide +kernel
theorem gd_M_office_144 : decode F_M_office.2.1 144 = .ok (.ifCond .eq 7, 3) := by decide +kernel
theorem gd_M_office_147 : decode F_M_office.2.1 147 = .ok (.iconst 1, 1) := by decide +kernel
theorem gd_M_office_148 : decode F_M_office.2.1 148 = .ok (.goto 4, 3) := by decide +kernel
theorem gd_M_office_151 : decode F_M_office.2.1 151 = .ok (.iconst 0, 1) := by decide +kernel
theorem gd_M_office_152 : decode F_M_office.2.1 152 = .ok (.ireturn, 1) := by decide +kernel
theorem gd_M_office_153 : decode F_M_office.2.1 153 = .ok (.aload_n 0, 1) := by decide +kernel
theorem gd_M_office_154 : decode F_M_office.2.1 154 = .ok (.iload_n 1, 1) := by decide +kernel
theorem gd_M_office_155 : decode F_M_office.2.1 155 = .ok (.invokevirtual 172, 3) := by decide +kernel
theorem gd_M_office_158 : decode F_M_office.2.1 158 = .ok (.ireturn, 1) := by decide +kernel
theorem gd_M_office_159 : decode F_M_office.2.1 159 = .ok (.aload_n 0, 1) := by decide +kernel
theorem gd_M_office_160 : decode F_M_office.2.1 160 = .ok (.iload_n 1, 1) := by decide +kernel
theorem gd_M_office_161 : decode F_M_office.2.1 161 = .ok (.invokevirtual 188, 3) := by decide +kernel
theorem gd_M_office_164 : decode F_M_office.2.1 164 = .ok (.ireturn, 1) := by decide +kernel
theorem gd_M_office_165 : decode F_M_office.2.1 165 = .ok (.aload_n 0, 1) := by decide +kernel
theorem gd_M_office_166 : decode F_M_office.2.1 166 = .ok (.getfield 53, 3) := by decide +kernel
theorem gd_M_office_169 : decode F_M_office.2.1 169 = .ok (.iload_n 1, 1) := by decide +kernel
theorem gd_M_office_170 : decode F_M_office.2.1 170 = .ok (.iaload, 1) := by decide +kernel
theorem gd_M_office_171 : decode F_M_office.2.1 171 = .ok (.ireturn, 1) := by decide +kernel
theorem gd_M_office_172 : decode F_M_office.2.1 172 = .ok (.aload_n 0, 1) := by decide +kernel
theorem gd_M_office_173 : decode F_M_office.2.1 173 = .ok (.getfield 63, 3) := by decide +kernel
theorem gd_M_office_176 : decode F_M_office.2.1 176 = .ok (.iload_n 1, 1) := by decide +kernel
theorem gd_M_office_177 : decode F_M_office.2.1 177 = .ok (.iaload, 1) := by decide +kernel
theorem gd_M_office_178 : decode F_M_office.2.1 178 = .ok (.ireturn, 1) := by decide +kernel
theorem gd_M_office_179 : decode F_M_office.2.1 179 = .ok (.iload_n 3, 1) := by decide +kernel
theorem gd_M_office_180 : decode F_M_office.2.1 180 = .ok (.ireturn, 1) := by decide +kernel
theorem gd_M_precinct_0 : decode F_M_precinct.2.1 0 = .ok (.aload_n 0, 1) := by decide +kernel
theorem gd_M_precinct_1 : decode F_M_precinct.2.1 1 = .ok (.iload_n 1, 1) := by decide +kernel
theorem gd_M_precinct_2 : decode F_M_precinct.2.1 2 = .ok (.invokestatic 108, 3) := by decide +kernel
theorem gd_M_precinct_5 : decode F_M_precinct.2.1 5 = .ok (.ifCond .eq 10, 3) := by decide +kernel
theorem gd_M_precinct_8 : decode F_M_precinct.2.1 8 = .ok (.iload_n 2, 1) := by decide +kernel
theorem gd_M_precinct_9 : decode F_M_precinct.2.1 9 = .ok (.invokestatic 150, 3) := by decide +kernel
theorem gd_M_precinct_12 : decode F_M_precinct.2.1 12 = .ok (.ifCond .ne 7, 3) := by decide +kernel
theorem gd_M_precinct_15 : decode F_M_precinct.2.1 15 = .ok (.iconst 1, 1) := by decide +kernel
theorem gd_M_precinct_16 : decode F_M_precinct.2.1 16 = .ok (.goto 31, 3) := by decide +kernel
theorem gd_M_precinct_19 : decode F_M_precinct.2.1 19 = .ok (.iload_n 3, 1) := by decide +kernel
theorem gd_M_precinct_20 : decode F_M_precinct.2.1 20 = .ok (.iconst 0, 1) := by decide +kernel
theorem gd_M_precinct_21 : decode F_M_precinct.2.1 21 = .ok (.ldc 153, 2) := by decide +kernel
theorem gd_M_precinct_23 : decode F_M_precinct.2.1 23 = .ok (.invokestatic 104, 3) := by decide +kernel
theorem gd_M_precinct_26 : decode F_M_precinct.2.1 26 = .ok (.ifCond .ne 7, 3) := by decide +kernel
theorem gd_M_precinct_29 : decode F_M_precinct.2.1 29 = .ok (.iconst 2, 1) := by decide +kernel
theorem gd_M_precinct_30 : decode F_M_precinct.2.1 30 = .ok (.goto 17, 3) := by decide +kernel
theorem gd_M_precinct_33 : decode F_M_precinct.2.1 33 = .ok (.aload_n 0, 1) := by decide +kernel
theorem gd_M_precinct_34 : decode F_M_precinct.2.1 34 = .ok (.getfield 7, 3) := by decide +kernel
theorem gd_M_precinct_37 : decode F_M_precinct.2.1 37 = .ok (.iload_n 1, 1) := by decide +kernel
theorem gd_M_precinct_38 : decode F_M_precinct.2.1 38 = .ok (.baload, 1) := by decide +kernel
theorem gd_M_precinct_39 : decode F_M_precinct.2.1 39 = .ok (.ifCond .eq 7, 3) := by decide +kernel
theorem gd_M_precinct_42 : decode F_M_precinct.2.1 42 = .ok (.iconst 3, 1) := by decide +kernel
theorem gd_M_precinct_43 : decode F_M_precinct.2.1 43 = .ok (.goto 4, 3) := by decide +kernel
theorem gd_M_precinct_46 : decode F_M_precinct.2.1 46 = .ok (.iconst 0, 1) := by decide +kernel
theorem gd_M_precinct_47 : decode F_M_precinct.2.1 47 = .ok (.putfield 100, 3) := by decide +kernel
theorem gd_M_precinct_50 : decode F_M_precinct.2.1 50 = .ok (.aload_n 0, 1) := by decide +kernel
theorem gd_M_precinct_51 : decode F_M_precinct.2.1 51 = .ok (.getfield 100, 3) := by decide +kernel
theorem gd_M_precinct_54 : decode F_M_precinct.2.1 54 = .ok (.ifCond .ne 24, 3) := by decide +kernel
theorem gd_M_precinct_57 : decode F_M_precinct.2.1 57 = .ok (.aload_n 0, 1) := by decide +kernel
theorem gd_M_precinct_58 : decode F_M_precinct.2.1 58 = .ok (.getfield 7, 3) := by decide +kernel
theorem gd_M_precinct_61 : decode F_M_precinct.2.1 61 = .ok (.iload_n 1, 1) := by decide +kernel
theorem gd_M_precinct_62 : decode F_M_precinct.2.1 62 = .ok (.iconst 1, 1) := by decide +kernel
theorem gd_M_precinct_63 : decode F_M_precinct.2.1 63 = .ok (.bastore, 1) := by decide +kernel
theorem gd_M_precinct_64 : decode F_M_precinct.2.1 64 = .ok (.aload_n 0, 1) := by decide +kernel
theorem gd_M_precinct_65 : decode F_M_precinct.2.1 65 = .ok (.getfield 13, 3) := by decide +kernel
theorem gd_M_precinct_68 : decode F_M_precinct.2.1 68 = .ok (.iload_n 1, 1) := by decide +kernel
theorem gd_M_precinct_69 : decode F_M_precinct.2.1 69 = .ok (.iload_n 2, 1) := by decide +kernel
theorem gd_M_precinct_70 : decode F_M_precinct.2.1 70 = .ok (.iastore, 1) := by decide +kernel
theorem gd_M_precinct_71 : decode F_M_precinct.2.1 71 = .ok (.aload_n 0, 1) := by decide +kernel
theorem gd_M_precinct_72 : decode F_M_precinct.2.1 72 = .ok (.getfield 17, 3) := by decide +kernel
theorem gd_M_precinct_75 : decode F_M_precinct.2.1 75 = .ok (.iload_n 1, 1) := by decide +kernel
theorem gd_M_precinct_76 : decode F_M_precinct.2.1 76 = .ok (.iload_n 3, 1) := by decide +kernel
theorem gd_M_precinct_77 : decode F_M_precinct.2.1 77 = .ok (.iastore, 1) := by decide +kernel
theorem gd_M_precinct_78 : decode F_M_precinct.2.1 78 = .ok (.return_, 1) := by decide +kernel
theorem gd_M_resend_0 : decode F_M_resend.2.1 0 = .ok (.aload_n 0, 1) := by decide +kernel
theorem gd_M_resend_1 : decode F_M_resend.2.1 1 = .ok (.iload_n 1, 1) := by decide +kernel
theorem gd_M_resend_2 : decode F_M_resend.2.1 2 = .ok (.invokestatic 150, 3) := by decide +kernel
theorem gd_M_resend_5 : decode F_M_resend.2.1 5 = .ok (.ifCond .ne 7, 3) := by decide +kernel
theorem gd_M_resend_8 : decode F_M_resend.2.1 8 = .ok (.iconst 1, 1) := by decide +kernel
theorem gd_M_resend_9 : decode F_M_resend.2.1 9 = .ok (.goto 17, 3) := by decide +kernel
theorem gd_M_resend_12 : decode F_M_resend.2.1 12 = .ok (.aload_n 0, 1) := by decide +kernel
theorem gd_M_resend_13 : decode F_M_resend.2.1 13 = .ok (.getfield 38, 3) := by decide +kernel
theorem gd_M_resend_16 : decode F_M_resend.2.1 16 = .ok (.iload_n 1, 1) := by decide +kernel
theorem gd_M_resend_17 : decode F_M_resend.2.1 17 = .ok (.iaload, 1) := by decide +kernel
theorem gd_M_resend_18 : decode F_M_resend.2.1 18 = .ok (.ifCond .ge 7, 3) := by decide +kernel
theorem gd_M_resend_21 : decode F_M_resend.2.1 21 = .ok (.iconst 2, 1) := by decide +kernel
theorem gd_M_resend_22 : decode F_M_resend.2.1 22 = .ok (.goto 4, 3) := by decide +kernel
theorem gd_M_resend_25 : decode F_M_resend.2.1 25 = .ok (.iconst 0, 1) := by decide +kernel
theorem gd_M_resend_26 : decode F_M_resend.2.1 26 = .ok (.putfield 100, 3) := by decide +kernel
theorem gd_M_resend_29 : decode F_M_resend.2.1 29 = .ok (.iconst 0, 1) := by decide +kernel
theorem gd_M_resend_30 : decode F_M_resend.2.1 30 = .ok (.istore_n 2, 1) := by decide +kernel
theorem gd_M_resend_31 : decode F_M_resend.2.1 31 = .ok (.iconst 0, 1) := by decide +kernel
theorem gd_M_resend_32 : decode F_M_resend.2.1 32 = .ok (.istore_n 3, 1) := by decide +kernel
theorem gd_M_resend_33 : decode F_M_resend.2.1 33 = .ok (.aload_n 0, 1) := by decide +kernel
