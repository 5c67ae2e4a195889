/-! Printed by wip/whole/print_names.py: decode rows -/
theorem gd_C_init_0 : decode F_C_init.2.1 0 = .ok (.aload_n 0, 1) := by decide +kernel
theorem gd_C_init_1 : decode F_C_init.2.1 1 = .ok (.invokespecial 1, 3) := by decide +kernel
theorem gd_C_init_4 : decode F_C_init.2.1 4 = .ok (.aload_n 0, 1) := by decide +kernel
theorem gd_C_init_5 : decode F_C_init.2.1 5 = .ok (.iload_n 1, 1) := by decide +kernel
theorem gd_C_init_6 : decode F_C_init.2.1 6 = .ok (.putfield 7, 3) := by decide +kernel
theorem gd_C_init_9 : decode F_C_init.2.1 9 = .ok (.aload_n 0, 1) := by decide +kernel
theorem gd_C_init_10 : decode F_C_init.2.1 10 = .ok (.aload_n 2, 1) := by decide +kernel
theorem gd_C_init_11 : decode F_C_init.2.1 11 = .ok (.putfield 13, 3) := by decide +kernel
theorem gd_C_init_14 : decode F_C_init.2.1 14 = .ok (.return_, 1) := by decide +kernel
theorem gd_H_astray_0 : decode F_H_astray.2.1 0 = .ok (.iconst 0, 1) := by decide +kernel
theorem gd_H_astray_1 : decode F_H_astray.2.1 1 = .ok (.istore_n 1, 1) := by decide +kernel
theorem gd_H_astray_2 : decode F_H_astray.2.1 2 = .ok (.iconst 0, 1) := by decide +kernel
theorem gd_H_astray_3 : decode F_H_astray.2.1 3 = .ok (.istore_n 2, 1) := by decide +kernel
theorem gd_H_astray_4 : decode F_H_astray.2.1 4 = .ok (.iload_n 2, 1) := by decide +kernel
theorem gd_H_astray_5 : decode F_H_astray.2.1 5 = .ok (.bipush 12, 2) := by decide +kernel
theorem gd_H_astray_7 : decode F_H_astray.2.1 7 = .ok (.if_icmp .ge 38, 3) := by decide +kernel
theorem gd_H_astray_10 : decode F_H_astray.2.1 10 = .ok (.aload_n 0, 1) := by decide +kernel
theorem gd_H_astray_11 : decode F_H_astray.2.1 11 = .ok (.aload_n 0, 1) := by decide +kernel
theorem gd_H_astray_12 : decode F_H_astray.2.1 12 = .ok (.getfield 17, 3) := by decide +kernel
theorem gd_H_astray_15 : decode F_H_astray.2.1 15 = .ok (.iload_n 2, 1) := by decide +kernel
theorem gd_H_astray_16 : decode F_H_astray.2.1 16 = .ok (.aaload, 1) := by decide +kernel
theorem gd_H_astray_17 : decode F_H_astray.2.1 17 = .ok (.invokevirtual 288, 3) := by decide +kernel
theorem gd_H_astray_20 : decode F_H_astray.2.1 20 = .ok (.ifCond .ne 16, 3) := by decide +kernel
theorem gd_H_astray_23 : decode F_H_astray.2.1 23 = .ok (.aload_n 0, 1) := by decide +kernel
theorem gd_H_astray_24 : decode F_H_astray.2.1 24 = .ok (.aload_n 0, 1) := by decide +kernel
theorem gd_H_astray_25 : decode F_H_astray.2.1 25 = .ok (.getfield 17, 3) := by decide +kernel
theorem gd_H_astray_28 : decode F_H_astray.2.1 28 = .ok (.iload_n 2, 1) := by decide +kernel
theorem gd_H_astray_29 : decode F_H_astray.2.1 29 = .ok (.aaload, 1) := by decide +kernel
theorem gd_H_astray_30 : decode F_H_astray.2.1 30 = .ok (.invokevirtual 292, 3) := by decide +kernel
theorem gd_H_astray_33 : decode F_H_astray.2.1 33 = .ok (.ifCond .eq 6, 3) := by decide +kernel
theorem gd_H_astray_36 : decode F_H_astray.2.1 36 = .ok (.iinc 1 1, 3) := by decide +kernel
theorem gd_H_astray_39 : decode F_H_astray.2.1 39 = .ok (.iinc 2 1, 3) := by decide +kernel
theorem gd_H_astray_42 : decode F_H_astray.2.1 42 = .ok (.goto (-38), 3) := by decide +kernel
theorem gd_H_astray_45 : decode F_H_astray.2.1 45 = .ok (.iload_n 1, 1) := by decide +kernel
theorem gd_H_astray_46 : decode F_H_astray.2.1 46 = .ok (.ireturn, 1) := by decide +kernel
theorem gd_H_childCount_0 : decode F_H_childCount.2.1 0 = .ok (.iconst 0, 1) := by decide +kernel
theorem gd_H_childCount_1 : decode F_H_childCount.2.1 1 = .ok (.istore_n 2, 1) := by decide +kernel
theorem gd_H_childCount_2 : decode F_H_childCount.2.1 2 = .ok (.iconst 0, 1) := by decide +kernel
theorem gd_H_childCount_3 : decode F_H_childCount.2.1 3 = .ok (.istore_n 3, 1) := by decide +kernel
theorem gd_H_childCount_4 : decode F_H_childCount.2.1 4 = .ok (.iload_n 3, 1) := by decide +kernel
theorem gd_H_childCount_5 : decode F_H_childCount.2.1 5 = .ok (.bipush 12, 2) := by decide +kernel
theorem gd_H_childCount_7 : decode F_H_childCount.2.1 7 = .ok (.if_icmp .ge 25, 3) := by decide +kernel
theorem gd_H_childCount_10 : decode F_H_childCount.2.1 10 = .ok (.aload_n 0, 1) := by decide +kernel
theorem gd_H_childCount_11 : decode F_H_childCount.2.1 11 = .ok (.getfield 17, 3) := by decide +kernel
theorem gd_H_childCount_14 : decode F_H_childCount.2.1 14 = .ok (.iload_n 3, 1) := by decide +kernel
theorem gd_H_childCount_15 : decode F_H_childCount.2.1 15 = .ok (.aaload, 1) := by decide +kernel
theorem gd_H_childCount_16 : decode F_H_childCount.2.1 16 = .ok (.getfield 138, 3) := by decide +kernel
theorem gd_H_childCount_19 : decode F_H_childCount.2.1 19 = .ok (.iload_n 1, 1) := by decide +kernel
theorem gd_H_childCount_20 : decode F_H_childCount.2.1 20 = .ok (.if_icmp .ne 6, 3) := by decide +kernel
theorem gd_H_childCount_23 : decode F_H_childCount.2.1 23 = .ok (.iinc 2 1, 3) := by decide +kernel
theorem gd_H_childCount_26 : decode F_H_childCount.2.1 26 = .ok (.iinc 3 1, 3) := by decide +kernel
theorem gd_H_childCount_29 : decode F_H_childCount.2.1 29 = .ok (.goto (-25), 3) := by decide +kernel
theorem gd_H_childCount_32 : decode F_H_childCount.2.1 32 = .ok (.iload_n 2, 1) := by decide +kernel
theorem gd_H_childCount_33 : decode F_H_childCount.2.1 33 = .ok (.ireturn, 1) := by decide +kernel
theorem gd_H_deliver_0 : decode F_H_deliver.2.1 0 = .ok (.aload_n 0, 1) := by decide +kernel
theorem gd_H_deliver_1 : decode F_H_deliver.2.1 1 = .ok (.iload_n 1, 1) := by decide +kernel
theorem gd_H_deliver_2 : decode F_H_deliver.2.1 2 = .ok (.invokevirtual 182, 3) := by decide +kernel
theorem gd_H_deliver_5 : decode F_H_deliver.2.1 5 = .ok (.aload_n 0, 1) := by decide +kernel
theorem gd_H_deliver_6 : decode F_H_deliver.2.1 6 = .ok (.getfield 24, 3) := by decide +kernel
theorem gd_H_deliver_9 : decode F_H_deliver.2.1 9 = .ok (.iload_n 1, 1) := by decide +kernel
theorem gd_H_deliver_10 : decode F_H_deliver.2.1 10 = .ok (.invokevirtual 185, 3) := by decide +kernel
theorem gd_H_deliver_13 : decode F_H_deliver.2.1 13 = .ok (.checkcast 189, 3) := by decide +kernel
theorem gd_H_deliver_16 : decode F_H_deliver.2.1 16 = .ok (.astore_n 2, 1) := by decide +kernel
theorem gd_H_deliver_17 : decode F_H_deliver.2.1 17 = .ok (.aload_n 0, 1) := by decide +kernel
theorem gd_H_deliver_18 : decode F_H_deliver.2.1 18 = .ok (.getfield 24, 3) := by decide +kernel
theorem gd_H_deliver_21 : decode F_H_deliver.2.1 21 = .ok (.iload_n 1, 1) := by decide +kernel
theorem gd_H_deliver_22 : decode F_H_deliver.2.1 22 = .ok (.invokevirtual 191, 3) := by decide +kernel
theorem gd_H_deliver_25 : decode F_H_deliver.2.1 25 = .ok (.pop, 1) := by decide +kernel
theorem gd_H_deliver_26 : decode F_H_deliver.2.1 26 = .ok (.aload_n 0, 1) := by decide +kernel
theorem gd_H_deliver_27 : decode F_H_deliver.2.1 27 = .ok (.getfield 17, 3) := by decide +kernel
theorem gd_H_deliver_30 : decode F_H_deliver.2.1 30 = .ok (.aload_n 2, 1) := by decide +kernel
theorem gd_H_deliver_31 : decode F_H_deliver.2.1 31 = .ok (.getfield 194, 3) := by decide +kernel
theorem gd_H_deliver_34 : decode F_H_deliver.2.1 34 = .ok (.aaload, 1) := by decide +kernel
theorem gd_H_deliver_35 : decode F_H_deliver.2.1 35 = .ok (.astore_n 3, 1) := by decide +kernel
theorem gd_H_deliver_36 : decode F_H_deliver.2.1 36 = .ok (.aload_n 3, 1) := by decide +kernel
theorem gd_H_deliver_37 : decode F_H_deliver.2.1 37 = .ok (.getfield 138, 3) := by decide +kernel
theorem gd_H_deliver_40 : decode F_H_deliver.2.1 40 = .ok (.iconst (-1), 1) := by decide +kernel
theorem gd_H_deliver_41 : decode F_H_deliver.2.1 41 = .ok (.if_icmp .eq 27, 3) := by decide +kernel
theorem gd_H_deliver_44 : decode F_H_deliver.2.1 44 = .ok (.aload_n 3, 1) := by decide +kernel
theorem gd_H_deliver_45 : decode F_H_deliver.2.1 45 = .ok (.getfield 141, 3) := by decide +kernel
theorem gd_H_deliver_48 : decode F_H_deliver.2.1 48 = .ok (.aload_n 2, 1) := by decide +kernel
theorem gd_H_deliver_49 : decode F_H_deliver.2.1 49 = .ok (.getfield 197, 3) := by decide +kernel
theorem gd_H_deliver_52 : decode F_H_deliver.2.1 52 = .ok (.if_icmp .ne 16, 3) := by decide +kernel
theorem gd_H_deliver_55 : decode F_H_deliver.2.1 55 = .ok (.aload_n 3, 1) := by decide +kernel
theorem gd_H_deliver_56 : decode F_H_deliver.2.1 56 = .ok (.getfield 198, 3) := by decide +kernel
theorem gd_H_deliver_59 : decode F_H_deliver.2.1 59 = .ok (.iconst 1, 1) := by decide +kernel
theorem gd_H_deliver_60 : decode F_H_deliver.2.1 60 = .ok (.iadd, 1) := by decide +kernel
theorem gd_H_deliver_61 : decode F_H_deliver.2.1 61 = .ok (.aload_n 2, 1) := by decide +kernel
theorem gd_H_deliver_62 : decode F_H_deliver.2.1 62 = .ok (.getfield 201, 3) := by decide +kernel
theorem gd_H_deliver_65 : decode F_H_deliver.2.1 65 = .ok (.if_icmp .eq 5, 3) := by decide +kernel
theorem gd_H_deliver_68 : decode F_H_deliver.2.1 68 = .ok (.iconst 0, 1) := by decide +kernel
theorem gd_H_deliver_69 : decode F_H_deliver.2.1 69 = .ok (.ireturn, 1) := by decide +kernel
theorem gd_H_deliver_70 : decode F_H_deliver.2.1 70 = .ok (.aload_n 3, 1) := by decide +kernel
theorem gd_H_deliver_71 : decode F_H_deliver.2.1 71 = .ok (.dup, 1) := by decide +kernel
theorem gd_H_deliver_72 : decode F_H_deliver.2.1 72 = .ok (.getfield 198, 3) := by decide +kernel
theorem gd_H_deliver_75 : decode F_H_deliver.2.1 75 = .ok (.iconst 1, 1) := by decide +kernel
theorem gd_H_deliver_76 : decode F_H_deliver.2.1 76 = .ok (.iadd, 1) := by decide +kernel
theorem gd_H_deliver_77 : decode F_H_deliver.2.1 77 = .ok (.putfield 198, 3) := by decide +kernel
theorem gd_H_deliver_80 : decode F_H_deliver.2.1 80 = .ok (.aload_n 0, 1) := by decide +kernel
theorem gd_H_deliver_81 : decode F_H_deliver.2.1 81 = .ok (.getfield 17, 3) := by decide +kernel
theorem gd_H_deliver_84 : decode F_H_deliver.2.1 84 = .ok (.aload_n 3, 1) := by decide +kernel
theorem gd_H_deliver_85 : decode F_H_deliver.2.1 85 = .ok (.getfield 138, 3) := by decide +kernel
theorem gd_H_deliver_88 : decode F_H_deliver.2.1 88 = .ok (.aaload, 1) := by decide +kernel
theorem gd_H_deliver_89 : decode F_H_deliver.2.1 89 = .ok (.astore 4, 2) := by decide +kernel
theorem gd_H_deliver_91 : decode F_H_deliver.2.1 91 = .ok (.aload_n 2, 1) := by decide +kernel
theorem gd_H_deliver_92 : decode F_H_deliver.2.1 92 = .ok (.getfield 204, 3) := by decide +kernel
theorem gd_H_deliver_95 : decode F_H_deliver.2.1 95 = .ok (.getfield 208, 3) := by decide +kernel
theorem gd_H_deliver_98 : decode F_H_deliver.2.1 98 = .ok (.ifnonnull 20, 3) := by decide +kernel
theorem gd_H_deliver_101 : decode F_H_deliver.2.1 101 = .ok (.aload_n 0, 1) := by decide +kernel
theorem gd_H_deliver_102 : decode F_H_deliver.2.1 102 = .ok (.aload 4, 2) := by decide +kernel
theorem gd_H_deliver_104 : decode F_H_deliver.2.1 104 = .ok (.aload_n 3, 1) := by decide +kernel
theorem gd_H_deliver_105 : decode F_H_deliver.2.1 105 = .ok (.aload_n 2, 1) := by decide +kernel
theorem gd_H_deliver_106 : decode F_H_deliver.2.1 106 = .ok (.getfield 204, 3) := by decide +kernel
theorem gd_H_deliver_109 : decode F_H_deliver.2.1 109 = .ok (.getfield 213, 3) := by decide +kernel
theorem gd_H_deliver_112 : decode F_H_deliver.2.1 112 = .ok (.invokevirtual 216, 3) := by decide +kernel
theorem gd_H_deliver_115 : decode F_H_deliver.2.1 115 = .ok (.goto 14, 3) := by decide +kernel
theorem gd_H_deliver_118 : decode F_H_deliver.2.1 118 = .ok (.aload_n 0, 1) := by decide +kernel
theorem gd_H_deliver_119 : decode F_H_deliver.2.1 119 = .ok (.aload 4, 2) := by decide +kernel
theorem gd_H_deliver_121 : decode F_H_deliver.2.1 121 = .ok (.aload_n 3, 1) := by decide +kernel
theorem gd_H_deliver_122 : decode F_H_deliver.2.1 122 = .ok (.aload_n 2, 1) := by decide +kernel
theorem gd_H_deliver_123 : decode F_H_deliver.2.1 123 = .ok (.getfield 204, 3) := by decide +kernel
theorem gd_H_deliver_126 : decode F_H_deliver.2.1 126 = .ok (.invokevirtual 220, 3) := by decide +kernel
theorem gd_H_deliver_129 : decode F_H_deliver.2.1 129 = .ok (.iconst 1, 1) := by decide +kernel
theorem gd_H_deliver_130 : decode F_H_deliver.2.1 130 = .ok (.ireturn, 1) := by decide +kernel
theorem gd_H_drop_0 : decode F_H_drop.2.1 0 = .ok (.aload_n 0, 1) := by decide +kernel
theorem gd_H_drop_1 : decode F_H_drop.2.1 1 = .ok (.iload_n 1, 1) := by decide +kernel
theorem gd_H_drop_2 : decode F_H_drop.2.1 2 = .ok (.invokevirtual 182, 3) := by decide +kernel
theorem gd_H_drop_5 : decode F_H_drop.2.1 5 = .ok (.aload_n 0, 1) := by decide +kernel
theorem gd_H_drop_6 : decode F_H_drop.2.1 6 = .ok (.getfield 24, 3) := by decide +kernel
theorem gd_H_drop_9 : decode F_H_drop.2.1 9 = .ok (.iload_n 1, 1) := by decide +kernel
theorem gd_H_drop_10 : decode F_H_drop.2.1 10 = .ok (.invokevirtual 191, 3) := by decide +kernel
theorem gd_H_drop_13 : decode F_H_drop.2.1 13 = .ok (.pop, 1) := by decide +kernel
theorem gd_H_drop_14 : decode F_H_drop.2.1 14 = .ok (.aload_n 0, 1) := by decide +kernel
theorem gd_H_drop_15 : decode F_H_drop.2.1 15 = .ok (.getfield 24, 3) := by decide +kernel
theorem gd_H_drop_18 : decode F_H_drop.2.1 18 = .ok (.invokevirtual 224, 3) := by decide +kernel
theorem gd_H_drop_21 : decode F_H_drop.2.1 21 = .ok (.ireturn, 1) := by decide +kernel
theorem gd_H_exclude_0 : decode F_H_exclude.2.1 0 = .ok (.aload_n 1, 1) := by decide +kernel
theorem gd_H_exclude_1 : decode F_H_exclude.2.1 1 = .ok (.getfield 144, 3) := by decide +kernel
theorem gd_H_exclude_4 : decode F_H_exclude.2.1 4 = .ok (.iload_n 2, 1) := by decide +kernel
theorem gd_H_exclude_5 : decode F_H_exclude.2.1 5 = .ok (.aconst_null, 1) := by decide +kernel
theorem gd_H_exclude_6 : decode F_H_exclude.2.1 6 = .ok (.aastore, 1) := by decide +kernel
theorem gd_H_exclude_7 : decode F_H_exclude.2.1 7 = .ok (.aload_n 1, 1) := by decide +kernel
theorem gd_H_exclude_8 : decode F_H_exclude.2.1 8 = .ok (.getfield 179, 3) := by decide +kernel
theorem gd_H_exclude_11 : decode F_H_exclude.2.1 11 = .ok (.iload_n 2, 1) := by decide +kernel
theorem gd_H_exclude_12 : decode F_H_exclude.2.1 12 = .ok (.iconst (-1), 1) := by decide +kernel
theorem gd_H_exclude_13 : decode F_H_exclude.2.1 13 = .ok (.iastore, 1) := by decide +kernel
theorem gd_H_exclude_14 : decode F_H_exclude.2.1 14 = .ok (.aload_n 0, 1) := by decide +kernel
theorem gd_H_exclude_15 : decode F_H_exclude.2.1 15 = .ok (.aload_n 1, 1) := by decide +kernel
theorem gd_H_exclude_16 : decode F_H_exclude.2.1 16 = .ok (.iload_n 2, 1) := by decide +kernel
theorem gd_H_exclude_17 : decode F_H_exclude.2.1 17 = .ok (.invokevirtual 148, 3) := by decide +kernel
theorem gd_H_exclude_20 : decode F_H_exclude.2.1 20 = .ok (.return_, 1) := by decide +kernel
theorem gd_H_fail_0 : decode F_H_fail.2.1 0 = .ok (.iload_n 1, 1) := by decide +kernel
theorem gd_H_fail_1 : decode F_H_fail.2.1 1 = .ok (.invokestatic 48, 3) := by decide +kernel
theorem gd_H_fail_4 : decode F_H_fail.2.1 4 = .ok (.aload_n 0, 1) := by decide +kernel
theorem gd_H_fail_5 : decode F_H_fail.2.1 5 = .ok (.getfield 17, 3) := by decide +kernel
theorem gd_H_fail_8 : decode F_H_fail.2.1 8 = .ok (.iload_n 1, 1) := by decide +kernel
theorem gd_H_fail_9 : decode F_H_fail.2.1 9 = .ok (.aaload, 1) := by decide +kernel
theorem gd_H_fail_10 : decode F_H_fail.2.1 10 = .ok (.astore_n 2, 1) := by decide +kernel
theorem gd_H_fail_11 : decode F_H_fail.2.1 11 = .ok (.aload_n 2, 1) := by decide +kernel
theorem gd_H_fail_12 : decode F_H_fail.2.1 12 = .ok (.getfield 119, 3) := by decide +kernel
theorem gd_H_fail_15 : decode F_H_fail.2.1 15 = .ok (.ifCond .ne 13, 3) := by decide +kernel
theorem gd_H_fail_18 : decode F_H_fail.2.1 18 = .ok (.new 54, 3) := by decide +kernel
theorem gd_H_fail_21 : decode F_H_fail.2.1 21 = .ok (.dup, 1) := by decide +kernel
theorem gd_H_fail_22 : decode F_H_fail.2.1 22 = .ok (.ldc 152, 2) := by decide +kernel
theorem gd_H_fail_24 : decode F_H_fail.2.1 24 = .ok (.invokespecial 58, 3) := by decide +kernel
theorem gd_H_fail_27 : decode F_H_fail.2.1 27 = .ok (.athrow, 1) := by decide +kernel
theorem gd_H_fail_28 : decode F_H_fail.2.1 28 = .ok (.aload_n 0, 1) := by decide +kernel
theorem gd_H_fail_29 : decode F_H_fail.2.1 29 = .ok (.getfield 154, 3) := by decide +kernel
theorem gd_H_fail_32 : decode F_H_fail.2.1 32 = .ok (.bipush 30, 2) := by decide +kernel
theorem gd_H_fail_34 : decode F_H_fail.2.1 34 = .ok (.if_icmp .lt 13, 3) := by decide +kernel
theorem gd_H_fail_37 : decode F_H_fail.2.1 37 = .ok (.new 84, 3) := by decide +kernel
theorem gd_H_fail_40 : decode F_H_fail.2.1 40 = .ok (.dup, 1) := by decide +kernel
theorem gd_H_fail_41 : decode F_H_fail.2.1 41 = .ok (.ldc 157, 2) := by decide +kernel
theorem gd_H_fail_43 : decode F_H_fail.2.1 43 = .ok (.invokespecial 88, 3) := by decide +kernel
theorem gd_H_fail_46 : decode F_H_fail.2.1 46 = .ok (.athrow, 1) := by decide +kernel
theorem gd_H_fail_47 : decode F_H_fail.2.1 47 = .ok (.aload_n 0, 1) := by decide +kernel
theorem gd_H_fail_48 : decode F_H_fail.2.1 48 = .ok (.dup, 1) := by decide +kernel
theorem gd_H_fail_49 : decode F_H_fail.2.1 49 = .ok (.getfield 154, 3) := by decide +kernel
theorem gd_H_fail_52 : decode F_H_fail.2.1 52 = .ok (.iconst 1, 1) := by decide +kernel
theorem gd_H_fail_53 : decode F_H_fail.2.1 53 = .ok (.iadd, 1) := by decide +kernel
theorem gd_H_fail_54 : decode F_H_fail.2.1 54 = .ok (.putfield 154, 3) := by decide +kernel
theorem gd_H_fail_57 : decode F_H_fail.2.1 57 = .ok (.aload_n 0, 1) := by decide +kernel
theorem gd_H_fail_58 : decode F_H_fail.2.1 58 = .ok (.aload_n 2, 1) := by decide +kernel
theorem gd_H_fail_59 : decode F_H_fail.2.1 59 = .ok (.invokevirtual 134, 3) := by decide +kernel
theorem gd_H_fail_62 : decode F_H_fail.2.1 62 = .ok (.iconst 0, 1) := by decide +kernel
theorem gd_H_fail_63 : decode F_H_fail.2.1 63 = .ok (.istore_n 3, 1) := by decide +kernel
theorem gd_H_fail_64 : decode F_H_fail.2.1 64 = .ok (.iconst 0, 1) := by decide +kernel
theorem gd_H_fail_65 : decode F_H_fail.2.1 65 = .ok (.istore 4, 2) := by decide +kernel
theorem gd_H_fail_67 : decode F_H_fail.2.1 67 = .ok (.iload 4, 2) := by decide +kernel
theorem gd_H_fail_69 : decode F_H_fail.2.1 69 = .ok (.bipush 12, 2) := by decide +kernel
theorem gd_H_fail_71 : decode F_H_fail.2.1 71 = .ok (.if_icmp .ge 36, 3) := by decide +kernel
theorem gd_H_fail_74 : decode F_H_fail.2.1 74 = .ok (.aload_n 0, 1) := by decide +kernel
theorem gd_H_fail_75 : decode F_H_fail.2.1 75 = .ok (.getfield 17, 3) := by decide +kernel
theorem gd_H_fail_78 : decode F_H_fail.2.1 78 = .ok (.iload 4, 2) := by decide +kernel
theorem gd_H_fail_80 : decode F_H_fail.2.1 80 = .ok (.aaload, 1) := by decide +kernel
theorem gd_H_fail_81 : decode F_H_fail.2.1 81 = .ok (.getfield 138, 3) := by decide +kernel
theorem gd_H_fail_84 : decode F_H_fail.2.1 84 = .ok (.iload_n 1, 1) := by decide +kernel
theorem gd_H_fail_85 : decode F_H_fail.2.1 85 = .ok (.if_icmp .ne 16, 3) := by decide +kernel
theorem gd_H_fail_88 : decode F_H_fail.2.1 88 = .ok (.aload_n 0, 1) := by decide +kernel
theorem gd_H_fail_89 : decode F_H_fail.2.1 89 = .ok (.getfield 17, 3) := by decide +kernel
theorem gd_H_fail_92 : decode F_H_fail.2.1 92 = .ok (.iload 4, 2) := by decide +kernel
theorem gd_H_fail_94 : decode F_H_fail.2.1 94 = .ok (.aaload, 1) := by decide +kernel
theorem gd_H_fail_95 : decode F_H_fail.2.1 95 = .ok (.invokevirtual 159, 3) := by decide +kernel
theorem gd_H_fail_98 : decode F_H_fail.2.1 98 = .ok (.iinc 3 1, 3) := by decide +kernel
theorem gd_H_fail_101 : decode F_H_fail.2.1 101 = .ok (.iinc 4 1, 3) := by decide +kernel
theorem gd_H_fail_104 : decode F_H_fail.2.1 104 = .ok (.goto (-37), 3) := by decide +kernel
theorem gd_H_fail_107 : decode F_H_fail.2.1 107 = .ok (.aload_n 2, 1) := by decide +kernel
theorem gd_H_fail_108 : decode F_H_fail.2.1 108 = .ok (.invokevirtual 162, 3) := by decide +kernel
theorem gd_H_fail_111 : decode F_H_fail.2.1 111 = .ok (.aload_n 2, 1) := by decide +kernel
theorem gd_H_fail_112 : decode F_H_fail.2.1 112 = .ok (.iconst 0, 1) := by decide +kernel
theorem gd_H_fail_113 : decode F_H_fail.2.1 113 = .ok (.putfield 119, 3) := by decide +kernel
theorem gd_H_fail_116 : decode F_H_fail.2.1 116 = .ok (.iload_n 3, 1) := by decide +kernel
theorem gd_H_fail_117 : decode F_H_fail.2.1 117 = .ok (.ireturn, 1) := by decide +kernel
theorem gd_H_giveUpOwn_0 : decode F_H_giveUpOwn.2.1 0 = .ok (.aload_n 1, 1) := by decide +kernel
theorem gd_H_giveUpOwn_1 : decode F_H_giveUpOwn.2.1 1 = .ok (.getfield 322, 3) := by decide +kernel
theorem gd_H_giveUpOwn_4 : decode F_H_giveUpOwn.2.1 4 = .ok (.iload_n 2, 1) := by decide +kernel
theorem gd_H_giveUpOwn_5 : decode F_H_giveUpOwn.2.1 5 = .ok (.iconst 0, 1) := by decide +kernel
theorem gd_H_giveUpOwn_6 : decode F_H_giveUpOwn.2.1 6 = .ok (.bastore, 1) := by decide +kernel
theorem gd_H_giveUpOwn_7 : decode F_H_giveUpOwn.2.1 7 = .ok (.aload_n 1, 1) := by decide +kernel
theorem gd_H_giveUpOwn_8 : decode F_H_giveUpOwn.2.1 8 = .ok (.getfield 179, 3) := by decide +kernel
theorem gd_H_giveUpOwn_11 : decode F_H_giveUpOwn.2.1 11 = .ok (.iload_n 2, 1) := by decide +kernel
theorem gd_H_giveUpOwn_12 : decode F_H_giveUpOwn.2.1 12 = .ok (.iaload, 1) := by decide +kernel
theorem gd_H_giveUpOwn_13 : decode F_H_giveUpOwn.2.1 13 = .ok (.aload_n 1, 1) := by decide +kernel
theorem gd_H_giveUpOwn_14 : decode F_H_giveUpOwn.2.1 14 = .ok (.getfield 318, 3) := by decide +kernel
theorem gd_H_giveUpOwn_17 : decode F_H_giveUpOwn.2.1 17 = .ok (.if_icmp .ne 9, 3) := by decide +kernel
theorem gd_H_giveUpOwn_20 : decode F_H_giveUpOwn.2.1 20 = .ok (.aload_n 0, 1) := by decide +kernel
theorem gd_H_giveUpOwn_21 : decode F_H_giveUpOwn.2.1 21 = .ok (.aload_n 1, 1) := by decide +kernel
theorem gd_H_giveUpOwn_22 : decode F_H_giveUpOwn.2.1 22 = .ok (.iload_n 2, 1) := by decide +kernel
theorem gd_H_giveUpOwn_23 : decode F_H_giveUpOwn.2.1 23 = .ok (.invokevirtual 326, 3) := by decide +kernel
theorem gd_H_giveUpOwn_26 : decode F_H_giveUpOwn.2.1 26 = .ok (.aload_n 0, 1) := by decide +kernel
theorem gd_H_giveUpOwn_27 : decode F_H_giveUpOwn.2.1 27 = .ok (.aload_n 1, 1) := by decide +kernel
theorem gd_H_giveUpOwn_28 : decode F_H_giveUpOwn.2.1 28 = .ok (.invokevirtual 329, 3) := by decide +kernel
theorem gd_H_giveUpOwn_31 : decode F_H_giveUpOwn.2.1 31 = .ok (.return_, 1) := by decide +kernel
theorem gd_H_hang_0 : decode F_H_hang.2.1 0 = .ok (.iload_n 1, 1) := by decide +kernel
theorem gd_H_hang_1 : decode F_H_hang.2.1 1 = .ok (.invokestatic 48, 3) := by decide +kernel
theorem gd_H_hang_4 : decode F_H_hang.2.1 4 = .ok (.iload_n 2, 1) := by decide +kernel
theorem gd_H_hang_5 : decode F_H_hang.2.1 5 = .ok (.invokestatic 48, 3) := by decide +kernel
theorem gd_H_hang_8 : decode F_H_hang.2.1 8 = .ok (.iload_n 1, 1) := by decide +kernel
theorem gd_H_hang_9 : decode F_H_hang.2.1 9 = .ok (.ifCond .eq 8, 3) := by decide +kernel
theorem gd_H_hang_12 : decode F_H_hang.2.1 12 = .ok (.iload_n 1, 1) := by decide +kernel
theorem gd_H_hang_13 : decode F_H_hang.2.1 13 = .ok (.iload_n 2, 1) := by decide +kernel
theorem gd_H_hang_14 : decode F_H_hang.2.1 14 = .ok (.if_icmp .ne 13, 3) := by decide +kernel
theorem gd_H_hang_17 : decode F_H_hang.2.1 17 = .ok (.new 75, 3) := by decide +kernel
theorem gd_H_hang_20 : decode F_H_hang.2.1 20 = .ok (.dup, 1) := by decide +kernel
theorem gd_H_hang_21 : decode F_H_hang.2.1 21 = .ok (.ldc 117, 2) := by decide +kernel
theorem gd_H_hang_23 : decode F_H_hang.2.1 23 = .ok (.invokespecial 79, 3) := by decide +kernel
theorem gd_H_hang_26 : decode F_H_hang.2.1 26 = .ok (.athrow, 1) := by decide +kernel
theorem gd_H_hang_27 : decode F_H_hang.2.1 27 = .ok (.aload_n 0, 1) := by decide +kernel
theorem gd_H_hang_28 : decode F_H_hang.2.1 28 = .ok (.getfield 17, 3) := by decide +kernel
theorem gd_H_hang_31 : decode F_H_hang.2.1 31 = .ok (.iload_n 1, 1) := by decide +kernel
theorem gd_H_hang_32 : decode F_H_hang.2.1 32 = .ok (.aaload, 1) := by decide +kernel
theorem gd_H_hang_33 : decode F_H_hang.2.1 33 = .ok (.astore_n 3, 1) := by decide +kernel
theorem gd_H_hang_34 : decode F_H_hang.2.1 34 = .ok (.aload_n 3, 1) := by decide +kernel
theorem gd_H_hang_35 : decode F_H_hang.2.1 35 = .ok (.getfield 119, 3) := by decide +kernel
theorem gd_H_hang_38 : decode F_H_hang.2.1 38 = .ok (.ifCond .eq 24, 3) := by decide +kernel
theorem gd_H_hang_41 : decode F_H_hang.2.1 41 = .ok (.aload_n 0, 1) := by decide +kernel
theorem gd_H_hang_42 : decode F_H_hang.2.1 42 = .ok (.getfield 17, 3) := by decide +kernel
theorem gd_H_hang_45 : decode F_H_hang.2.1 45 = .ok (.iload_n 2, 1) := by decide +kernel
theorem gd_H_hang_46 : decode F_H_hang.2.1 46 = .ok (.aaload, 1) := by decide +kernel
theorem gd_H_hang_47 : decode F_H_hang.2.1 47 = .ok (.getfield 119, 3) := by decide +kernel
theorem gd_H_hang_50 : decode F_H_hang.2.1 50 = .ok (.ifCond .eq 12, 3) := by decide +kernel
theorem gd_H_hang_53 : decode F_H_hang.2.1 53 = .ok (.aload_n 0, 1) := by decide +kernel
theorem gd_H_hang_54 : decode F_H_hang.2.1 54 = .ok (.iload_n 1, 1) := by decide +kernel
theorem gd_H_hang_55 : decode F_H_hang.2.1 55 = .ok (.iload_n 2, 1) := by decide +kernel
theorem gd_H_hang_56 : decode F_H_hang.2.1 56 = .ok (.invokevirtual 123, 3) := by decide +kernel
theorem gd_H_hang_59 : decode F_H_hang.2.1 59 = .ok (.ifCond .eq 13, 3) := by decide +kernel
theorem gd_H_hang_62 : decode F_H_hang.2.1 62 = .ok (.new 54, 3) := by decide +kernel
theorem gd_H_hang_65 : decode F_H_hang.2.1 65 = .ok (.dup, 1) := by decide +kernel
theorem gd_H_hang_66 : decode F_H_hang.2.1 66 = .ok (.ldc 127, 2) := by decide +kernel
theorem gd_H_hang_68 : decode F_H_hang.2.1 68 = .ok (.invokespecial 58, 3) := by decide +kernel
theorem gd_H_hang_71 : decode F_H_hang.2.1 71 = .ok (.athrow, 1) := by decide +kernel
theorem gd_H_hang_72 : decode F_H_hang.2.1 72 = .ok (.aload_n 0, 1) := by decide +kernel
theorem gd_H_hang_73 : decode F_H_hang.2.1 73 = .ok (.getfield 129, 3) := by decide +kernel
theorem gd_H_hang_76 : decode F_H_hang.2.1 76 = .ok (.bipush 60, 2) := by decide +kernel
theorem gd_H_hang_78 : decode F_H_hang.2.1 78 = .ok (.if_icmp .lt 13, 3) := by decide +kernel
theorem gd_H_hang_81 : decode F_H_hang.2.1 81 = .ok (.new 84, 3) := by decide +kernel
theorem gd_H_hang_84 : decode F_H_hang.2.1 84 = .ok (.dup, 1) := by decide +kernel
theorem gd_H_hang_85 : decode F_H_hang.2.1 85 = .ok (.ldc 132, 2) := by decide +kernel
theorem gd_H_hang_87 : decode F_H_hang.2.1 87 = .ok (.invokespecial 88, 3) := by decide +kernel
theorem gd_H_hang_90 : decode F_H_hang.2.1 90 = .ok (.athrow, 1) := by decide +kernel
theorem gd_H_hang_91 : decode F_H_hang.2.1 91 = .ok (.aload_n 0, 1) := by decide +kernel
theorem gd_H_hang_92 : decode F_H_hang.2.1 92 = .ok (.dup, 1) := by decide +kernel
theorem gd_H_hang_93 : decode F_H_hang.2.1 93 = .ok (.getfield 129, 3) := by decide +kernel
theorem gd_H_hang_96 : decode F_H_hang.2.1 96 = .ok (.iconst 1, 1) := by decide +kernel
theorem gd_H_hang_97 : decode F_H_hang.2.1 97 = .ok (.iadd, 1) := by decide +kernel
theorem gd_H_hang_98 : decode F_H_hang.2.1 98 = .ok (.putfield 129, 3) := by decide +kernel
theorem gd_H_hang_101 : decode F_H_hang.2.1 101 = .ok (.aload_n 0, 1) := by decide +kernel
theorem gd_H_hang_102 : decode F_H_hang.2.1 102 = .ok (.aload_n 3, 1) := by decide +kernel
theorem gd_H_hang_103 : decode F_H_hang.2.1 103 = .ok (.invokevirtual 134, 3) := by decide +kernel
theorem gd_H_hang_106 : decode F_H_hang.2.1 106 = .ok (.aload_n 3, 1) := by decide +kernel
theorem gd_H_hang_107 : decode F_H_hang.2.1 107 = .ok (.iload_n 2, 1) := by decide +kernel
theorem gd_H_hang_108 : decode F_H_hang.2.1 108 = .ok (.putfield 138, 3) := by decide +kernel
theorem gd_H_hang_111 : decode F_H_hang.2.1 111 = .ok (.aload_n 3, 1) := by decide +kernel
theorem gd_H_hang_112 : decode F_H_hang.2.1 112 = .ok (.dup, 1) := by decide +kernel
theorem gd_H_hang_113 : decode F_H_hang.2.1 113 = .ok (.getfield 141, 3) := by decide +kernel
theorem gd_H_hang_116 : decode F_H_hang.2.1 116 = .ok (.iconst 1, 1) := by decide +kernel
theorem gd_H_hang_117 : decode F_H_hang.2.1 117 = .ok (.iadd, 1) := by decide +kernel
theorem gd_H_hang_118 : decode F_H_hang.2.1 118 = .ok (.putfield 141, 3) := by decide +kernel
theorem gd_H_hang_121 : decode F_H_hang.2.1 121 = .ok (.iconst 0, 1) := by decide +kernel
theorem gd_H_hang_122 : decode F_H_hang.2.1 122 = .ok (.istore 4, 2) := by decide +kernel
theorem gd_H_hang_124 : decode F_H_hang.2.1 124 = .ok (.iload 4, 2) := by decide +kernel
theorem gd_H_hang_126 : decode F_H_hang.2.1 126 = .ok (.bipush 40, 2) := by decide +kernel
theorem gd_H_hang_128 : decode F_H_hang.2.1 128 = .ok (.if_icmp .ge 26, 3) := by decide +kernel
theorem gd_H_hang_131 : decode F_H_hang.2.1 131 = .ok (.aload_n 3, 1) := by decide +kernel
theorem gd_H_hang_132 : decode F_H_hang.2.1 132 = .ok (.getfield 144, 3) := by decide +kernel
theorem gd_H_hang_135 : decode F_H_hang.2.1 135 = .ok (.iload 4, 2) := by decide +kernel
theorem gd_H_hang_137 : decode F_H_hang.2.1 137 = .ok (.aaload, 1) := by decide +kernel
theorem gd_H_hang_138 : decode F_H_hang.2.1 138 = .ok (.ifnull 10, 3) := by decide +kernel
theorem gd_H_hang_141 : decode F_H_hang.2.1 141 = .ok (.aload_n 0, 1) := by decide +kernel
theorem gd_H_hang_142 : decode F_H_hang.2.1 142 = .ok (.aload_n 3, 1) := by decide +kernel
theorem gd_H_hang_143 : decode F_H_hang.2.1 143 = .ok (.iload 4, 2) := by decide +kernel
theorem gd_H_hang_145 : decode F_H_hang.2.1 145 = .ok (.invokevirtual 148, 3) := by decide +kernel
theorem gd_H_hang_148 : decode F_H_hang.2.1 148 = .ok (.iinc 4 1, 3) := by decide +kernel
theorem gd_H_hang_151 : decode F_H_hang.2.1 151 = .ok (.goto (-27), 3) := by decide +kernel
theorem gd_H_hang_154 : decode F_H_hang.2.1 154 = .ok (.aload_n 3, 1) := by decide +kernel
theorem gd_H_hang_155 : decode F_H_hang.2.1 155 = .ok (.getfield 141, 3) := by decide +kernel
theorem gd_H_hang_158 : decode F_H_hang.2.1 158 = .ok (.ireturn, 1) := by decide +kernel
theorem gd_H_hasStraySum_0 : decode F_H_hasStraySum.2.1 0 = .ok (.iconst 0, 1) := by decide +kernel
theorem gd_H_hasStraySum_1 : decode F_H_hasStraySum.2.1 1 = .ok (.istore_n 2, 1) := by decide +kernel
theorem gd_H_hasStraySum_2 : decode F_H_hasStraySum.2.1 2 = .ok (.iload_n 2, 1) := by decide +kernel
theorem gd_H_hasStraySum_3 : decode F_H_hasStraySum.2.1 3 = .ok (.bipush 6, 2) := by decide +kernel
theorem gd_H_hasStraySum_5 : decode F_H_hasStraySum.2.1 5 = .ok (.if_icmp .ge 74, 3) := by decide +kernel
theorem gd_H_hasStraySum_8 : decode F_H_hasStraySum.2.1 8 = .ok (.aload_n 1, 1) := by decide +kernel
theorem gd_H_hasStraySum_9 : decode F_H_hasStraySum.2.1 9 = .ok (.aload_n 1, 1) := by decide +kernel
theorem gd_H_hasStraySum_10 : decode F_H_hasStraySum.2.1 10 = .ok (.getfield 318, 3) := by decide +kernel
theorem gd_H_hasStraySum_13 : decode F_H_hasStraySum.2.1 13 = .ok (.iload_n 2, 1) := by decide +kernel
theorem gd_H_hasStraySum_14 : decode F_H_hasStraySum.2.1 14 = .ok (.invokevirtual 253, 3) := by decide +kernel
theorem gd_H_hasStraySum_17 : decode F_H_hasStraySum.2.1 17 = .ok (.lstore_n 3, 1) := by decide +kernel
theorem gd_H_hasStraySum_18 : decode F_H_hasStraySum.2.1 18 = .ok (.iconst 0, 1) := by decide +kernel
theorem gd_H_hasStraySum_19 : decode F_H_hasStraySum.2.1 19 = .ok (.istore 5, 2) := by decide +kernel
theorem gd_H_hasStraySum_21 : decode F_H_hasStraySum.2.1 21 = .ok (.iload 5, 2) := by decide +kernel
theorem gd_H_hasStraySum_23 : decode F_H_hasStraySum.2.1 23 = .ok (.bipush 12, 2) := by decide +kernel
theorem gd_H_hasStraySum_25 : decode F_H_hasStraySum.2.1 25 = .ok (.if_icmp .ge 36, 3) := by decide +kernel
theorem gd_H_hasStraySum_28 : decode F_H_hasStraySum.2.1 28 = .ok (.aload_n 0, 1) := by decide +kernel
theorem gd_H_hasStraySum_29 : decode F_H_hasStraySum.2.1 29 = .ok (.getfield 17, 3) := by decide +kernel
theorem gd_H_hasStraySum_32 : decode F_H_hasStraySum.2.1 32 = .ok (.iload 5, 2) := by decide +kernel
theorem gd_H_hasStraySum_34 : decode F_H_hasStraySum.2.1 34 = .ok (.aaload, 1) := by decide +kernel
theorem gd_H_hasStraySum_35 : decode F_H_hasStraySum.2.1 35 = .ok (.getfield 138, 3) := by decide +kernel
theorem gd_H_hasStraySum_38 : decode F_H_hasStraySum.2.1 38 = .ok (.aload_n 1, 1) := by decide +kernel
theorem gd_H_hasStraySum_39 : decode F_H_hasStraySum.2.1 39 = .ok (.getfield 318, 3) := by decide +kernel
theorem gd_H_hasStraySum_42 : decode F_H_hasStraySum.2.1 42 = .ok (.if_icmp .ne 13, 3) := by decide +kernel
theorem gd_H_hasStraySum_45 : decode F_H_hasStraySum.2.1 45 = .ok (.lload_n 3, 1) := by decide +kernel
theorem gd_H_hasStraySum_46 : decode F_H_hasStraySum.2.1 46 = .ok (.aload_n 1, 1) := by decide +kernel
theorem gd_H_hasStraySum_47 : decode F_H_hasStraySum.2.1 47 = .ok (.iload 5, 2) := by decide +kernel
theorem gd_H_hasStraySum_49 : decode F_H_hasStraySum.2.1 49 = .ok (.iload_n 2, 1) := by decide +kernel
theorem gd_H_hasStraySum_50 : decode F_H_hasStraySum.2.1 50 = .ok (.invokevirtual 253, 3) := by decide +kernel
theorem gd_H_hasStraySum_53 : decode F_H_hasStraySum.2.1 53 = .ok (.ladd, 1) := by decide +kernel
theorem gd_H_hasStraySum_54 : decode F_H_hasStraySum.2.1 54 = .ok (.lstore_n 3, 1) := by decide +kernel
theorem gd_H_hasStraySum_55 : decode F_H_hasStraySum.2.1 55 = .ok (.iinc 5 1, 3) := by decide +kernel
theorem gd_H_hasStraySum_58 : decode F_H_hasStraySum.2.1 58 = .ok (.goto (-37), 3) := by decide +kernel
theorem gd_H_hasStraySum_61 : decode F_H_hasStraySum.2.1 61 = .ok (.lload_n 3, 1) := by decide +kernel
theorem gd_H_hasStraySum_62 : decode F_H_hasStraySum.2.1 62 = .ok (.aload_n 1, 1) := by decide +kernel
theorem gd_H_hasStraySum_63 : decode F_H_hasStraySum.2.1 63 = .ok (.iload_n 2, 1) := by decide +kernel
theorem gd_H_hasStraySum_64 : decode F_H_hasStraySum.2.1 64 = .ok (.invokevirtual 249, 3) := by decide +kernel
theorem gd_H_hasStraySum_67 : decode F_H_hasStraySum.2.1 67 = .ok (.lcmp, 1) := by decide +kernel
theorem gd_H_hasStraySum_68 : decode F_H_hasStraySum.2.1 68 = .ok (.ifCond .eq 5, 3) := by decide +kernel
theorem gd_H_hasStraySum_71 : decode F_H_hasStraySum.2.1 71 = .ok (.iconst 1, 1) := by decide +kernel
theorem gd_H_hasStraySum_72 : decode F_H_hasStraySum.2.1 72 = .ok (.ireturn, 1) := by decide +kernel
theorem gd_H_hasStraySum_73 : decode F_H_hasStraySum.2.1 73 = .ok (.iinc 2 1, 3) := by decide +kernel
theorem gd_H_hasStraySum_76 : decode F_H_hasStraySum.2.1 76 = .ok (.goto (-74), 3) := by decide +kernel
theorem gd_H_hasStraySum_79 : decode F_H_hasStraySum.2.1 79 = .ok (.iconst 0, 1) := by decide +kernel
theorem gd_H_hasStraySum_80 : decode F_H_hasStraySum.2.1 80 = .ok (.ireturn, 1) := by decide +kernel
theorem gd_H_hasStrayVersion_0 : decode F_H_hasStrayVersion.2.1 0 = .ok (.iconst 0, 1) := by decide +kernel
theorem gd_H_hasStrayVersion_1 : decode F_H_hasStrayVersion.2.1 1 = .ok (.istore_n 2, 1) := by decide +kernel
theorem gd_H_hasStrayVersion_2 : decode F_H_hasStrayVersion.2.1 2 = .ok (.iload_n 2, 1) := by decide +kernel
theorem gd_H_hasStrayVersion_3 : decode F_H_hasStrayVersion.2.1 3 = .ok (.bipush 40, 2) := by decide +kernel
theorem gd_H_hasStrayVersion_5 : decode F_H_hasStrayVersion.2.1 5 = .ok (.if_icmp .ge 47, 3) := by decide +kernel
theorem gd_H_hasStrayVersion_8 : decode F_H_hasStrayVersion.2.1 8 = .ok (.aload_n 1, 1) := by decide +kernel
theorem gd_H_hasStrayVersion_9 : decode F_H_hasStrayVersion.2.1 9 = .ok (.getfield 179, 3) := by decide +kernel
theorem gd_H_hasStrayVersion_12 : decode F_H_hasStrayVersion.2.1 12 = .ok (.iload_n 2, 1) := by decide +kernel
theorem gd_H_hasStrayVersion_13 : decode F_H_hasStrayVersion.2.1 13 = .ok (.iaload, 1) := by decide +kernel
theorem gd_H_hasStrayVersion_14 : decode F_H_hasStrayVersion.2.1 14 = .ok (.istore_n 3, 1) := by decide +kernel
theorem gd_H_hasStrayVersion_15 : decode F_H_hasStrayVersion.2.1 15 = .ok (.iload_n 3, 1) := by decide +kernel
theorem gd_H_hasStrayVersion_16 : decode F_H_hasStrayVersion.2.1 16 = .ok (.iconst (-1), 1) := by decide +kernel
theorem gd_H_hasStrayVersion_17 : decode F_H_hasStrayVersion.2.1 17 = .ok (.if_icmp .eq 29, 3) := by decide +kernel
theorem gd_H_hasStrayVersion_20 : decode F_H_hasStrayVersion.2.1 20 = .ok (.iload_n 3, 1) := by decide +kernel
theorem gd_H_hasStrayVersion_21 : decode F_H_hasStrayVersion.2.1 21 = .ok (.aload_n 1, 1) := by decide +kernel
theorem gd_H_hasStrayVersion_22 : decode F_H_hasStrayVersion.2.1 22 = .ok (.getfield 318, 3) := by decide +kernel
theorem gd_H_hasStrayVersion_25 : decode F_H_hasStrayVersion.2.1 25 = .ok (.if_icmp .eq 21, 3) := by decide +kernel
theorem gd_H_hasStrayVersion_28 : decode F_H_hasStrayVersion.2.1 28 = .ok (.aload_n 0, 1) := by decide +kernel
theorem gd_H_hasStrayVersion_29 : decode F_H_hasStrayVersion.2.1 29 = .ok (.getfield 17, 3) := by decide +kernel
theorem gd_H_hasStrayVersion_32 : decode F_H_hasStrayVersion.2.1 32 = .ok (.iload_n 3, 1) := by decide +kernel
theorem gd_H_hasStrayVersion_33 : decode F_H_hasStrayVersion.2.1 33 = .ok (.aaload, 1) := by decide +kernel
theorem gd_H_hasStrayVersion_34 : decode F_H_hasStrayVersion.2.1 34 = .ok (.getfield 138, 3) := by decide +kernel
theorem gd_H_hasStrayVersion_37 : decode F_H_hasStrayVersion.2.1 37 = .ok (.aload_n 1, 1) := by decide +kernel
theorem gd_H_hasStrayVersion_38 : decode F_H_hasStrayVersion.2.1 38 = .ok (.getfield 318, 3) := by decide +kernel
theorem gd_H_hasStrayVersion_41 : decode F_H_hasStrayVersion.2.1 41 = .ok (.if_icmp .eq 5, 3) := by decide +kernel
theorem gd_H_hasStrayVersion_44 : decode F_H_hasStrayVersion.2.1 44 = .ok (.iconst 1, 1) := by decide +kernel
theorem gd_H_hasStrayVersion_45 : decode F_H_hasStrayVersion.2.1 45 = .ok (.ireturn, 1) := by decide +kernel
theorem gd_H_hasStrayVersion_46 : decode F_H_hasStrayVersion.2.1 46 = .ok (.iinc 2 1, 3) := by decide +kernel
theorem gd_H_hasStrayVersion_49 : decode F_H_hasStrayVersion.2.1 49 = .ok (.goto (-47), 3) := by decide +kernel
theorem gd_H_hasStrayVersion_52 : decode F_H_hasStrayVersion.2.1 52 = .ok (.iconst 0, 1) := by decide +kernel
theorem gd_H_hasStrayVersion_53 : decode F_H_hasStrayVersion.2.1 53 = .ok (.ireturn, 1) := by decide +kernel
theorem gd_H_held_0 : decode F_H_held.2.1 0 = .ok (.iload_n 1, 1) := by decide +kernel
theorem gd_H_held_1 : decode F_H_held.2.1 1 = .ok (.invokestatic 48, 3) := by decide +kernel
theorem gd_H_held_4 : decode F_H_held.2.1 4 = .ok (.iload_n 2, 1) := by decide +kernel
theorem gd_H_held_5 : decode F_H_held.2.1 5 = .ok (.invokestatic 48, 3) := by decide +kernel
theorem gd_H_held_8 : decode F_H_held.2.1 8 = .ok (.iload_n 3, 1) := by decide +kernel
theorem gd_H_held_9 : decode F_H_held.2.1 9 = .ok (.invokestatic 64, 3) := by decide +kernel
theorem gd_H_held_12 : decode F_H_held.2.1 12 = .ok (.aload_n 0, 1) := by decide +kernel
theorem gd_H_held_13 : decode F_H_held.2.1 13 = .ok (.getfield 17, 3) := by decide +kernel
theorem gd_H_held_16 : decode F_H_held.2.1 16 = .ok (.iload_n 2, 1) := by decide +kernel
theorem gd_H_held_17 : decode F_H_held.2.1 17 = .ok (.aaload, 1) := by decide +kernel
theorem gd_H_held_18 : decode F_H_held.2.1 18 = .ok (.getfield 138, 3) := by decide +kernel
theorem gd_H_held_21 : decode F_H_held.2.1 21 = .ok (.iload_n 1, 1) := by decide +kernel
theorem gd_H_held_22 : decode F_H_held.2.1 22 = .ok (.if_icmp .eq 5, 3) := by decide +kernel
theorem gd_H_held_25 : decode F_H_held.2.1 25 = .ok (.lconst 0, 1) := by decide +kernel
theorem gd_H_held_26 : decode F_H_held.2.1 26 = .ok (.lreturn, 1) := by decide +kernel
theorem gd_H_held_27 : decode F_H_held.2.1 27 = .ok (.aload_n 0, 1) := by decide +kernel
theorem gd_H_held_28 : decode F_H_held.2.1 28 = .ok (.getfield 17, 3) := by decide +kernel
theorem gd_H_held_31 : decode F_H_held.2.1 31 = .ok (.iload_n 1, 1) := by decide +kernel
theorem gd_H_held_32 : decode F_H_held.2.1 32 = .ok (.aaload, 1) := by decide +kernel
theorem gd_H_held_33 : decode F_H_held.2.1 33 = .ok (.iload_n 2, 1) := by decide +kernel
theorem gd_H_held_34 : decode F_H_held.2.1 34 = .ok (.iload_n 3, 1) := by decide +kernel
theorem gd_H_held_35 : decode F_H_held.2.1 35 = .ok (.invokevirtual 253, 3) := by decide +kernel
theorem gd_H_held_38 : decode F_H_held.2.1 38 = .ok (.lreturn, 1) := by decide +kernel
theorem gd_H_include_0 : decode F_H_include.2.1 0 = .ok (.aload_n 1, 1) := by decide +kernel
theorem gd_H_include_1 : decode F_H_include.2.1 1 = .ok (.getfield 144, 3) := by decide +kernel
theorem gd_H_include_4 : decode F_H_include.2.1 4 = .ok (.iload_n 2, 1) := by decide +kernel
theorem gd_H_include_5 : decode F_H_include.2.1 5 = .ok (.aload_n 3, 1) := by decide +kernel
theorem gd_H_include_6 : decode F_H_include.2.1 6 = .ok (.aastore, 1) := by decide +kernel
theorem gd_H_include_7 : decode F_H_include.2.1 7 = .ok (.aload_n 1, 1) := by decide +kernel
theorem gd_H_include_8 : decode F_H_include.2.1 8 = .ok (.getfield 179, 3) := by decide +kernel
theorem gd_H_include_11 : decode F_H_include.2.1 11 = .ok (.iload_n 2, 1) := by decide +kernel
theorem gd_H_include_12 : decode F_H_include.2.1 12 = .ok (.iload 4, 2) := by decide +kernel
theorem gd_H_include_14 : decode F_H_include.2.1 14 = .ok (.iastore, 1) := by decide +kernel
theorem gd_H_include_15 : decode F_H_include.2.1 15 = .ok (.aload_n 0, 1) := by decide +kernel
theorem gd_H_include_16 : decode F_H_include.2.1 16 = .ok (.aload_n 1, 1) := by decide +kernel
theorem gd_H_include_17 : decode F_H_include.2.1 17 = .ok (.iload_n 2, 1) := by decide +kernel
theorem gd_H_include_18 : decode F_H_include.2.1 18 = .ok (.invokevirtual 148, 3) := by decide +kernel
theorem gd_H_include_21 : decode F_H_include.2.1 21 = .ok (.return_, 1) := by decide +kernel
theorem gd_H_included_0 : decode F_H_included.2.1 0 = .ok (.iload_n 1, 1) := by decide +kernel
theorem gd_H_included_1 : decode F_H_included.2.1 1 = .ok (.invokestatic 48, 3) := by decide +kernel
theorem gd_H_included_4 : decode F_H_included.2.1 4 = .ok (.iload_n 2, 1) := by decide +kernel
theorem gd_H_included_5 : decode F_H_included.2.1 5 = .ok (.invokestatic 45, 3) := by decide +kernel
theorem gd_H_included_8 : decode F_H_included.2.1 8 = .ok (.aload_n 0, 1) := by decide +kernel
theorem gd_H_included_9 : decode F_H_included.2.1 9 = .ok (.getfield 17, 3) := by decide +kernel
theorem gd_H_included_12 : decode F_H_included.2.1 12 = .ok (.iload_n 1, 1) := by decide +kernel
theorem gd_H_included_13 : decode F_H_included.2.1 13 = .ok (.aaload, 1) := by decide +kernel
theorem gd_H_included_14 : decode F_H_included.2.1 14 = .ok (.getfield 144, 3) := by decide +kernel
theorem gd_H_included_17 : decode F_H_included.2.1 17 = .ok (.iload_n 2, 1) := by decide +kernel
theorem gd_H_included_18 : decode F_H_included.2.1 18 = .ok (.aaload, 1) := by decide +kernel
theorem gd_H_included_19 : decode F_H_included.2.1 19 = .ok (.invokestatic 243, 3) := by decide +kernel
theorem gd_H_included_22 : decode F_H_included.2.1 22 = .ok (.ireturn, 1) := by decide +kernel
theorem gd_H_init_0 : decode F_H_init.2.1 0 = .ok (.aload_n 0, 1) := by decide +kernel
theorem gd_H_init_1 : decode F_H_init.2.1 1 = .ok (.invokespecial 1, 3) := by decide +kernel
theorem gd_H_init_4 : decode F_H_init.2.1 4 = .ok (.aload_n 0, 1) := by decide +kernel
theorem gd_H_init_5 : decode F_H_init.2.1 5 = .ok (.bipush 40, 2) := by decide +kernel
theorem gd_H_init_7 : decode F_H_init.2.1 7 = .ok (.anewarray 9, 3) := by decide +kernel
theorem gd_H_init_10 : decode F_H_init.2.1 10 = .ok (.putfield 11, 3) := by decide +kernel
theorem gd_H_init_13 : decode F_H_init.2.1 13 = .ok (.aload_n 0, 1) := by decide +kernel
theorem gd_H_init_14 : decode F_H_init.2.1 14 = .ok (.bipush 12, 2) := by decide +kernel
theorem gd_H_init_16 : decode F_H_init.2.1 16 = .ok (.anewarray 15, 3) := by decide +kernel
theorem gd_H_init_19 : decode F_H_init.2.1 19 = .ok (.putfield 17, 3) := by decide +kernel
theorem gd_H_init_22 : decode F_H_init.2.1 22 = .ok (.aload_n 0, 1) := by decide +kernel
theorem gd_H_init_23 : decode F_H_init.2.1 23 = .ok (.new 21, 3) := by decide +kernel
theorem gd_H_init_26 : decode F_H_init.2.1 26 = .ok (.dup, 1) := by decide +kernel
theorem gd_H_init_27 : decode F_H_init.2.1 27 = .ok (.invokespecial 23, 3) := by decide +kernel
theorem gd_H_init_30 : decode F_H_init.2.1 30 = .ok (.putfield 24, 3) := by decide +kernel
theorem gd_H_init_33 : decode F_H_init.2.1 33 = .ok (.aload_n 0, 1) := by decide +kernel
theorem gd_H_init_34 : decode F_H_init.2.1 34 = .ok (.bipush 6, 2) := by decide +kernel
theorem gd_H_init_36 : decode F_H_init.2.1 36 = .ok (.newarray .int, 2) := by decide +kernel
theorem gd_H_init_38 : decode F_H_init.2.1 38 = .ok (.putfield 28, 3) := by decide +kernel
theorem gd_H_init_41 : decode F_H_init.2.1 41 = .ok (.aload_n 0, 1) := by decide +kernel
theorem gd_H_init_42 : decode F_H_init.2.1 42 = .ok (.bipush 6, 2) := by decide +kernel
theorem gd_H_init_44 : decode F_H_init.2.1 44 = .ok (.newarray .long, 2) := by decide +kernel
theorem gd_H_init_46 : decode F_H_init.2.1 46 = .ok (.putfield 32, 3) := by decide +kernel
theorem gd_H_init_49 : decode F_H_init.2.1 49 = .ok (.aload_n 0, 1) := by decide +kernel
theorem gd_H_init_50 : decode F_H_init.2.1 50 = .ok (.bipush 6, 2) := by decide +kernel
theorem gd_H_init_52 : decode F_H_init.2.1 52 = .ok (.newarray .long, 2) := by decide +kernel
theorem gd_H_init_54 : decode F_H_init.2.1 54 = .ok (.putfield 36, 3) := by decide +kernel
theorem gd_H_init_57 : decode F_H_init.2.1 57 = .ok (.aload_n 0, 1) := by decide +kernel
theorem gd_H_init_58 : decode F_H_init.2.1 58 = .ok (.bipush 6, 2) := by decide +kernel
theorem gd_H_init_60 : decode F_H_init.2.1 60 = .ok (.newarray .int, 2) := by decide +kernel
theorem gd_H_init_62 : decode F_H_init.2.1 62 = .ok (.putfield 39, 3) := by decide +kernel
theorem gd_H_init_65 : decode F_H_init.2.1 65 = .ok (.iconst 0, 1) := by decide +kernel
theorem gd_H_init_66 : decode F_H_init.2.1 66 = .ok (.istore_n 1, 1) := by decide +kernel
theorem gd_H_init_67 : decode F_H_init.2.1 67 = .ok (.iload_n 1, 1) := by decide +kernel
theorem gd_H_init_68 : decode F_H_init.2.1 68 = .ok (.bipush 12, 2) := by decide +kernel
theorem gd_H_init_70 : decode F_H_init.2.1 70 = .ok (.if_icmp .ge 23, 3) := by decide +kernel
theorem gd_H_init_73 : decode F_H_init.2.1 73 = .ok (.aload_n 0, 1) := by decide +kernel
theorem gd_H_init_74 : decode F_H_init.2.1 74 = .ok (.getfield 17, 3) := by decide +kernel
theorem gd_H_init_77 : decode F_H_init.2.1 77 = .ok (.iload_n 1, 1) := by decide +kernel
theorem gd_H_init_78 : decode F_H_init.2.1 78 = .ok (.new 15, 3) := by decide +kernel
theorem gd_H_init_81 : decode F_H_init.2.1 81 = .ok (.dup, 1) := by decide +kernel
theorem gd_H_init_82 : decode F_H_init.2.1 82 = .ok (.iload_n 1, 1) := by decide +kernel
theorem gd_H_init_83 : decode F_H_init.2.1 83 = .ok (.invokespecial 42, 3) := by decide +kernel
theorem gd_H_init_86 : decode F_H_init.2.1 86 = .ok (.aastore, 1) := by decide +kernel
theorem gd_H_init_87 : decode F_H_init.2.1 87 = .ok (.iinc 1 1, 3) := by decide +kernel
theorem gd_H_init_90 : decode F_H_init.2.1 90 = .ok (.goto (-23), 3) := by decide +kernel
theorem gd_H_init_93 : decode F_H_init.2.1 93 = .ok (.return_, 1) := by decide +kernel
theorem gd_H_isAtRest_0 : decode F_H_isAtRest.2.1 0 = .ok (.aload_n 0, 1) := by decide +kernel
theorem gd_H_isAtRest_1 : decode F_H_isAtRest.2.1 1 = .ok (.getfield 24, 3) := by decide +kernel
theorem gd_H_isAtRest_4 : decode F_H_isAtRest.2.1 4 = .ok (.invokevirtual 284, 3) := by decide +kernel
theorem gd_H_isAtRest_7 : decode F_H_isAtRest.2.1 7 = .ok (.ifCond .ne 5, 3) := by decide +kernel
theorem gd_H_isAtRest_10 : decode F_H_isAtRest.2.1 10 = .ok (.iconst 0, 1) := by decide +kernel
theorem gd_H_isAtRest_11 : decode F_H_isAtRest.2.1 11 = .ok (.ireturn, 1) := by decide +kernel
theorem gd_H_isAtRest_12 : decode F_H_isAtRest.2.1 12 = .ok (.iconst 0, 1) := by decide +kernel
theorem gd_H_isAtRest_13 : decode F_H_isAtRest.2.1 13 = .ok (.istore_n 1, 1) := by decide +kernel
theorem gd_H_isAtRest_14 : decode F_H_isAtRest.2.1 14 = .ok (.iload_n 1, 1) := by decide +kernel
theorem gd_H_isAtRest_15 : decode F_H_isAtRest.2.1 15 = .ok (.bipush 12, 2) := by decide +kernel
theorem gd_H_isAtRest_17 : decode F_H_isAtRest.2.1 17 = .ok (.if_icmp .ge 40, 3) := by decide +kernel
theorem gd_H_isAtRest_20 : decode F_H_isAtRest.2.1 20 = .ok (.aload_n 0, 1) := by decide +kernel
theorem gd_H_isAtRest_21 : decode F_H_isAtRest.2.1 21 = .ok (.getfield 17, 3) := by decide +kernel
theorem gd_H_isAtRest_24 : decode F_H_isAtRest.2.1 24 = .ok (.iload_n 1, 1) := by decide +kernel
theorem gd_H_isAtRest_25 : decode F_H_isAtRest.2.1 25 = .ok (.aaload, 1) := by decide +kernel
theorem gd_H_isAtRest_26 : decode F_H_isAtRest.2.1 26 = .ok (.astore_n 2, 1) := by decide +kernel
theorem gd_H_isAtRest_27 : decode F_H_isAtRest.2.1 27 = .ok (.aload_n 2, 1) := by decide +kernel
theorem gd_H_isAtRest_28 : decode F_H_isAtRest.2.1 28 = .ok (.getfield 198, 3) := by decide +kernel
theorem gd_H_isAtRest_31 : decode F_H_isAtRest.2.1 31 = .ok (.aload_n 2, 1) := by decide +kernel
theorem gd_H_isAtRest_32 : decode F_H_isAtRest.2.1 32 = .ok (.getfield 236, 3) := by decide +kernel
theorem gd_H_isAtRest_35 : decode F_H_isAtRest.2.1 35 = .ok (.invokevirtual 224, 3) := by decide +kernel
theorem gd_H_isAtRest_38 : decode F_H_isAtRest.2.1 38 = .ok (.if_icmp .ne 11, 3) := by decide +kernel
theorem gd_H_isAtRest_41 : decode F_H_isAtRest.2.1 41 = .ok (.aload_n 0, 1) := by decide +kernel
theorem gd_H_isAtRest_42 : decode F_H_isAtRest.2.1 42 = .ok (.aload_n 2, 1) := by decide +kernel
theorem gd_H_isAtRest_43 : decode F_H_isAtRest.2.1 43 = .ok (.invokevirtual 264, 3) := by decide +kernel
theorem gd_H_isAtRest_46 : decode F_H_isAtRest.2.1 46 = .ok (.ifCond .eq 5, 3) := by decide +kernel
theorem gd_H_isAtRest_49 : decode F_H_isAtRest.2.1 49 = .ok (.iconst 0, 1) := by decide +kernel
theorem gd_H_isAtRest_50 : decode F_H_isAtRest.2.1 50 = .ok (.ireturn, 1) := by decide +kernel
theorem gd_H_isAtRest_51 : decode F_H_isAtRest.2.1 51 = .ok (.iinc 1 1, 3) := by decide +kernel
theorem gd_H_isAtRest_54 : decode F_H_isAtRest.2.1 54 = .ok (.goto (-40), 3) := by decide +kernel
theorem gd_H_isAtRest_57 : decode F_H_isAtRest.2.1 57 = .ok (.iconst 1, 1) := by decide +kernel
theorem gd_H_isAtRest_58 : decode F_H_isAtRest.2.1 58 = .ok (.ireturn, 1) := by decide +kernel
theorem gd_H_isInTreeOf_0 : decode F_H_isInTreeOf.2.1 0 = .ok (.iload_n 2, 1) := by decide +kernel
theorem gd_H_isInTreeOf_1 : decode F_H_isInTreeOf.2.1 1 = .ok (.istore_n 3, 1) := by decide +kernel
theorem gd_H_isInTreeOf_2 : decode F_H_isInTreeOf.2.1 2 = .ok (.iconst 0, 1) := by decide +kernel
theorem gd_H_isInTreeOf_3 : decode F_H_isInTreeOf.2.1 3 = .ok (.istore 4, 2) := by decide +kernel
theorem gd_H_isInTreeOf_5 : decode F_H_isInTreeOf.2.1 5 = .ok (.iload 4, 2) := by decide +kernel
theorem gd_H_isInTreeOf_7 : decode F_H_isInTreeOf.2.1 7 = .ok (.bipush 12, 2) := by decide +kernel
theorem gd_H_isInTreeOf_9 : decode F_H_isInTreeOf.2.1 9 = .ok (.if_icmp .ge 31, 3) := by decide +kernel
theorem gd_H_isInTreeOf_12 : decode F_H_isInTreeOf.2.1 12 = .ok (.iload_n 3, 1) := by decide +kernel
theorem gd_H_isInTreeOf_13 : decode F_H_isInTreeOf.2.1 13 = .ok (.iconst (-1), 1) := by decide +kernel
theorem gd_H_isInTreeOf_14 : decode F_H_isInTreeOf.2.1 14 = .ok (.if_icmp .eq 26, 3) := by decide +kernel
theorem gd_H_isInTreeOf_17 : decode F_H_isInTreeOf.2.1 17 = .ok (.iload_n 3, 1) := by decide +kernel
theorem gd_H_isInTreeOf_18 : decode F_H_isInTreeOf.2.1 18 = .ok (.iload_n 1, 1) := by decide +kernel
theorem gd_H_isInTreeOf_19 : decode F_H_isInTreeOf.2.1 19 = .ok (.if_icmp .ne 5, 3) := by decide +kernel
theorem gd_H_isInTreeOf_22 : decode F_H_isInTreeOf.2.1 22 = .ok (.iconst 1, 1) := by decide +kernel
theorem gd_H_isInTreeOf_23 : decode F_H_isInTreeOf.2.1 23 = .ok (.ireturn, 1) := by decide +kernel
theorem gd_H_isInTreeOf_24 : decode F_H_isInTreeOf.2.1 24 = .ok (.aload_n 0, 1) := by decide +kernel
theorem gd_H_isInTreeOf_25 : decode F_H_isInTreeOf.2.1 25 = .ok (.getfield 17, 3) := by decide +kernel
theorem gd_H_isInTreeOf_28 : decode F_H_isInTreeOf.2.1 28 = .ok (.iload_n 3, 1) := by decide +kernel
theorem gd_H_isInTreeOf_29 : decode F_H_isInTreeOf.2.1 29 = .ok (.aaload, 1) := by decide +kernel
theorem gd_H_isInTreeOf_30 : decode F_H_isInTreeOf.2.1 30 = .ok (.getfield 138, 3) := by decide +kernel
theorem gd_H_isInTreeOf_33 : decode F_H_isInTreeOf.2.1 33 = .ok (.istore_n 3, 1) := by decide +kernel
theorem gd_H_isInTreeOf_34 : decode F_H_isInTreeOf.2.1 34 = .ok (.iinc 4 1, 3) := by decide +kernel
theorem gd_H_isInTreeOf_37 : decode F_H_isInTreeOf.2.1 37 = .ok (.goto (-32), 3) := by decide +kernel
theorem gd_H_isInTreeOf_40 : decode F_H_isInTreeOf.2.1 40 = .ok (.iconst 0, 1) := by decide +kernel
theorem gd_H_isInTreeOf_41 : decode F_H_isInTreeOf.2.1 41 = .ok (.ireturn, 1) := by decide +kernel
theorem gd_H_letter_0 : decode F_H_letter.2.1 0 = .ok (.aload_n 0, 1) := by decide +kernel
theorem gd_H_letter_1 : decode F_H_letter.2.1 1 = .ok (.iload_n 1, 1) := by decide +kernel
theorem gd_H_letter_2 : decode F_H_letter.2.1 2 = .ok (.invokevirtual 182, 3) := by decide +kernel
theorem gd_H_letter_5 : decode F_H_letter.2.1 5 = .ok (.aload_n 0, 1) := by decide +kernel
theorem gd_H_letter_6 : decode F_H_letter.2.1 6 = .ok (.getfield 24, 3) := by decide +kernel
theorem gd_H_letter_9 : decode F_H_letter.2.1 9 = .ok (.iload_n 1, 1) := by decide +kernel
theorem gd_H_letter_10 : decode F_H_letter.2.1 10 = .ok (.invokevirtual 185, 3) := by decide +kernel
theorem gd_H_letter_13 : decode F_H_letter.2.1 13 = .ok (.checkcast 189, 3) := by decide +kernel
theorem gd_H_letter_16 : decode F_H_letter.2.1 16 = .ok (.astore_n 3, 1) := by decide +kernel
theorem gd_H_letter_17 : decode F_H_letter.2.1 17 = .ok (.iload_n 2, 1) := by decide +kernel
theorem gd_H_letter_18 : decode F_H_letter.2.1 18 = .ok (.tableswitch 68 0 4 #[34, 39, 44, 49, 57], 34) := by decide +kernel
theorem gd_H_letter_52 : decode F_H_letter.2.1 52 = .ok (.aload_n 3, 1) := by decide +kernel
theorem gd_H_letter_53 : decode F_H_letter.2.1 53 = .ok (.getfield 194, 3) := by decide +kernel
theorem gd_H_letter_56 : decode F_H_letter.2.1 56 = .ok (.ireturn, 1) := by decide +kernel
theorem gd_H_letter_57 : decode F_H_letter.2.1 57 = .ok (.aload_n 3, 1) := by decide +kernel
theorem gd_H_letter_58 : decode F_H_letter.2.1 58 = .ok (.getfield 197, 3) := by decide +kernel
theorem gd_H_letter_61 : decode F_H_letter.2.1 61 = .ok (.ireturn, 1) := by decide +kernel
theorem gd_H_letter_62 : decode F_H_letter.2.1 62 = .ok (.aload_n 3, 1) := by decide +kernel
theorem gd_H_letter_63 : decode F_H_letter.2.1 63 = .ok (.getfield 201, 3) := by decide +kernel
theorem gd_H_letter_66 : decode F_H_letter.2.1 66 = .ok (.ireturn, 1) := by decide +kernel
theorem gd_H_letter_67 : decode F_H_letter.2.1 67 = .ok (.aload_n 3, 1) := by decide +kernel
theorem gd_H_letter_68 : decode F_H_letter.2.1 68 = .ok (.getfield 204, 3) := by decide +kernel
theorem gd_H_letter_71 : decode F_H_letter.2.1 71 = .ok (.getfield 213, 3) := by decide +kernel
theorem gd_H_letter_74 : decode F_H_letter.2.1 74 = .ok (.ireturn, 1) := by decide +kernel
theorem gd_H_letter_75 : decode F_H_letter.2.1 75 = .ok (.aload_n 3, 1) := by decide +kernel
theorem gd_H_letter_76 : decode F_H_letter.2.1 76 = .ok (.getfield 204, 3) := by decide +kernel
theorem gd_H_letter_79 : decode F_H_letter.2.1 79 = .ok (.getfield 208, 3) := by decide +kernel
theorem gd_H_letter_82 : decode F_H_letter.2.1 82 = .ok (.invokestatic 243, 3) := by decide +kernel
theorem gd_H_letter_85 : decode F_H_letter.2.1 85 = .ok (.ireturn, 1) := by decide +kernel
theorem gd_H_letter_86 : decode F_H_letter.2.1 86 = .ok (.new 75, 3) := by decide +kernel
theorem gd_H_letter_89 : decode F_H_letter.2.1 89 = .ok (.dup, 1) := by decide +kernel
theorem gd_H_letter_90 : decode F_H_letter.2.1 90 = .ok (.ldc 247, 2) := by decide +kernel
theorem gd_H_letter_92 : decode F_H_letter.2.1 92 = .ok (.invokespecial 79, 3) := by decide +kernel
theorem gd_H_letter_95 : decode F_H_letter.2.1 95 = .ok (.athrow, 1) := by decide +kernel
theorem gd_H_letters_0 : decode F_H_letters.2.1 0 = .ok (.aload_n 0, 1) := by decide +kernel
theorem gd_H_letters_1 : decode F_H_letters.2.1 1 = .ok (.getfield 24, 3) := by decide +kernel
theorem gd_H_letters_4 : decode F_H_letters.2.1 4 = .ok (.invokevirtual 224, 3) := by decide +kernel
theorem gd_H_letters_7 : decode F_H_letters.2.1 7 = .ok (.ireturn, 1) := by decide +kernel
theorem gd_H_marked_0 : decode F_H_marked.2.1 0 = .ok (.iload_n 1, 1) := by decide +kernel
theorem gd_H_marked_1 : decode F_H_marked.2.1 1 = .ok (.invokestatic 48, 3) := by decide +kernel
theorem gd_H_marked_4 : decode F_H_marked.2.1 4 = .ok (.iconst 0, 1) := by decide +kernel
theorem gd_H_marked_5 : decode F_H_marked.2.1 5 = .ok (.istore_n 2, 1) := by decide +kernel
theorem gd_H_marked_6 : decode F_H_marked.2.1 6 = .ok (.iconst 0, 1) := by decide +kernel
theorem gd_H_marked_7 : decode F_H_marked.2.1 7 = .ok (.istore_n 3, 1) := by decide +kernel
theorem gd_H_marked_8 : decode F_H_marked.2.1 8 = .ok (.iload_n 3, 1) := by decide +kernel
theorem gd_H_marked_9 : decode F_H_marked.2.1 9 = .ok (.bipush 40, 2) := by decide +kernel
theorem gd_H_marked_11 : decode F_H_marked.2.1 11 = .ok (.if_icmp .ge 38, 3) := by decide +kernel
theorem gd_H_marked_14 : decode F_H_marked.2.1 14 = .ok (.aload_n 0, 1) := by decide +kernel
theorem gd_H_marked_15 : decode F_H_marked.2.1 15 = .ok (.getfield 17, 3) := by decide +kernel
theorem gd_H_marked_18 : decode F_H_marked.2.1 18 = .ok (.iload_n 1, 1) := by decide +kernel
theorem gd_H_marked_19 : decode F_H_marked.2.1 19 = .ok (.aaload, 1) := by decide +kernel
theorem gd_H_marked_20 : decode F_H_marked.2.1 20 = .ok (.getfield 144, 3) := by decide +kernel
theorem gd_H_marked_23 : decode F_H_marked.2.1 23 = .ok (.iload_n 3, 1) := by decide +kernel
theorem gd_H_marked_24 : decode F_H_marked.2.1 24 = .ok (.aaload, 1) := by decide +kernel
theorem gd_H_marked_25 : decode F_H_marked.2.1 25 = .ok (.astore 4, 2) := by decide +kernel
theorem gd_H_marked_27 : decode F_H_marked.2.1 27 = .ok (.aload 4, 2) := by decide +kernel
theorem gd_H_marked_29 : decode F_H_marked.2.1 29 = .ok (.ifnull 14, 3) := by decide +kernel
theorem gd_H_marked_32 : decode F_H_marked.2.1 32 = .ok (.aload 4, 2) := by decide +kernel
theorem gd_H_marked_34 : decode F_H_marked.2.1 34 = .ok (.getfield 257, 3) := by decide +kernel
theorem gd_H_marked_37 : decode F_H_marked.2.1 37 = .ok (.ifCond .eq 6, 3) := by decide +kernel
theorem gd_H_marked_40 : decode F_H_marked.2.1 40 = .ok (.iinc 2 1, 3) := by decide +kernel
theorem gd_H_marked_43 : decode F_H_marked.2.1 43 = .ok (.iinc 3 1, 3) := by decide +kernel
theorem gd_H_marked_46 : decode F_H_marked.2.1 46 = .ok (.goto (-38), 3) := by decide +kernel
theorem gd_H_marked_49 : decode F_H_marked.2.1 49 = .ok (.iload_n 2, 1) := by decide +kernel
theorem gd_H_marked_50 : decode F_H_marked.2.1 50 = .ok (.ireturn, 1) := by decide +kernel
theorem gd_H_marksOfDraft_0 : decode F_H_marksOfDraft.2.1 0 = .ok (.iconst 0, 1) := by decide +kernel
theorem gd_H_marksOfDraft_1 : decode F_H_marksOfDraft.2.1 1 = .ok (.istore 4, 2) := by decide +kernel
theorem gd_H_marksOfDraft_3 : decode F_H_marksOfDraft.2.1 3 = .ok (.iload_n 2, 1) := by decide +kernel
theorem gd_H_marksOfDraft_4 : decode F_H_marksOfDraft.2.1 4 = .ok (.istore 5, 2) := by decide +kernel
theorem gd_H_marksOfDraft_6 : decode F_H_marksOfDraft.2.1 6 = .ok (.aload_n 1, 1) := by decide +kernel
theorem gd_H_marksOfDraft_7 : decode F_H_marksOfDraft.2.1 7 = .ok (.getfield 103, 3) := by decide +kernel
theorem gd_H_marksOfDraft_10 : decode F_H_marksOfDraft.2.1 10 = .ok (.astore 6, 2) := by decide +kernel
theorem gd_H_marksOfDraft_12 : decode F_H_marksOfDraft.2.1 12 = .ok (.iconst 0, 1) := by decide +kernel
theorem gd_H_marksOfDraft_13 : decode F_H_marksOfDraft.2.1 13 = .ok (.istore 7, 2) := by decide +kernel
theorem gd_H_marksOfDraft_15 : decode F_H_marksOfDraft.2.1 15 = .ok (.iload 7, 2) := by decide +kernel
theorem gd_H_marksOfDraft_17 : decode F_H_marksOfDraft.2.1 17 = .ok (.bipush 6, 2) := by decide +kernel
theorem gd_H_marksOfDraft_19 : decode F_H_marksOfDraft.2.1 19 = .ok (.if_icmp .ge 50, 3) := by decide +kernel
theorem gd_H_marksOfDraft_22 : decode F_H_marksOfDraft.2.1 22 = .ok (.iload 5, 2) := by decide +kernel
theorem gd_H_marksOfDraft_24 : decode F_H_marksOfDraft.2.1 24 = .ok (.aload_n 0, 1) := by decide +kernel
theorem gd_H_marksOfDraft_25 : decode F_H_marksOfDraft.2.1 25 = .ok (.getfield 28, 3) := by decide +kernel
theorem gd_H_marksOfDraft_28 : decode F_H_marksOfDraft.2.1 28 = .ok (.iload 7, 2) := by decide +kernel
theorem gd_H_marksOfDraft_30 : decode F_H_marksOfDraft.2.1 30 = .ok (.iaload, 1) := by decide +kernel
theorem gd_H_marksOfDraft_31 : decode F_H_marksOfDraft.2.1 31 = .ok (.iadd, 1) := by decide +kernel
theorem gd_H_marksOfDraft_32 : decode F_H_marksOfDraft.2.1 32 = .ok (.istore 5, 2) := by decide +kernel
theorem gd_H_marksOfDraft_34 : decode F_H_marksOfDraft.2.1 34 = .ok (.aload 6, 2) := by decide +kernel
theorem gd_H_marksOfDraft_36 : decode F_H_marksOfDraft.2.1 36 = .ok (.ifnull 27, 3) := by decide +kernel
theorem gd_H_marksOfDraft_39 : decode F_H_marksOfDraft.2.1 39 = .ok (.aload_n 0, 1) := by decide +kernel
theorem gd_H_marksOfDraft_40 : decode F_H_marksOfDraft.2.1 40 = .ok (.getfield 28, 3) := by decide +kernel
theorem gd_H_marksOfDraft_43 : decode F_H_marksOfDraft.2.1 43 = .ok (.iload 7, 2) := by decide +kernel
theorem gd_H_marksOfDraft_45 : decode F_H_marksOfDraft.2.1 45 = .ok (.iaload, 1) := by decide +kernel
theorem gd_H_marksOfDraft_46 : decode F_H_marksOfDraft.2.1 46 = .ok (.aload 6, 2) := by decide +kernel
theorem gd_H_marksOfDraft_48 : decode F_H_marksOfDraft.2.1 48 = .ok (.getfield 312, 3) := by decide +kernel
theorem gd_H_marksOfDraft_51 : decode F_H_marksOfDraft.2.1 51 = .ok (.iload 7, 2) := by decide +kernel
theorem gd_H_marksOfDraft_53 : decode F_H_marksOfDraft.2.1 53 = .ok (.iaload, 1) := by decide +kernel
theorem gd_H_marksOfDraft_54 : decode F_H_marksOfDraft.2.1 54 = .ok (.if_icmp .ge 9, 3) := by decide +kernel
theorem gd_H_marksOfDraft_57 : decode F_H_marksOfDraft.2.1 57 = .ok (.iload 4, 2) := by decide +kernel
theorem gd_H_marksOfDraft_59 : decode F_H_marksOfDraft.2.1 59 = .ok (.iconst 2, 1) := by decide +kernel
theorem gd_H_marksOfDraft_60 : decode F_H_marksOfDraft.2.1 60 = .ok (.ior, 1) := by decide +kernel
theorem gd_H_marksOfDraft_61 : decode F_H_marksOfDraft.2.1 61 = .ok (.istore 4, 2) := by decide +kernel
theorem gd_H_marksOfDraft_63 : decode F_H_marksOfDraft.2.1 63 = .ok (.iinc 7 1, 3) := by decide +kernel
theorem gd_H_marksOfDraft_66 : decode F_H_marksOfDraft.2.1 66 = .ok (.goto (-51), 3) := by decide +kernel
theorem gd_H_marksOfDraft_69 : decode F_H_marksOfDraft.2.1 69 = .ok (.iload_n 3, 1) := by decide +kernel
theorem gd_H_marksOfDraft_70 : decode F_H_marksOfDraft.2.1 70 = .ok (.aload_n 1, 1) := by decide +kernel
theorem gd_H_marksOfDraft_71 : decode F_H_marksOfDraft.2.1 71 = .ok (.getfield 315, 3) := by decide +kernel
theorem gd_H_marksOfDraft_74 : decode F_H_marksOfDraft.2.1 74 = .ok (.if_icmp .le 9, 3) := by decide +kernel
theorem gd_H_marksOfDraft_77 : decode F_H_marksOfDraft.2.1 77 = .ok (.iload 4, 2) := by decide +kernel
theorem gd_H_marksOfDraft_79 : decode F_H_marksOfDraft.2.1 79 = .ok (.iconst 1, 1) := by decide +kernel
theorem gd_H_marksOfDraft_80 : decode F_H_marksOfDraft.2.1 80 = .ok (.ior, 1) := by decide +kernel
theorem gd_H_marksOfDraft_81 : decode F_H_marksOfDraft.2.1 81 = .ok (.istore 4, 2) := by decide +kernel
theorem gd_H_marksOfDraft_83 : decode F_H_marksOfDraft.2.1 83 = .ok (.iload 5, 2) := by decide +kernel
theorem gd_H_marksOfDraft_85 : decode F_H_marksOfDraft.2.1 85 = .ok (.iload_n 3, 1) := by decide +kernel
theorem gd_H_marksOfDraft_86 : decode F_H_marksOfDraft.2.1 86 = .ok (.if_icmp .le 9, 3) := by decide +kernel
theorem gd_H_marksOfDraft_89 : decode F_H_marksOfDraft.2.1 89 = .ok (.iload 4, 2) := by decide +kernel
theorem gd_H_marksOfDraft_91 : decode F_H_marksOfDraft.2.1 91 = .ok (.iconst 4, 1) := by decide +kernel
theorem gd_H_marksOfDraft_92 : decode F_H_marksOfDraft.2.1 92 = .ok (.ior, 1) := by decide +kernel
theorem gd_H_marksOfDraft_93 : decode F_H_marksOfDraft.2.1 93 = .ok (.istore 4, 2) := by decide +kernel
theorem gd_H_marksOfDraft_95 : decode F_H_marksOfDraft.2.1 95 = .ok (.iload 4, 2) := by decide +kernel
theorem gd_H_marksOfDraft_97 : decode F_H_marksOfDraft.2.1 97 = .ok (.ireturn, 1) := by decide +kernel
theorem gd_H_move_0 : decode F_H_move.2.1 0 = .ok (.aload_n 0, 1) := by decide +kernel
theorem gd_H_move_1 : decode F_H_move.2.1 1 = .ok (.iload_n 1, 1) := by decide +kernel
theorem gd_H_move_2 : decode F_H_move.2.1 2 = .ok (.invokevirtual 67, 3) := by decide +kernel
theorem gd_H_move_5 : decode F_H_move.2.1 5 = .ok (.astore_n 3, 1) := by decide +kernel
theorem gd_H_move_6 : decode F_H_move.2.1 6 = .ok (.iload_n 2, 1) := by decide +kernel
theorem gd_H_move_7 : decode F_H_move.2.1 7 = .ok (.invokestatic 48, 3) := by decide +kernel
theorem gd_H_move_10 : decode F_H_move.2.1 10 = .ok (.aload_n 3, 1) := by decide +kernel
theorem gd_H_move_11 : decode F_H_move.2.1 11 = .ok (.getfield 167, 3) := by decide +kernel
theorem gd_H_move_14 : decode F_H_move.2.1 14 = .ok (.iload_n 2, 1) := by decide +kernel
theorem gd_H_move_15 : decode F_H_move.2.1 15 = .ok (.if_icmp .ne 13, 3) := by decide +kernel
theorem gd_H_move_18 : decode F_H_move.2.1 18 = .ok (.new 54, 3) := by decide +kernel
theorem gd_H_move_21 : decode F_H_move.2.1 21 = .ok (.dup, 1) := by decide +kernel
theorem gd_H_move_22 : decode F_H_move.2.1 22 = .ok (.ldc 174, 2) := by decide +kernel
theorem gd_H_move_24 : decode F_H_move.2.1 24 = .ok (.invokespecial 58, 3) := by decide +kernel
theorem gd_H_move_27 : decode F_H_move.2.1 27 = .ok (.athrow, 1) := by decide +kernel
theorem gd_H_move_28 : decode F_H_move.2.1 28 = .ok (.aload_n 0, 1) := by decide +kernel
theorem gd_H_move_29 : decode F_H_move.2.1 29 = .ok (.aload_n 0, 1) := by decide +kernel
theorem gd_H_move_30 : decode F_H_move.2.1 30 = .ok (.getfield 17, 3) := by decide +kernel
theorem gd_H_move_33 : decode F_H_move.2.1 33 = .ok (.aload_n 3, 1) := by decide +kernel
theorem gd_H_move_34 : decode F_H_move.2.1 34 = .ok (.getfield 167, 3) := by decide +kernel
theorem gd_H_move_37 : decode F_H_move.2.1 37 = .ok (.aaload, 1) := by decide +kernel
theorem gd_H_move_38 : decode F_H_move.2.1 38 = .ok (.iload_n 1, 1) := by decide +kernel
theorem gd_H_move_39 : decode F_H_move.2.1 39 = .ok (.invokevirtual 176, 3) := by decide +kernel
theorem gd_H_move_42 : decode F_H_move.2.1 42 = .ok (.aload_n 3, 1) := by decide +kernel
theorem gd_H_move_43 : decode F_H_move.2.1 43 = .ok (.iload_n 2, 1) := by decide +kernel
theorem gd_H_move_44 : decode F_H_move.2.1 44 = .ok (.putfield 167, 3) := by decide +kernel
theorem gd_H_move_47 : decode F_H_move.2.1 47 = .ok (.aload_n 3, 1) := by decide +kernel
theorem gd_H_move_48 : decode F_H_move.2.1 48 = .ok (.getfield 103, 3) := by decide +kernel
theorem gd_H_move_51 : decode F_H_move.2.1 51 = .ok (.ifnull 9, 3) := by decide +kernel
theorem gd_H_move_54 : decode F_H_move.2.1 54 = .ok (.aload_n 0, 1) := by decide +kernel
theorem gd_H_move_55 : decode F_H_move.2.1 55 = .ok (.iload_n 1, 1) := by decide +kernel
theorem gd_H_move_56 : decode F_H_move.2.1 56 = .ok (.aload_n 3, 1) := by decide +kernel
theorem gd_H_move_57 : decode F_H_move.2.1 57 = .ok (.invokevirtual 113, 3) := by decide +kernel
theorem gd_H_move_60 : decode F_H_move.2.1 60 = .ok (.aload_n 0, 1) := by decide +kernel
theorem gd_H_move_61 : decode F_H_move.2.1 61 = .ok (.getfield 17, 3) := by decide +kernel
theorem gd_H_move_64 : decode F_H_move.2.1 64 = .ok (.iload_n 2, 1) := by decide +kernel
theorem gd_H_move_65 : decode F_H_move.2.1 65 = .ok (.aaload, 1) := by decide +kernel
theorem gd_H_move_66 : decode F_H_move.2.1 66 = .ok (.getfield 179, 3) := by decide +kernel
theorem gd_H_move_69 : decode F_H_move.2.1 69 = .ok (.iload_n 1, 1) := by decide +kernel
theorem gd_H_move_70 : decode F_H_move.2.1 70 = .ok (.iaload, 1) := by decide +kernel
theorem gd_H_move_71 : decode F_H_move.2.1 71 = .ok (.iload_n 2, 1) := by decide +kernel
theorem gd_H_move_72 : decode F_H_move.2.1 72 = .ok (.if_icmp .ne 7, 3) := by decide +kernel
theorem gd_H_move_75 : decode F_H_move.2.1 75 = .ok (.iconst 1, 1) := by decide +kernel
theorem gd_H_move_76 : decode F_H_move.2.1 76 = .ok (.goto 4, 3) := by decide +kernel
theorem gd_H_move_79 : decode F_H_move.2.1 79 = .ok (.iconst 0, 1) := by decide +kernel
theorem gd_H_move_80 : decode F_H_move.2.1 80 = .ok (.ireturn, 1) := by decide +kernel
theorem gd_H_newest_0 : decode F_H_newest.2.1 0 = .ok (.iload_n 1, 1) := by decide +kernel
theorem gd_H_newest_1 : decode F_H_newest.2.1 1 = .ok (.invokestatic 45, 3) := by decide +kernel
theorem gd_H_newest_4 : decode F_H_newest.2.1 4 = .ok (.aload_n 0, 1) := by decide +kernel
theorem gd_H_newest_5 : decode F_H_newest.2.1 5 = .ok (.getfield 11, 3) := by decide +kernel
theorem gd_H_newest_8 : decode F_H_newest.2.1 8 = .ok (.iload_n 1, 1) := by decide +kernel
theorem gd_H_newest_9 : decode F_H_newest.2.1 9 = .ok (.aaload, 1) := by decide +kernel
theorem gd_H_newest_10 : decode F_H_newest.2.1 10 = .ok (.astore_n 2, 1) := by decide +kernel
theorem gd_H_newest_11 : decode F_H_newest.2.1 11 = .ok (.aload_n 2, 1) := by decide +kernel
theorem gd_H_newest_12 : decode F_H_newest.2.1 12 = .ok (.ifnonnull 7, 3) := by decide +kernel
theorem gd_H_newest_15 : decode F_H_newest.2.1 15 = .ok (.iconst (-1), 1) := by decide +kernel
theorem gd_H_newest_16 : decode F_H_newest.2.1 16 = .ok (.goto 7, 3) := by decide +kernel
theorem gd_H_newest_19 : decode F_H_newest.2.1 19 = .ok (.aload_n 2, 1) := by decide +kernel
theorem gd_H_newest_20 : decode F_H_newest.2.1 20 = .ok (.invokestatic 71, 3) := by decide +kernel
theorem gd_H_newest_23 : decode F_H_newest.2.1 23 = .ok (.ireturn, 1) := by decide +kernel
theorem gd_H_newestNumber_0 : decode F_H_newestNumber.2.1 0 = .ok (.aload_n 0, 1) := by decide +kernel
theorem gd_H_newestNumber_1 : decode F_H_newestNumber.2.1 1 = .ok (.getfield 103, 3) := by decide +kernel
theorem gd_H_newestNumber_4 : decode F_H_newestNumber.2.1 4 = .ok (.invokestatic 243, 3) := by decide +kernel
theorem gd_H_newestNumber_7 : decode F_H_newestNumber.2.1 7 = .ok (.ireturn, 1) := by decide +kernel
theorem gd_H_numberOf_0 : decode F_H_numberOf.2.1 0 = .ok (.aload_n 0, 1) := by decide +kernel
theorem gd_H_numberOf_1 : decode F_H_numberOf.2.1 1 = .ok (.ifnonnull 7, 3) := by decide +kernel
theorem gd_H_numberOf_4 : decode F_H_numberOf.2.1 4 = .ok (.iconst 0, 1) := by decide +kernel
theorem gd_H_numberOf_5 : decode F_H_numberOf.2.1 5 = .ok (.goto 7, 3) := by decide +kernel
theorem gd_H_numberOf_8 : decode F_H_numberOf.2.1 8 = .ok (.aload_n 0, 1) := by decide +kernel
theorem gd_H_numberOf_9 : decode F_H_numberOf.2.1 9 = .ok (.getfield 311, 3) := by decide +kernel
theorem gd_H_numberOf_12 : decode F_H_numberOf.2.1 12 = .ok (.ireturn, 1) := by decide +kernel
theorem gd_H_offerOwn_0 : decode F_H_offerOwn.2.1 0 = .ok (.aload_n 0, 1) := by decide +kernel
theorem gd_H_offerOwn_1 : decode F_H_offerOwn.2.1 1 = .ok (.getfield 17, 3) := by decide +kernel
theorem gd_H_offerOwn_4 : decode F_H_offerOwn.2.1 4 = .ok (.aload_n 2, 1) := by decide +kernel
theorem gd_H_offerOwn_5 : decode F_H_offerOwn.2.1 5 = .ok (.getfield 167, 3) := by decide +kernel
theorem gd_H_offerOwn_8 : decode F_H_offerOwn.2.1 8 = .ok (.aaload, 1) := by decide +kernel
theorem gd_H_offerOwn_9 : decode F_H_offerOwn.2.1 9 = .ok (.astore_n 3, 1) := by decide +kernel
theorem gd_H_offerOwn_10 : decode F_H_offerOwn.2.1 10 = .ok (.aload_n 3, 1) := by decide +kernel
theorem gd_H_offerOwn_11 : decode F_H_offerOwn.2.1 11 = .ok (.getfield 119, 3) := by decide +kernel
theorem gd_H_offerOwn_14 : decode F_H_offerOwn.2.1 14 = .ok (.ifCond .ne 4, 3) := by decide +kernel
theorem gd_H_offerOwn_17 : decode F_H_offerOwn.2.1 17 = .ok (.return_, 1) := by decide +kernel
theorem gd_H_offerOwn_18 : decode F_H_offerOwn.2.1 18 = .ok (.aload_n 3, 1) := by decide +kernel
theorem gd_H_offerOwn_19 : decode F_H_offerOwn.2.1 19 = .ok (.iload_n 1, 1) := by decide +kernel
theorem gd_H_offerOwn_20 : decode F_H_offerOwn.2.1 20 = .ok (.aload_n 3, 1) := by decide +kernel
theorem gd_H_offerOwn_21 : decode F_H_offerOwn.2.1 21 = .ok (.getfield 318, 3) := by decide +kernel
theorem gd_H_offerOwn_24 : decode F_H_offerOwn.2.1 24 = .ok (.invokevirtual 319, 3) := by decide +kernel
theorem gd_H_offerOwn_27 : decode F_H_offerOwn.2.1 27 = .ok (.ifCond .eq 20, 3) := by decide +kernel
theorem gd_H_offerOwn_30 : decode F_H_offerOwn.2.1 30 = .ok (.aload_n 0, 1) := by decide +kernel
theorem gd_H_offerOwn_31 : decode F_H_offerOwn.2.1 31 = .ok (.aload_n 3, 1) := by decide +kernel
theorem gd_H_offerOwn_32 : decode F_H_offerOwn.2.1 32 = .ok (.iload_n 1, 1) := by decide +kernel
theorem gd_H_offerOwn_33 : decode F_H_offerOwn.2.1 33 = .ok (.aload_n 2, 1) := by decide +kernel
theorem gd_H_offerOwn_34 : decode F_H_offerOwn.2.1 34 = .ok (.getfield 103, 3) := by decide +kernel
theorem gd_H_offerOwn_37 : decode F_H_offerOwn.2.1 37 = .ok (.aload_n 3, 1) := by decide +kernel
theorem gd_H_offerOwn_38 : decode F_H_offerOwn.2.1 38 = .ok (.getfield 318, 3) := by decide +kernel
theorem gd_H_offerOwn_41 : decode F_H_offerOwn.2.1 41 = .ok (.invokevirtual 170, 3) := by decide +kernel
theorem gd_H_offerOwn_44 : decode F_H_offerOwn.2.1 44 = .ok (.goto 10, 3) := by decide +kernel
theorem gd_H_offerOwn_47 : decode F_H_offerOwn.2.1 47 = .ok (.aload_n 3, 1) := by decide +kernel
theorem gd_H_offerOwn_48 : decode F_H_offerOwn.2.1 48 = .ok (.getfield 322, 3) := by decide +kernel
theorem gd_H_offerOwn_51 : decode F_H_offerOwn.2.1 51 = .ok (.iload_n 1, 1) := by decide +kernel
theorem gd_H_offerOwn_52 : decode F_H_offerOwn.2.1 52 = .ok (.iconst 1, 1) := by decide +kernel
theorem gd_H_offerOwn_53 : decode F_H_offerOwn.2.1 53 = .ok (.bastore, 1) := by decide +kernel
theorem gd_H_offerOwn_54 : decode F_H_offerOwn.2.1 54 = .ok (.return_, 1) := by decide +kernel
theorem gd_H_office_0 : decode F_H_office.2.1 0 = .ok (.iload_n 1, 1) := by decide +kernel
theorem gd_H_office_1 : decode F_H_office.2.1 1 = .ok (.invokestatic 48, 3) := by decide +kernel
theorem gd_H_office_4 : decode F_H_office.2.1 4 = .ok (.aload_n 0, 1) := by decide +kernel
theorem gd_H_office_5 : decode F_H_office.2.1 5 = .ok (.getfield 17, 3) := by decide +kernel
theorem gd_H_office_8 : decode F_H_office.2.1 8 = .ok (.iload_n 1, 1) := by decide +kernel
theorem gd_H_office_9 : decode F_H_office.2.1 9 = .ok (.aaload, 1) := by decide +kernel
theorem gd_H_office_10 : decode F_H_office.2.1 10 = .ok (.astore_n 3, 1) := by decide +kernel
theorem gd_H_office_11 : decode F_H_office.2.1 11 = .ok (.iload_n 2, 1) := by decide +kernel
theorem gd_H_office_12 : decode F_H_office.2.1 12 = .ok (.tableswitch 101 0 7 #[48, 53, 58, 71, 77, 83, 91, 96], 48) := by decide +kernel
theorem gd_H_office_60 : decode F_H_office.2.1 60 = .ok (.aload_n 3, 1) := by decide +kernel
theorem gd_H_office_61 : decode F_H_office.2.1 61 = .ok (.getfield 138, 3) := by decide +kernel
theorem gd_H_office_64 : decode F_H_office.2.1 64 = .ok (.ireturn, 1) := by decide +kernel
theorem gd_H_office_65 : decode F_H_office.2.1 65 = .ok (.aload_n 3, 1) := by decide +kernel
theorem gd_H_office_66 : decode F_H_office.2.1 66 = .ok (.getfield 141, 3) := by decide +kernel
theorem gd_H_office_69 : decode F_H_office.2.1 69 = .ok (.ireturn, 1) := by decide +kernel
theorem gd_H_office_70 : decode F_H_office.2.1 70 = .ok (.aload_n 3, 1) := by decide +kernel
theorem gd_H_office_71 : decode F_H_office.2.1 71 = .ok (.getfield 119, 3) := by decide +kernel
theorem gd_H_office_74 : decode F_H_office.2.1 74 = .ok (.ifCond .eq 7, 3) := by decide +kernel
theorem gd_H_office_77 : decode F_H_office.2.1 77 = .ok (.iconst 1, 1) := by decide +kernel
theorem gd_H_office_78 : decode F_H_office.2.1 78 = .ok (.goto 4, 3) := by decide +kernel
theorem gd_H_office_81 : decode F_H_office.2.1 81 = .ok (.iconst 0, 1) := by decide +kernel
theorem gd_H_office_82 : decode F_H_office.2.1 82 = .ok (.ireturn, 1) := by decide +kernel
theorem gd_H_office_83 : decode F_H_office.2.1 83 = .ok (.aload_n 0, 1) := by decide +kernel
theorem gd_H_office_84 : decode F_H_office.2.1 84 = .ok (.iload_n 1, 1) := by decide +kernel
theorem gd_H_office_85 : decode F_H_office.2.1 85 = .ok (.invokevirtual 260, 3) := by decide +kernel
theorem gd_H_office_88 : decode F_H_office.2.1 88 = .ok (.ireturn, 1) := by decide +kernel
theorem gd_H_office_89 : decode F_H_office.2.1 89 = .ok (.aload_n 0, 1) := by decide +kernel
theorem gd_H_office_90 : decode F_H_office.2.1 90 = .ok (.aload_n 3, 1) := by decide +kernel
theorem gd_H_office_91 : decode F_H_office.2.1 91 = .ok (.invokevirtual 264, 3) := by decide +kernel
theorem gd_H_office_94 : decode F_H_office.2.1 94 = .ok (.ireturn, 1) := by decide +kernel
theorem gd_H_office_95 : decode F_H_office.2.1 95 = .ok (.aload_n 3, 1) := by decide +kernel
theorem gd_H_office_96 : decode F_H_office.2.1 96 = .ok (.getfield 236, 3) := by decide +kernel
theorem gd_H_office_99 : decode F_H_office.2.1 99 = .ok (.invokevirtual 224, 3) := by decide +kernel
theorem gd_H_office_102 : decode F_H_office.2.1 102 = .ok (.ireturn, 1) := by decide +kernel
theorem gd_H_office_103 : decode F_H_office.2.1 103 = .ok (.aload_n 3, 1) := by decide +kernel
theorem gd_H_office_104 : decode F_H_office.2.1 104 = .ok (.getfield 198, 3) := by decide +kernel
theorem gd_H_office_107 : decode F_H_office.2.1 107 = .ok (.ireturn, 1) := by decide +kernel
theorem gd_H_office_108 : decode F_H_office.2.1 108 = .ok (.aload_n 3, 1) := by decide +kernel
theorem gd_H_office_109 : decode F_H_office.2.1 109 = .ok (.invokevirtual 268, 3) := by decide +kernel
theorem gd_H_office_112 : decode F_H_office.2.1 112 = .ok (.ireturn, 1) := by decide +kernel
theorem gd_H_office_113 : decode F_H_office.2.1 113 = .ok (.new 75, 3) := by decide +kernel
theorem gd_H_office_116 : decode F_H_office.2.1 116 = .ok (.dup, 1) := by decide +kernel
theorem gd_H_office_117 : decode F_H_office.2.1 117 = .ok (.ldc_w 271, 3) := by decide +kernel
theorem gd_H_office_120 : decode F_H_office.2.1 120 = .ok (.invokespecial 79, 3) := by decide +kernel
theorem gd_H_office_123 : decode F_H_office.2.1 123 = .ok (.athrow, 1) := by decide +kernel
theorem gd_H_precinct_0 : decode F_H_precinct.2.1 0 = .ok (.iload_n 1, 1) := by decide +kernel
theorem gd_H_precinct_1 : decode F_H_precinct.2.1 1 = .ok (.invokestatic 45, 3) := by decide +kernel
theorem gd_H_precinct_4 : decode F_H_precinct.2.1 4 = .ok (.iload_n 2, 1) := by decide +kernel
theorem gd_H_precinct_5 : decode F_H_precinct.2.1 5 = .ok (.invokestatic 48, 3) := by decide +kernel
theorem gd_H_precinct_8 : decode F_H_precinct.2.1 8 = .ok (.iload_n 3, 1) := by decide +kernel
theorem gd_H_precinct_9 : decode F_H_precinct.2.1 9 = .ok (.invokestatic 51, 3) := by decide +kernel
theorem gd_H_precinct_12 : decode F_H_precinct.2.1 12 = .ok (.aload_n 0, 1) := by decide +kernel
theorem gd_H_precinct_13 : decode F_H_precinct.2.1 13 = .ok (.getfield 11, 3) := by decide +kernel
theorem gd_H_precinct_16 : decode F_H_precinct.2.1 16 = .ok (.iload_n 1, 1) := by decide +kernel
theorem gd_H_precinct_17 : decode F_H_precinct.2.1 17 = .ok (.aaload, 1) := by decide +kernel
theorem gd_H_precinct_18 : decode F_H_precinct.2.1 18 = .ok (.ifnull 13, 3) := by decide +kernel
theorem gd_H_precinct_21 : decode F_H_precinct.2.1 21 = .ok (.new 54, 3) := by decide +kernel
theorem gd_H_precinct_24 : decode F_H_precinct.2.1 24 = .ok (.dup, 1) := by decide +kernel
theorem gd_H_precinct_25 : decode F_H_precinct.2.1 25 = .ok (.ldc 56, 2) := by decide +kernel
theorem gd_H_precinct_27 : decode F_H_precinct.2.1 27 = .ok (.invokespecial 58, 3) := by decide +kernel
theorem gd_H_precinct_30 : decode F_H_precinct.2.1 30 = .ok (.athrow, 1) := by decide +kernel
theorem gd_H_precinct_31 : decode F_H_precinct.2.1 31 = .ok (.aload_n 0, 1) := by decide +kernel
theorem gd_H_precinct_32 : decode F_H_precinct.2.1 32 = .ok (.getfield 11, 3) := by decide +kernel
theorem gd_H_precinct_35 : decode F_H_precinct.2.1 35 = .ok (.iload_n 1, 1) := by decide +kernel
theorem gd_H_precinct_36 : decode F_H_precinct.2.1 36 = .ok (.new 9, 3) := by decide +kernel
theorem gd_H_precinct_39 : decode F_H_precinct.2.1 39 = .ok (.dup, 1) := by decide +kernel
theorem gd_H_precinct_40 : decode F_H_precinct.2.1 40 = .ok (.iload_n 2, 1) := by decide +kernel
theorem gd_H_precinct_41 : decode F_H_precinct.2.1 41 = .ok (.iload_n 3, 1) := by decide +kernel
theorem gd_H_precinct_42 : decode F_H_precinct.2.1 42 = .ok (.invokespecial 61, 3) := by decide +kernel
theorem gd_H_precinct_45 : decode F_H_precinct.2.1 45 = .ok (.aastore, 1) := by decide +kernel
theorem gd_H_precinct_46 : decode F_H_precinct.2.1 46 = .ok (.return_, 1) := by decide +kernel
theorem gd_H_precinctThatIsThere_0 : decode F_H_precinctThatIsThere.2.1 0 = .ok (.iload_n 1, 1) := by decide +kernel
theorem gd_H_precinctThatIsThere_1 : decode F_H_precinctThatIsThere.2.1 1 = .ok (.invokestatic 45, 3) := by decide +kernel
theorem gd_H_precinctThatIsThere_4 : decode F_H_precinctThatIsThere.2.1 4 = .ok (.aload_n 0, 1) := by decide +kernel
theorem gd_H_precinctThatIsThere_5 : decode F_H_precinctThatIsThere.2.1 5 = .ok (.getfield 11, 3) := by decide +kernel
theorem gd_H_precinctThatIsThere_8 : decode F_H_precinctThatIsThere.2.1 8 = .ok (.iload_n 1, 1) := by decide +kernel
theorem gd_H_precinctThatIsThere_9 : decode F_H_precinctThatIsThere.2.1 9 = .ok (.aaload, 1) := by decide +kernel
theorem gd_H_precinctThatIsThere_10 : decode F_H_precinctThatIsThere.2.1 10 = .ok (.astore_n 2, 1) := by decide +kernel
theorem gd_H_precinctThatIsThere_11 : decode F_H_precinctThatIsThere.2.1 11 = .ok (.aload_n 2, 1) := by decide +kernel
theorem gd_H_precinctThatIsThere_12 : decode F_H_precinctThatIsThere.2.1 12 = .ok (.ifnonnull 14, 3) := by decide +kernel
theorem gd_H_precinctThatIsThere_15 : decode F_H_precinctThatIsThere.2.1 15 = .ok (.new 298, 3) := by decide +kernel
theorem gd_H_precinctThatIsThere_18 : decode F_H_precinctThatIsThere.2.1 18 = .ok (.dup, 1) := by decide +kernel
theorem gd_H_precinctThatIsThere_19 : decode F_H_precinctThatIsThere.2.1 19 = .ok (.ldc_w 307, 3) := by decide +kernel
theorem gd_H_precinctThatIsThere_22 : decode F_H_precinctThatIsThere.2.1 22 = .ok (.invokespecial 302, 3) := by decide +kernel
theorem gd_H_precinctThatIsThere_25 : decode F_H_precinctThatIsThere.2.1 25 = .ok (.athrow, 1) := by decide +kernel
theorem gd_H_precinctThatIsThere_26 : decode F_H_precinctThatIsThere.2.1 26 = .ok (.aload_n 2, 1) := by decide +kernel
theorem gd_H_precinctThatIsThere_27 : decode F_H_precinctThatIsThere.2.1 27 = .ok (.areturn, 1) := by decide +kernel
theorem gd_H_requireCount_0 : decode F_H_requireCount.2.1 0 = .ok (.iload_n 0, 1) := by decide +kernel
theorem gd_H_requireCount_1 : decode F_H_requireCount.2.1 1 = .ok (.ifCond .lt 10, 3) := by decide +kernel
theorem gd_H_requireCount_4 : decode F_H_requireCount.2.1 4 = .ok (.iload_n 0, 1) := by decide +kernel
theorem gd_H_requireCount_5 : decode F_H_requireCount.2.1 5 = .ok (.ldc_w 295, 3) := by decide +kernel
theorem gd_H_requireCount_8 : decode F_H_requireCount.2.1 8 = .ok (.if_icmp .le 14, 3) := by decide +kernel
theorem gd_H_requireCount_11 : decode F_H_requireCount.2.1 11 = .ok (.new 75, 3) := by decide +kernel
theorem gd_H_requireCount_14 : decode F_H_requireCount.2.1 14 = .ok (.dup, 1) := by decide +kernel
theorem gd_H_requireCount_15 : decode F_H_requireCount.2.1 15 = .ok (.ldc_w 296, 3) := by decide +kernel
theorem gd_H_requireCount_18 : decode F_H_requireCount.2.1 18 = .ok (.invokespecial 79, 3) := by decide +kernel
theorem gd_H_requireCount_21 : decode F_H_requireCount.2.1 21 = .ok (.athrow, 1) := by decide +kernel
theorem gd_H_requireCount_22 : decode F_H_requireCount.2.1 22 = .ok (.return_, 1) := by decide +kernel
theorem gd_H_requireLetter_0 : decode F_H_requireLetter.2.1 0 = .ok (.iload_n 1, 1) := by decide +kernel
theorem gd_H_requireLetter_1 : decode F_H_requireLetter.2.1 1 = .ok (.ifCond .lt 14, 3) := by decide +kernel
theorem gd_H_requireLetter_4 : decode F_H_requireLetter.2.1 4 = .ok (.iload_n 1, 1) := by decide +kernel
theorem gd_H_requireLetter_5 : decode F_H_requireLetter.2.1 5 = .ok (.aload_n 0, 1) := by decide +kernel
theorem gd_H_requireLetter_6 : decode F_H_requireLetter.2.1 6 = .ok (.getfield 24, 3) := by decide +kernel
theorem gd_H_requireLetter_9 : decode F_H_requireLetter.2.1 9 = .ok (.invokevirtual 224, 3) := by decide +kernel
theorem gd_H_requireLetter_12 : decode F_H_requireLetter.2.1 12 = .ok (.if_icmp .lt 14, 3) := by decide +kernel
theorem gd_H_requireLetter_15 : decode F_H_requireLetter.2.1 15 = .ok (.new 298, 3) := by decide +kernel
theorem gd_H_requireLetter_18 : decode F_H_requireLetter.2.1 18 = .ok (.dup, 1) := by decide +kernel
theorem gd_H_requireLetter_19 : decode F_H_requireLetter.2.1 19 = .ok (.ldc_w 309, 3) := by decide +kernel
theorem gd_H_requireLetter_22 : decode F_H_requireLetter.2.1 22 = .ok (.invokespecial 302, 3) := by decide +kernel
theorem gd_H_requireLetter_25 : decode F_H_requireLetter.2.1 25 = .ok (.athrow, 1) := by decide +kernel
theorem gd_H_requireLetter_26 : decode F_H_requireLetter.2.1 26 = .ok (.return_, 1) := by decide +kernel
theorem gd_H_requireOffice_0 : decode F_H_requireOffice.2.1 0 = .ok (.iload_n 0, 1) := by decide +kernel
theorem gd_H_requireOffice_1 : decode F_H_requireOffice.2.1 1 = .ok (.ifCond .lt 9, 3) := by decide +kernel
theorem gd_H_requireOffice_4 : decode F_H_requireOffice.2.1 4 = .ok (.iload_n 0, 1) := by decide +kernel
theorem gd_H_requireOffice_5 : decode F_H_requireOffice.2.1 5 = .ok (.bipush 12, 2) := by decide +kernel
theorem gd_H_requireOffice_7 : decode F_H_requireOffice.2.1 7 = .ok (.if_icmp .lt 14, 3) := by decide +kernel
theorem gd_H_requireOffice_10 : decode F_H_requireOffice.2.1 10 = .ok (.new 298, 3) := by decide +kernel
theorem gd_H_requireOffice_13 : decode F_H_requireOffice.2.1 13 = .ok (.dup, 1) := by decide +kernel
theorem gd_H_requireOffice_14 : decode F_H_requireOffice.2.1 14 = .ok (.ldc_w 300, 3) := by decide +kernel
theorem gd_H_requireOffice_17 : decode F_H_requireOffice.2.1 17 = .ok (.invokespecial 302, 3) := by decide +kernel
theorem gd_H_requireOffice_20 : decode F_H_requireOffice.2.1 20 = .ok (.athrow, 1) := by decide +kernel
theorem gd_H_requireOffice_21 : decode F_H_requireOffice.2.1 21 = .ok (.return_, 1) := by decide +kernel
theorem gd_H_requireOption_0 : decode F_H_requireOption.2.1 0 = .ok (.iload_n 0, 1) := by decide +kernel
theorem gd_H_requireOption_1 : decode F_H_requireOption.2.1 1 = .ok (.ifCond .lt 9, 3) := by decide +kernel
theorem gd_H_requireOption_4 : decode F_H_requireOption.2.1 4 = .ok (.iload_n 0, 1) := by decide +kernel
theorem gd_H_requireOption_5 : decode F_H_requireOption.2.1 5 = .ok (.bipush 6, 2) := by decide +kernel
theorem gd_H_requireOption_7 : decode F_H_requireOption.2.1 7 = .ok (.if_icmp .lt 14, 3) := by decide +kernel
theorem gd_H_requireOption_10 : decode F_H_requireOption.2.1 10 = .ok (.new 298, 3) := by decide +kernel
theorem gd_H_requireOption_13 : decode F_H_requireOption.2.1 13 = .ok (.dup, 1) := by decide +kernel
theorem gd_H_requireOption_14 : decode F_H_requireOption.2.1 14 = .ok (.ldc_w 303, 3) := by decide +kernel
theorem gd_H_requireOption_17 : decode F_H_requireOption.2.1 17 = .ok (.invokespecial 302, 3) := by decide +kernel
theorem gd_H_requireOption_20 : decode F_H_requireOption.2.1 20 = .ok (.athrow, 1) := by decide +kernel
theorem gd_H_requireOption_21 : decode F_H_requireOption.2.1 21 = .ok (.return_, 1) := by decide +kernel
theorem gd_H_requirePrecinctNumber_0 : decode F_H_requirePrecinctNumber.2.1 0 = .ok (.iload_n 0, 1) := by decide +kernel
theorem gd_H_requirePrecinctNumber_1 : decode F_H_requirePrecinctNumber.2.1 1 = .ok (.ifCond .lt 9, 3) := by decide +kernel
theorem gd_H_requirePrecinctNumber_4 : decode F_H_requirePrecinctNumber.2.1 4 = .ok (.iload_n 0, 1) := by decide +kernel
theorem gd_H_requirePrecinctNumber_5 : decode F_H_requirePrecinctNumber.2.1 5 = .ok (.bipush 40, 2) := by decide +kernel
theorem gd_H_requirePrecinctNumber_7 : decode F_H_requirePrecinctNumber.2.1 7 = .ok (.if_icmp .lt 14, 3) := by decide +kernel
theorem gd_H_requirePrecinctNumber_10 : decode F_H_requirePrecinctNumber.2.1 10 = .ok (.new 298, 3) := by decide +kernel
theorem gd_H_requirePrecinctNumber_13 : decode F_H_requirePrecinctNumber.2.1 13 = .ok (.dup, 1) := by decide +kernel
theorem gd_H_requirePrecinctNumber_14 : decode F_H_requirePrecinctNumber.2.1 14 = .ok (.ldc_w 305, 3) := by decide +kernel
theorem gd_H_requirePrecinctNumber_17 : decode F_H_requirePrecinctNumber.2.1 17 = .ok (.invokespecial 302, 3) := by decide +kernel
theorem gd_H_requirePrecinctNumber_20 : decode F_H_requirePrecinctNumber.2.1 20 = .ok (.athrow, 1) := by decide +kernel
theorem gd_H_requirePrecinctNumber_21 : decode F_H_requirePrecinctNumber.2.1 21 = .ok (.return_, 1) := by decide +kernel
theorem gd_H_resend_0 : decode F_H_resend.2.1 0 = .ok (.iload_n 1, 1) := by decide +kernel
theorem gd_H_resend_1 : decode F_H_resend.2.1 1 = .ok (.invokestatic 48, 3) := by decide +kernel
theorem gd_H_resend_4 : decode F_H_resend.2.1 4 = .ok (.aload_n 0, 1) := by decide +kernel
theorem gd_H_resend_5 : decode F_H_resend.2.1 5 = .ok (.getfield 17, 3) := by decide +kernel
theorem gd_H_resend_8 : decode F_H_resend.2.1 8 = .ok (.iload_n 1, 1) := by decide +kernel
theorem gd_H_resend_9 : decode F_H_resend.2.1 9 = .ok (.aaload, 1) := by decide +kernel
theorem gd_H_resend_10 : decode F_H_resend.2.1 10 = .ok (.astore_n 2, 1) := by decide +kernel
theorem gd_H_resend_11 : decode F_H_resend.2.1 11 = .ok (.aload_n 2, 1) := by decide +kernel
theorem gd_H_resend_12 : decode F_H_resend.2.1 12 = .ok (.getfield 138, 3) := by decide +kernel
theorem gd_H_resend_15 : decode F_H_resend.2.1 15 = .ok (.iconst (-1), 1) := by decide +kernel
theorem gd_H_resend_16 : decode F_H_resend.2.1 16 = .ok (.if_icmp .ne 13, 3) := by decide +kernel
theorem gd_H_resend_19 : decode F_H_resend.2.1 19 = .ok (.new 54, 3) := by decide +kernel
theorem gd_H_resend_22 : decode F_H_resend.2.1 22 = .ok (.dup, 1) := by decide +kernel
theorem gd_H_resend_23 : decode F_H_resend.2.1 23 = .ok (.ldc 234, 2) := by decide +kernel
theorem gd_H_resend_25 : decode F_H_resend.2.1 25 = .ok (.invokespecial 58, 3) := by decide +kernel
theorem gd_H_resend_28 : decode F_H_resend.2.1 28 = .ok (.athrow, 1) := by decide +kernel
theorem gd_H_resend_29 : decode F_H_resend.2.1 29 = .ok (.aload_n 0, 1) := by decide +kernel
theorem gd_H_resend_30 : decode F_H_resend.2.1 30 = .ok (.getfield 24, 3) := by decide +kernel
theorem gd_H_resend_33 : decode F_H_resend.2.1 33 = .ok (.invokevirtual 224, 3) := by decide +kernel
theorem gd_H_resend_36 : decode F_H_resend.2.1 36 = .ok (.istore_n 3, 1) := by decide +kernel
theorem gd_H_resend_37 : decode F_H_resend.2.1 37 = .ok (.aload_n 2, 1) := by decide +kernel
theorem gd_H_resend_38 : decode F_H_resend.2.1 38 = .ok (.getfield 198, 3) := by decide +kernel
theorem gd_H_resend_41 : decode F_H_resend.2.1 41 = .ok (.iconst 1, 1) := by decide +kernel
theorem gd_H_resend_42 : decode F_H_resend.2.1 42 = .ok (.iadd, 1) := by decide +kernel
theorem gd_H_resend_43 : decode F_H_resend.2.1 43 = .ok (.istore 4, 2) := by decide +kernel
theorem gd_H_resend_45 : decode F_H_resend.2.1 45 = .ok (.iload 4, 2) := by decide +kernel
theorem gd_H_resend_47 : decode F_H_resend.2.1 47 = .ok (.aload_n 2, 1) := by decide +kernel
theorem gd_H_resend_48 : decode F_H_resend.2.1 48 = .ok (.getfield 236, 3) := by decide +kernel
theorem gd_H_resend_51 : decode F_H_resend.2.1 51 = .ok (.invokevirtual 224, 3) := by decide +kernel
theorem gd_H_resend_54 : decode F_H_resend.2.1 54 = .ok (.if_icmp .gt 30, 3) := by decide +kernel
theorem gd_H_resend_57 : decode F_H_resend.2.1 57 = .ok (.aload_n 0, 1) := by decide +kernel
theorem gd_H_resend_58 : decode F_H_resend.2.1 58 = .ok (.aload_n 2, 1) := by decide +kernel
theorem gd_H_resend_59 : decode F_H_resend.2.1 59 = .ok (.iload 4, 2) := by decide +kernel
theorem gd_H_resend_61 : decode F_H_resend.2.1 61 = .ok (.aload_n 2, 1) := by decide +kernel
theorem gd_H_resend_62 : decode F_H_resend.2.1 62 = .ok (.getfield 236, 3) := by decide +kernel
theorem gd_H_resend_65 : decode F_H_resend.2.1 65 = .ok (.iload 4, 2) := by decide +kernel
theorem gd_H_resend_67 : decode F_H_resend.2.1 67 = .ok (.iconst 1, 1) := by decide +kernel
theorem gd_H_resend_68 : decode F_H_resend.2.1 68 = .ok (.isub, 1) := by decide +kernel
theorem gd_H_resend_69 : decode F_H_resend.2.1 69 = .ok (.invokevirtual 185, 3) := by decide +kernel
theorem gd_H_resend_72 : decode F_H_resend.2.1 72 = .ok (.checkcast 209, 3) := by decide +kernel
theorem gd_H_resend_75 : decode F_H_resend.2.1 75 = .ok (.invokevirtual 239, 3) := by decide +kernel
theorem gd_H_resend_78 : decode F_H_resend.2.1 78 = .ok (.iinc 4 1, 3) := by decide +kernel
theorem gd_H_resend_81 : decode F_H_resend.2.1 81 = .ok (.goto (-36), 3) := by decide +kernel
theorem gd_H_resend_84 : decode F_H_resend.2.1 84 = .ok (.aload_n 0, 1) := by decide +kernel
theorem gd_H_resend_85 : decode F_H_resend.2.1 85 = .ok (.getfield 24, 3) := by decide +kernel
theorem gd_H_resend_88 : decode F_H_resend.2.1 88 = .ok (.invokevirtual 224, 3) := by decide +kernel
theorem gd_H_resend_91 : decode F_H_resend.2.1 91 = .ok (.iload_n 3, 1) := by decide +kernel
theorem gd_H_resend_92 : decode F_H_resend.2.1 92 = .ok (.isub, 1) := by decide +kernel
theorem gd_H_resend_93 : decode F_H_resend.2.1 93 = .ok (.ireturn, 1) := by decide +kernel
theorem gd_H_revive_0 : decode F_H_revive.2.1 0 = .ok (.iload_n 1, 1) := by decide +kernel
theorem gd_H_revive_1 : decode F_H_revive.2.1 1 = .ok (.invokestatic 48, 3) := by decide +kernel
theorem gd_H_revive_4 : decode F_H_revive.2.1 4 = .ok (.aload_n 0, 1) := by decide +kernel
theorem gd_H_revive_5 : decode F_H_revive.2.1 5 = .ok (.getfield 17, 3) := by decide +kernel
theorem gd_H_revive_8 : decode F_H_revive.2.1 8 = .ok (.iload_n 1, 1) := by decide +kernel
theorem gd_H_revive_9 : decode F_H_revive.2.1 9 = .ok (.aaload, 1) := by decide +kernel
theorem gd_H_revive_10 : decode F_H_revive.2.1 10 = .ok (.astore_n 2, 1) := by decide +kernel
theorem gd_H_revive_11 : decode F_H_revive.2.1 11 = .ok (.aload_n 2, 1) := by decide +kernel
theorem gd_H_revive_12 : decode F_H_revive.2.1 12 = .ok (.getfield 119, 3) := by decide +kernel
theorem gd_H_revive_15 : decode F_H_revive.2.1 15 = .ok (.ifCond .eq 13, 3) := by decide +kernel
theorem gd_H_revive_18 : decode F_H_revive.2.1 18 = .ok (.new 54, 3) := by decide +kernel
theorem gd_H_revive_21 : decode F_H_revive.2.1 21 = .ok (.dup, 1) := by decide +kernel
theorem gd_H_revive_22 : decode F_H_revive.2.1 22 = .ok (.ldc 165, 2) := by decide +kernel
theorem gd_H_revive_24 : decode F_H_revive.2.1 24 = .ok (.invokespecial 58, 3) := by decide +kernel
theorem gd_H_revive_27 : decode F_H_revive.2.1 27 = .ok (.athrow, 1) := by decide +kernel
theorem gd_H_revive_28 : decode F_H_revive.2.1 28 = .ok (.aload_n 2, 1) := by decide +kernel
theorem gd_H_revive_29 : decode F_H_revive.2.1 29 = .ok (.iconst 1, 1) := by decide +kernel
theorem gd_H_revive_30 : decode F_H_revive.2.1 30 = .ok (.putfield 119, 3) := by decide +kernel
theorem gd_H_revive_33 : decode F_H_revive.2.1 33 = .ok (.iconst 0, 1) := by decide +kernel
theorem gd_H_revive_34 : decode F_H_revive.2.1 34 = .ok (.istore_n 3, 1) := by decide +kernel
theorem gd_H_revive_35 : decode F_H_revive.2.1 35 = .ok (.iconst 0, 1) := by decide +kernel
theorem gd_H_revive_36 : decode F_H_revive.2.1 36 = .ok (.istore 4, 2) := by decide +kernel
theorem gd_H_revive_38 : decode F_H_revive.2.1 38 = .ok (.iload 4, 2) := by decide +kernel
theorem gd_H_revive_40 : decode F_H_revive.2.1 40 = .ok (.bipush 40, 2) := by decide +kernel
theorem gd_H_revive_42 : decode F_H_revive.2.1 42 = .ok (.if_icmp .ge 56, 3) := by decide +kernel
theorem gd_H_revive_45 : decode F_H_revive.2.1 45 = .ok (.aload_n 0, 1) := by decide +kernel
theorem gd_H_revive_46 : decode F_H_revive.2.1 46 = .ok (.getfield 11, 3) := by decide +kernel
theorem gd_H_revive_49 : decode F_H_revive.2.1 49 = .ok (.iload 4, 2) := by decide +kernel
theorem gd_H_revive_51 : decode F_H_revive.2.1 51 = .ok (.aaload, 1) := by decide +kernel
theorem gd_H_revive_52 : decode F_H_revive.2.1 52 = .ok (.astore 5, 2) := by decide +kernel
theorem gd_H_revive_54 : decode F_H_revive.2.1 54 = .ok (.aload 5, 2) := by decide +kernel
theorem gd_H_revive_56 : decode F_H_revive.2.1 56 = .ok (.ifnull 36, 3) := by decide +kernel
theorem gd_H_revive_59 : decode F_H_revive.2.1 59 = .ok (.aload 5, 2) := by decide +kernel
theorem gd_H_revive_61 : decode F_H_revive.2.1 61 = .ok (.getfield 167, 3) := by decide +kernel
theorem gd_H_revive_64 : decode F_H_revive.2.1 64 = .ok (.iload_n 1, 1) := by decide +kernel
theorem gd_H_revive_65 : decode F_H_revive.2.1 65 = .ok (.if_icmp .ne 27, 3) := by decide +kernel
theorem gd_H_revive_68 : decode F_H_revive.2.1 68 = .ok (.aload 5, 2) := by decide +kernel
theorem gd_H_revive_70 : decode F_H_revive.2.1 70 = .ok (.getfield 103, 3) := by decide +kernel
theorem gd_H_revive_73 : decode F_H_revive.2.1 73 = .ok (.ifnull 19, 3) := by decide +kernel
theorem gd_H_revive_76 : decode F_H_revive.2.1 76 = .ok (.aload_n 0, 1) := by decide +kernel
theorem gd_H_revive_77 : decode F_H_revive.2.1 77 = .ok (.aload_n 2, 1) := by decide +kernel
theorem gd_H_revive_78 : decode F_H_revive.2.1 78 = .ok (.iload 4, 2) := by decide +kernel
theorem gd_H_revive_80 : decode F_H_revive.2.1 80 = .ok (.aload 5, 2) := by decide +kernel
theorem gd_H_revive_82 : decode F_H_revive.2.1 82 = .ok (.getfield 103, 3) := by decide +kernel
theorem gd_H_revive_85 : decode F_H_revive.2.1 85 = .ok (.iload_n 1, 1) := by decide +kernel
theorem gd_H_revive_86 : decode F_H_revive.2.1 86 = .ok (.invokevirtual 170, 3) := by decide +kernel
theorem gd_H_revive_89 : decode F_H_revive.2.1 89 = .ok (.iinc 3 1, 3) := by decide +kernel
theorem gd_H_revive_92 : decode F_H_revive.2.1 92 = .ok (.iinc 4 1, 3) := by decide +kernel
theorem gd_H_revive_95 : decode F_H_revive.2.1 95 = .ok (.goto (-57), 3) := by decide +kernel
theorem gd_H_revive_98 : decode F_H_revive.2.1 98 = .ok (.iload_n 3, 1) := by decide +kernel
theorem gd_H_revive_99 : decode F_H_revive.2.1 99 = .ok (.ireturn, 1) := by decide +kernel
theorem gd_H_seats_0 : decode F_H_seats.2.1 0 = .ok (.iload_n 1, 1) := by decide +kernel
theorem gd_H_seats_1 : decode F_H_seats.2.1 1 = .ok (.invokestatic 48, 3) := by decide +kernel
theorem gd_H_seats_4 : decode F_H_seats.2.1 4 = .ok (.iload 4, 2) := by decide +kernel
theorem gd_H_seats_6 : decode F_H_seats.2.1 6 = .ok (.invokestatic 64, 3) := by decide +kernel
theorem gd_H_seats_9 : decode F_H_seats.2.1 9 = .ok (.iload_n 2, 1) := by decide +kernel
theorem gd_H_seats_10 : decode F_H_seats.2.1 10 = .ok (.iconst 1, 1) := by decide +kernel
theorem gd_H_seats_11 : decode F_H_seats.2.1 11 = .ok (.if_icmp .lt 10, 3) := by decide +kernel
theorem gd_H_seats_14 : decode F_H_seats.2.1 14 = .ok (.iload_n 2, 1) := by decide +kernel
theorem gd_H_seats_15 : decode F_H_seats.2.1 15 = .ok (.sipush 1000, 3) := by decide +kernel
theorem gd_H_seats_18 : decode F_H_seats.2.1 18 = .ok (.if_icmp .le 14, 3) := by decide +kernel
theorem gd_H_seats_21 : decode F_H_seats.2.1 21 = .ok (.new 75, 3) := by decide +kernel
theorem gd_H_seats_24 : decode F_H_seats.2.1 24 = .ok (.dup, 1) := by decide +kernel
theorem gd_H_seats_25 : decode F_H_seats.2.1 25 = .ok (.ldc_w 273, 3) := by decide +kernel
theorem gd_H_seats_28 : decode F_H_seats.2.1 28 = .ok (.invokespecial 79, 3) := by decide +kernel
theorem gd_H_seats_31 : decode F_H_seats.2.1 31 = .ok (.athrow, 1) := by decide +kernel
theorem gd_H_seats_32 : decode F_H_seats.2.1 32 = .ok (.iload_n 3, 1) := by decide +kernel
theorem gd_H_seats_33 : decode F_H_seats.2.1 33 = .ok (.ifCond .lt 8, 3) := by decide +kernel
theorem gd_H_seats_36 : decode F_H_seats.2.1 36 = .ok (.iload_n 3, 1) := by decide +kernel
theorem gd_H_seats_37 : decode F_H_seats.2.1 37 = .ok (.iconst 2, 1) := by decide +kernel
theorem gd_H_seats_38 : decode F_H_seats.2.1 38 = .ok (.if_icmp .le 14, 3) := by decide +kernel
theorem gd_H_seats_41 : decode F_H_seats.2.1 41 = .ok (.new 75, 3) := by decide +kernel
theorem gd_H_seats_44 : decode F_H_seats.2.1 44 = .ok (.dup, 1) := by decide +kernel
theorem gd_H_seats_45 : decode F_H_seats.2.1 45 = .ok (.ldc_w 275, 3) := by decide +kernel
theorem gd_H_seats_48 : decode F_H_seats.2.1 48 = .ok (.invokespecial 79, 3) := by decide +kernel
theorem gd_H_seats_51 : decode F_H_seats.2.1 51 = .ok (.athrow, 1) := by decide +kernel
theorem gd_H_seats_52 : decode F_H_seats.2.1 52 = .ok (.lconst 0, 1) := by decide +kernel
theorem gd_H_seats_53 : decode F_H_seats.2.1 53 = .ok (.lstore 5, 2) := by decide +kernel
theorem gd_H_seats_55 : decode F_H_seats.2.1 55 = .ok (.iconst 0, 1) := by decide +kernel
theorem gd_H_seats_56 : decode F_H_seats.2.1 56 = .ok (.istore 7, 2) := by decide +kernel
theorem gd_H_seats_58 : decode F_H_seats.2.1 58 = .ok (.iload 7, 2) := by decide +kernel
theorem gd_H_seats_60 : decode F_H_seats.2.1 60 = .ok (.bipush 6, 2) := by decide +kernel
theorem gd_H_seats_62 : decode F_H_seats.2.1 62 = .ok (.if_icmp .ge 39, 3) := by decide +kernel
theorem gd_H_seats_65 : decode F_H_seats.2.1 65 = .ok (.aload_n 0, 1) := by decide +kernel
theorem gd_H_seats_66 : decode F_H_seats.2.1 66 = .ok (.getfield 32, 3) := by decide +kernel
theorem gd_H_seats_69 : decode F_H_seats.2.1 69 = .ok (.iload 7, 2) := by decide +kernel
theorem gd_H_seats_71 : decode F_H_seats.2.1 71 = .ok (.aload_n 0, 1) := by decide +kernel
theorem gd_H_seats_72 : decode F_H_seats.2.1 72 = .ok (.getfield 17, 3) := by decide +kernel
theorem gd_H_seats_75 : decode F_H_seats.2.1 75 = .ok (.iload_n 1, 1) := by decide +kernel
theorem gd_H_seats_76 : decode F_H_seats.2.1 76 = .ok (.aaload, 1) := by decide +kernel
theorem gd_H_seats_77 : decode F_H_seats.2.1 77 = .ok (.iload 7, 2) := by decide +kernel
theorem gd_H_seats_79 : decode F_H_seats.2.1 79 = .ok (.invokevirtual 249, 3) := by decide +kernel
theorem gd_H_seats_82 : decode F_H_seats.2.1 82 = .ok (.lastore, 1) := by decide +kernel
theorem gd_H_seats_83 : decode F_H_seats.2.1 83 = .ok (.lload 5, 2) := by decide +kernel
theorem gd_H_seats_85 : decode F_H_seats.2.1 85 = .ok (.aload_n 0, 1) := by decide +kernel
theorem gd_H_seats_86 : decode F_H_seats.2.1 86 = .ok (.getfield 32, 3) := by decide +kernel
theorem gd_H_seats_89 : decode F_H_seats.2.1 89 = .ok (.iload 7, 2) := by decide +kernel
theorem gd_H_seats_91 : decode F_H_seats.2.1 91 = .ok (.laload, 1) := by decide +kernel
theorem gd_H_seats_92 : decode F_H_seats.2.1 92 = .ok (.ladd, 1) := by decide +kernel
theorem gd_H_seats_93 : decode F_H_seats.2.1 93 = .ok (.lstore 5, 2) := by decide +kernel
theorem gd_H_seats_95 : decode F_H_seats.2.1 95 = .ok (.iinc 7 1, 3) := by decide +kernel
theorem gd_H_seats_98 : decode F_H_seats.2.1 98 = .ok (.goto (-40), 3) := by decide +kernel
theorem gd_H_seats_101 : decode F_H_seats.2.1 101 = .ok (.lload 5, 2) := by decide +kernel
theorem gd_H_seats_103 : decode F_H_seats.2.1 103 = .ok (.lconst 0, 1) := by decide +kernel
theorem gd_H_seats_104 : decode F_H_seats.2.1 104 = .ok (.lcmp, 1) := by decide +kernel
theorem gd_H_seats_105 : decode F_H_seats.2.1 105 = .ok (.ifCond .gt 5, 3) := by decide +kernel
theorem gd_H_seats_108 : decode F_H_seats.2.1 108 = .ok (.iconst 0, 1) := by decide +kernel
theorem gd_H_seats_109 : decode F_H_seats.2.1 109 = .ok (.ireturn, 1) := by decide +kernel
theorem gd_H_seats_110 : decode F_H_seats.2.1 110 = .ok (.iload_n 3, 1) := by decide +kernel
theorem gd_H_seats_111 : decode F_H_seats.2.1 111 = .ok (.iconst 2, 1) := by decide +kernel
theorem gd_H_seats_112 : decode F_H_seats.2.1 112 = .ok (.if_icmp .ne 13, 3) := by decide +kernel
theorem gd_H_seats_115 : decode F_H_seats.2.1 115 = .ok (.aload_n 0, 1) := by decide +kernel
theorem gd_H_seats_116 : decode F_H_seats.2.1 116 = .ok (.iload_n 2, 1) := by decide +kernel
theorem gd_H_seats_117 : decode F_H_seats.2.1 117 = .ok (.lload 5, 2) := by decide +kernel
theorem gd_H_seats_119 : decode F_H_seats.2.1 119 = .ok (.invokevirtual 277, 3) := by decide +kernel
theorem gd_H_seats_122 : decode F_H_seats.2.1 122 = .ok (.goto 11, 3) := by decide +kernel
theorem gd_H_seats_125 : decode F_H_seats.2.1 125 = .ok (.aload_n 0, 1) := by decide +kernel
theorem gd_H_seats_126 : decode F_H_seats.2.1 126 = .ok (.iload_n 2, 1) := by decide +kernel
theorem gd_H_seats_127 : decode F_H_seats.2.1 127 = .ok (.iload_n 3, 1) := by decide +kernel
theorem gd_H_seats_128 : decode F_H_seats.2.1 128 = .ok (.iconst 1, 1) := by decide +kernel
theorem gd_H_seats_129 : decode F_H_seats.2.1 129 = .ok (.iadd, 1) := by decide +kernel
