/-! Printed by wip/whole/print_names.py: decode rows -/
theorem gd_H_seats_130 : decode F_H_seats.2.1 130 = .ok (.invokevirtual 281, 3) := by decide +kernel
theorem gd_H_seats_133 : decode F_H_seats.2.1 133 = .ok (.aload_n 0, 1) := by decide +kernel
theorem gd_H_seats_134 : decode F_H_seats.2.1 134 = .ok (.getfield 39, 3) := by decide +kernel
theorem gd_H_seats_137 : decode F_H_seats.2.1 137 = .ok (.iload 4, 2) := by decide +kernel
theorem gd_H_seats_139 : decode F_H_seats.2.1 139 = .ok (.iaload, 1) := by decide +kernel
theorem gd_H_seats_140 : decode F_H_seats.2.1 140 = .ok (.ireturn, 1) := by decide +kernel
theorem gd_H_sendLetter_0 : decode F_H_sendLetter.2.1 0 = .ok (.aload_n 0, 1) := by decide +kernel
theorem gd_H_sendLetter_1 : decode F_H_sendLetter.2.1 1 = .ok (.getfield 24, 3) := by decide +kernel
theorem gd_H_sendLetter_4 : decode F_H_sendLetter.2.1 4 = .ok (.invokevirtual 224, 3) := by decide +kernel
theorem gd_H_sendLetter_7 : decode F_H_sendLetter.2.1 7 = .ok (.sipush 500, 3) := by decide +kernel
theorem gd_H_sendLetter_10 : decode F_H_sendLetter.2.1 10 = .ok (.if_icmp .ge 28, 3) := by decide +kernel
theorem gd_H_sendLetter_13 : decode F_H_sendLetter.2.1 13 = .ok (.aload_n 0, 1) := by decide +kernel
theorem gd_H_sendLetter_14 : decode F_H_sendLetter.2.1 14 = .ok (.getfield 24, 3) := by decide +kernel
theorem gd_H_sendLetter_17 : decode F_H_sendLetter.2.1 17 = .ok (.new 189, 3) := by decide +kernel
theorem gd_H_sendLetter_20 : decode F_H_sendLetter.2.1 20 = .ok (.dup, 1) := by decide +kernel
theorem gd_H_sendLetter_21 : decode F_H_sendLetter.2.1 21 = .ok (.aload_n 1, 1) := by decide +kernel
theorem gd_H_sendLetter_22 : decode F_H_sendLetter.2.1 22 = .ok (.getfield 318, 3) := by decide +kernel
theorem gd_H_sendLetter_25 : decode F_H_sendLetter.2.1 25 = .ok (.aload_n 1, 1) := by decide +kernel
theorem gd_H_sendLetter_26 : decode F_H_sendLetter.2.1 26 = .ok (.getfield 141, 3) := by decide +kernel
theorem gd_H_sendLetter_29 : decode F_H_sendLetter.2.1 29 = .ok (.iload_n 2, 1) := by decide +kernel
theorem gd_H_sendLetter_30 : decode F_H_sendLetter.2.1 30 = .ok (.aload_n 3, 1) := by decide +kernel
theorem gd_H_sendLetter_31 : decode F_H_sendLetter.2.1 31 = .ok (.invokespecial 335, 3) := by decide +kernel
theorem gd_H_sendLetter_34 : decode F_H_sendLetter.2.1 34 = .ok (.invokevirtual 230, 3) := by decide +kernel
theorem gd_H_sendLetter_37 : decode F_H_sendLetter.2.1 37 = .ok (.pop, 1) := by decide +kernel
theorem gd_H_sendLetter_38 : decode F_H_sendLetter.2.1 38 = .ok (.return_, 1) := by decide +kernel
theorem gd_H_shareByDivisors_0 : decode F_H_shareByDivisors.2.1 0 = .ok (.aload_n 0, 1) := by decide +kernel
theorem gd_H_shareByDivisors_1 : decode F_H_shareByDivisors.2.1 1 = .ok (.getfield 39, 3) := by decide +kernel
theorem gd_H_shareByDivisors_4 : decode F_H_shareByDivisors.2.1 4 = .ok (.iconst 0, 1) := by decide +kernel
theorem gd_H_shareByDivisors_5 : decode F_H_shareByDivisors.2.1 5 = .ok (.invokestatic 107, 3) := by decide +kernel
theorem gd_H_shareByDivisors_8 : decode F_H_shareByDivisors.2.1 8 = .ok (.iconst 0, 1) := by decide +kernel
theorem gd_H_shareByDivisors_9 : decode F_H_shareByDivisors.2.1 9 = .ok (.istore_n 3, 1) := by decide +kernel
theorem gd_H_shareByDivisors_10 : decode F_H_shareByDivisors.2.1 10 = .ok (.iload_n 3, 1) := by decide +kernel
theorem gd_H_shareByDivisors_11 : decode F_H_shareByDivisors.2.1 11 = .ok (.iload_n 1, 1) := by decide +kernel
theorem gd_H_shareByDivisors_12 : decode F_H_shareByDivisors.2.1 12 = .ok (.if_icmp .ge 95, 3) := by decide +kernel
theorem gd_H_shareByDivisors_15 : decode F_H_shareByDivisors.2.1 15 = .ok (.iconst 0, 1) := by decide +kernel
theorem gd_H_shareByDivisors_16 : decode F_H_shareByDivisors.2.1 16 = .ok (.istore 4, 2) := by decide +kernel
theorem gd_H_shareByDivisors_18 : decode F_H_shareByDivisors.2.1 18 = .ok (.iconst 1, 1) := by decide +kernel
theorem gd_H_shareByDivisors_19 : decode F_H_shareByDivisors.2.1 19 = .ok (.istore 5, 2) := by decide +kernel
theorem gd_H_shareByDivisors_21 : decode F_H_shareByDivisors.2.1 21 = .ok (.iload 5, 2) := by decide +kernel
theorem gd_H_shareByDivisors_23 : decode F_H_shareByDivisors.2.1 23 = .ok (.bipush 6, 2) := by decide +kernel
theorem gd_H_shareByDivisors_25 : decode F_H_shareByDivisors.2.1 25 = .ok (.if_icmp .ge 65, 3) := by decide +kernel
theorem gd_H_shareByDivisors_28 : decode F_H_shareByDivisors.2.1 28 = .ok (.aload_n 0, 1) := by decide +kernel
theorem gd_H_shareByDivisors_29 : decode F_H_shareByDivisors.2.1 29 = .ok (.getfield 32, 3) := by decide +kernel
theorem gd_H_shareByDivisors_32 : decode F_H_shareByDivisors.2.1 32 = .ok (.iload 5, 2) := by decide +kernel
theorem gd_H_shareByDivisors_34 : decode F_H_shareByDivisors.2.1 34 = .ok (.laload, 1) := by decide +kernel
theorem gd_H_shareByDivisors_35 : decode F_H_shareByDivisors.2.1 35 = .ok (.iload_n 2, 1) := by decide +kernel
theorem gd_H_shareByDivisors_36 : decode F_H_shareByDivisors.2.1 36 = .ok (.aload_n 0, 1) := by decide +kernel
theorem gd_H_shareByDivisors_37 : decode F_H_shareByDivisors.2.1 37 = .ok (.getfield 39, 3) := by decide +kernel
theorem gd_H_shareByDivisors_40 : decode F_H_shareByDivisors.2.1 40 = .ok (.iload 4, 2) := by decide +kernel
theorem gd_H_shareByDivisors_42 : decode F_H_shareByDivisors.2.1 42 = .ok (.iaload, 1) := by decide +kernel
theorem gd_H_shareByDivisors_43 : decode F_H_shareByDivisors.2.1 43 = .ok (.imul, 1) := by decide +kernel
theorem gd_H_shareByDivisors_44 : decode F_H_shareByDivisors.2.1 44 = .ok (.iconst 1, 1) := by decide +kernel
theorem gd_H_shareByDivisors_45 : decode F_H_shareByDivisors.2.1 45 = .ok (.iadd, 1) := by decide +kernel
theorem gd_H_shareByDivisors_46 : decode F_H_shareByDivisors.2.1 46 = .ok (.i2l, 1) := by decide +kernel
theorem gd_H_shareByDivisors_47 : decode F_H_shareByDivisors.2.1 47 = .ok (.lmul, 1) := by decide +kernel
theorem gd_H_shareByDivisors_48 : decode F_H_shareByDivisors.2.1 48 = .ok (.lstore 6, 2) := by decide +kernel
theorem gd_H_shareByDivisors_50 : decode F_H_shareByDivisors.2.1 50 = .ok (.aload_n 0, 1) := by decide +kernel
theorem gd_H_shareByDivisors_51 : decode F_H_shareByDivisors.2.1 51 = .ok (.getfield 32, 3) := by decide +kernel
theorem gd_H_shareByDivisors_54 : decode F_H_shareByDivisors.2.1 54 = .ok (.iload 4, 2) := by decide +kernel
theorem gd_H_shareByDivisors_56 : decode F_H_shareByDivisors.2.1 56 = .ok (.laload, 1) := by decide +kernel
theorem gd_H_shareByDivisors_57 : decode F_H_shareByDivisors.2.1 57 = .ok (.iload_n 2, 1) := by decide +kernel
theorem gd_H_shareByDivisors_58 : decode F_H_shareByDivisors.2.1 58 = .ok (.aload_n 0, 1) := by decide +kernel
theorem gd_H_shareByDivisors_59 : decode F_H_shareByDivisors.2.1 59 = .ok (.getfield 39, 3) := by decide +kernel
theorem gd_H_shareByDivisors_62 : decode F_H_shareByDivisors.2.1 62 = .ok (.iload 5, 2) := by decide +kernel
theorem gd_H_shareByDivisors_64 : decode F_H_shareByDivisors.2.1 64 = .ok (.iaload, 1) := by decide +kernel
theorem gd_H_shareByDivisors_65 : decode F_H_shareByDivisors.2.1 65 = .ok (.imul, 1) := by decide +kernel
theorem gd_H_shareByDivisors_66 : decode F_H_shareByDivisors.2.1 66 = .ok (.iconst 1, 1) := by decide +kernel
theorem gd_H_shareByDivisors_67 : decode F_H_shareByDivisors.2.1 67 = .ok (.iadd, 1) := by decide +kernel
theorem gd_H_shareByDivisors_68 : decode F_H_shareByDivisors.2.1 68 = .ok (.i2l, 1) := by decide +kernel
theorem gd_H_shareByDivisors_69 : decode F_H_shareByDivisors.2.1 69 = .ok (.lmul, 1) := by decide +kernel
theorem gd_H_shareByDivisors_70 : decode F_H_shareByDivisors.2.1 70 = .ok (.lstore 8, 2) := by decide +kernel
theorem gd_H_shareByDivisors_72 : decode F_H_shareByDivisors.2.1 72 = .ok (.lload 6, 2) := by decide +kernel
theorem gd_H_shareByDivisors_74 : decode F_H_shareByDivisors.2.1 74 = .ok (.lload 8, 2) := by decide +kernel
theorem gd_H_shareByDivisors_76 : decode F_H_shareByDivisors.2.1 76 = .ok (.lcmp, 1) := by decide +kernel
theorem gd_H_shareByDivisors_77 : decode F_H_shareByDivisors.2.1 77 = .ok (.ifCond .le 7, 3) := by decide +kernel
theorem gd_H_shareByDivisors_80 : decode F_H_shareByDivisors.2.1 80 = .ok (.iload 5, 2) := by decide +kernel
theorem gd_H_shareByDivisors_82 : decode F_H_shareByDivisors.2.1 82 = .ok (.istore 4, 2) := by decide +kernel
theorem gd_H_shareByDivisors_84 : decode F_H_shareByDivisors.2.1 84 = .ok (.iinc 5 1, 3) := by decide +kernel
theorem gd_H_shareByDivisors_87 : decode F_H_shareByDivisors.2.1 87 = .ok (.goto (-66), 3) := by decide +kernel
theorem gd_H_shareByDivisors_90 : decode F_H_shareByDivisors.2.1 90 = .ok (.aload_n 0, 1) := by decide +kernel
theorem gd_H_shareByDivisors_91 : decode F_H_shareByDivisors.2.1 91 = .ok (.getfield 39, 3) := by decide +kernel
theorem gd_H_shareByDivisors_94 : decode F_H_shareByDivisors.2.1 94 = .ok (.iload 4, 2) := by decide +kernel
theorem gd_H_shareByDivisors_96 : decode F_H_shareByDivisors.2.1 96 = .ok (.dup2, 1) := by decide +kernel
theorem gd_H_shareByDivisors_97 : decode F_H_shareByDivisors.2.1 97 = .ok (.iaload, 1) := by decide +kernel
theorem gd_H_shareByDivisors_98 : decode F_H_shareByDivisors.2.1 98 = .ok (.iconst 1, 1) := by decide +kernel
theorem gd_H_shareByDivisors_99 : decode F_H_shareByDivisors.2.1 99 = .ok (.iadd, 1) := by decide +kernel
theorem gd_H_shareByDivisors_100 : decode F_H_shareByDivisors.2.1 100 = .ok (.iastore, 1) := by decide +kernel
theorem gd_H_shareByDivisors_101 : decode F_H_shareByDivisors.2.1 101 = .ok (.iinc 3 1, 3) := by decide +kernel
theorem gd_H_shareByDivisors_104 : decode F_H_shareByDivisors.2.1 104 = .ok (.goto (-94), 3) := by decide +kernel
theorem gd_H_shareByDivisors_107 : decode F_H_shareByDivisors.2.1 107 = .ok (.return_, 1) := by decide +kernel
theorem gd_H_shareByRests_0 : decode F_H_shareByRests.2.1 0 = .ok (.lload_n 2, 1) := by decide +kernel
theorem gd_H_shareByRests_1 : decode F_H_shareByRests.2.1 1 = .ok (.lconst 0, 1) := by decide +kernel
theorem gd_H_shareByRests_2 : decode F_H_shareByRests.2.1 2 = .ok (.lcmp, 1) := by decide +kernel
theorem gd_H_shareByRests_3 : decode F_H_shareByRests.2.1 3 = .ok (.ifCond .gt 4, 3) := by decide +kernel
theorem gd_H_shareByRests_6 : decode F_H_shareByRests.2.1 6 = .ok (.return_, 1) := by decide +kernel
theorem gd_H_shareByRests_7 : decode F_H_shareByRests.2.1 7 = .ok (.iload_n 1, 1) := by decide +kernel
theorem gd_H_shareByRests_8 : decode F_H_shareByRests.2.1 8 = .ok (.istore 4, 2) := by decide +kernel
theorem gd_H_shareByRests_10 : decode F_H_shareByRests.2.1 10 = .ok (.iconst 0, 1) := by decide +kernel
theorem gd_H_shareByRests_11 : decode F_H_shareByRests.2.1 11 = .ok (.istore 5, 2) := by decide +kernel
theorem gd_H_shareByRests_13 : decode F_H_shareByRests.2.1 13 = .ok (.iload 5, 2) := by decide +kernel
theorem gd_H_shareByRests_15 : decode F_H_shareByRests.2.1 15 = .ok (.bipush 6, 2) := by decide +kernel
theorem gd_H_shareByRests_17 : decode F_H_shareByRests.2.1 17 = .ok (.if_icmp .ge 56, 3) := by decide +kernel
theorem gd_H_shareByRests_20 : decode F_H_shareByRests.2.1 20 = .ok (.iload_n 1, 1) := by decide +kernel
theorem gd_H_shareByRests_21 : decode F_H_shareByRests.2.1 21 = .ok (.i2l, 1) := by decide +kernel
theorem gd_H_shareByRests_22 : decode F_H_shareByRests.2.1 22 = .ok (.aload_n 0, 1) := by decide +kernel
theorem gd_H_shareByRests_23 : decode F_H_shareByRests.2.1 23 = .ok (.getfield 32, 3) := by decide +kernel
theorem gd_H_shareByRests_26 : decode F_H_shareByRests.2.1 26 = .ok (.iload 5, 2) := by decide +kernel
theorem gd_H_shareByRests_28 : decode F_H_shareByRests.2.1 28 = .ok (.laload, 1) := by decide +kernel
theorem gd_H_shareByRests_29 : decode F_H_shareByRests.2.1 29 = .ok (.lmul, 1) := by decide +kernel
theorem gd_H_shareByRests_30 : decode F_H_shareByRests.2.1 30 = .ok (.lstore 6, 2) := by decide +kernel
theorem gd_H_shareByRests_32 : decode F_H_shareByRests.2.1 32 = .ok (.aload_n 0, 1) := by decide +kernel
theorem gd_H_shareByRests_33 : decode F_H_shareByRests.2.1 33 = .ok (.getfield 39, 3) := by decide +kernel
theorem gd_H_shareByRests_36 : decode F_H_shareByRests.2.1 36 = .ok (.iload 5, 2) := by decide +kernel
theorem gd_H_shareByRests_38 : decode F_H_shareByRests.2.1 38 = .ok (.lload 6, 2) := by decide +kernel
theorem gd_H_shareByRests_40 : decode F_H_shareByRests.2.1 40 = .ok (.lload_n 2, 1) := by decide +kernel
theorem gd_H_shareByRests_41 : decode F_H_shareByRests.2.1 41 = .ok (.ldiv, 1) := by decide +kernel
theorem gd_H_shareByRests_42 : decode F_H_shareByRests.2.1 42 = .ok (.l2i, 1) := by decide +kernel
theorem gd_H_shareByRests_43 : decode F_H_shareByRests.2.1 43 = .ok (.iastore, 1) := by decide +kernel
theorem gd_H_shareByRests_44 : decode F_H_shareByRests.2.1 44 = .ok (.aload_n 0, 1) := by decide +kernel
theorem gd_H_shareByRests_45 : decode F_H_shareByRests.2.1 45 = .ok (.getfield 36, 3) := by decide +kernel
theorem gd_H_shareByRests_48 : decode F_H_shareByRests.2.1 48 = .ok (.iload 5, 2) := by decide +kernel
theorem gd_H_shareByRests_50 : decode F_H_shareByRests.2.1 50 = .ok (.lload 6, 2) := by decide +kernel
theorem gd_H_shareByRests_52 : decode F_H_shareByRests.2.1 52 = .ok (.lload_n 2, 1) := by decide +kernel
theorem gd_H_shareByRests_53 : decode F_H_shareByRests.2.1 53 = .ok (.lrem, 1) := by decide +kernel
theorem gd_H_shareByRests_54 : decode F_H_shareByRests.2.1 54 = .ok (.lastore, 1) := by decide +kernel
theorem gd_H_shareByRests_55 : decode F_H_shareByRests.2.1 55 = .ok (.iload 4, 2) := by decide +kernel
theorem gd_H_shareByRests_57 : decode F_H_shareByRests.2.1 57 = .ok (.aload_n 0, 1) := by decide +kernel
theorem gd_H_shareByRests_58 : decode F_H_shareByRests.2.1 58 = .ok (.getfield 39, 3) := by decide +kernel
theorem gd_H_shareByRests_61 : decode F_H_shareByRests.2.1 61 = .ok (.iload 5, 2) := by decide +kernel
theorem gd_H_shareByRests_63 : decode F_H_shareByRests.2.1 63 = .ok (.iaload, 1) := by decide +kernel
theorem gd_H_shareByRests_64 : decode F_H_shareByRests.2.1 64 = .ok (.isub, 1) := by decide +kernel
theorem gd_H_shareByRests_65 : decode F_H_shareByRests.2.1 65 = .ok (.istore 4, 2) := by decide +kernel
theorem gd_H_shareByRests_67 : decode F_H_shareByRests.2.1 67 = .ok (.iinc 5 1, 3) := by decide +kernel
theorem gd_H_shareByRests_70 : decode F_H_shareByRests.2.1 70 = .ok (.goto (-57), 3) := by decide +kernel
theorem gd_H_shareByRests_73 : decode F_H_shareByRests.2.1 73 = .ok (.iload 4, 2) := by decide +kernel
theorem gd_H_shareByRests_75 : decode F_H_shareByRests.2.1 75 = .ok (.ifCond .le 71, 3) := by decide +kernel
theorem gd_H_shareByRests_78 : decode F_H_shareByRests.2.1 78 = .ok (.iconst 0, 1) := by decide +kernel
theorem gd_H_shareByRests_79 : decode F_H_shareByRests.2.1 79 = .ok (.istore 5, 2) := by decide +kernel
theorem gd_H_shareByRests_81 : decode F_H_shareByRests.2.1 81 = .ok (.iconst 1, 1) := by decide +kernel
theorem gd_H_shareByRests_82 : decode F_H_shareByRests.2.1 82 = .ok (.istore 6, 2) := by decide +kernel
theorem gd_H_shareByRests_84 : decode F_H_shareByRests.2.1 84 = .ok (.iload 6, 2) := by decide +kernel
theorem gd_H_shareByRests_86 : decode F_H_shareByRests.2.1 86 = .ok (.bipush 6, 2) := by decide +kernel
theorem gd_H_shareByRests_88 : decode F_H_shareByRests.2.1 88 = .ok (.if_icmp .ge 31, 3) := by decide +kernel
theorem gd_H_shareByRests_91 : decode F_H_shareByRests.2.1 91 = .ok (.aload_n 0, 1) := by decide +kernel
theorem gd_H_shareByRests_92 : decode F_H_shareByRests.2.1 92 = .ok (.getfield 36, 3) := by decide +kernel
theorem gd_H_shareByRests_95 : decode F_H_shareByRests.2.1 95 = .ok (.iload 6, 2) := by decide +kernel
theorem gd_H_shareByRests_97 : decode F_H_shareByRests.2.1 97 = .ok (.laload, 1) := by decide +kernel
theorem gd_H_shareByRests_98 : decode F_H_shareByRests.2.1 98 = .ok (.aload_n 0, 1) := by decide +kernel
theorem gd_H_shareByRests_99 : decode F_H_shareByRests.2.1 99 = .ok (.getfield 36, 3) := by decide +kernel
theorem gd_H_shareByRests_102 : decode F_H_shareByRests.2.1 102 = .ok (.iload 5, 2) := by decide +kernel
theorem gd_H_shareByRests_104 : decode F_H_shareByRests.2.1 104 = .ok (.laload, 1) := by decide +kernel
theorem gd_H_shareByRests_105 : decode F_H_shareByRests.2.1 105 = .ok (.lcmp, 1) := by decide +kernel
theorem gd_H_shareByRests_106 : decode F_H_shareByRests.2.1 106 = .ok (.ifCond .le 7, 3) := by decide +kernel
theorem gd_H_shareByRests_109 : decode F_H_shareByRests.2.1 109 = .ok (.iload 6, 2) := by decide +kernel
theorem gd_H_shareByRests_111 : decode F_H_shareByRests.2.1 111 = .ok (.istore 5, 2) := by decide +kernel
theorem gd_H_shareByRests_113 : decode F_H_shareByRests.2.1 113 = .ok (.iinc 6 1, 3) := by decide +kernel
theorem gd_H_shareByRests_116 : decode F_H_shareByRests.2.1 116 = .ok (.goto (-32), 3) := by decide +kernel
theorem gd_H_shareByRests_119 : decode F_H_shareByRests.2.1 119 = .ok (.aload_n 0, 1) := by decide +kernel
theorem gd_H_shareByRests_120 : decode F_H_shareByRests.2.1 120 = .ok (.getfield 39, 3) := by decide +kernel
theorem gd_H_shareByRests_123 : decode F_H_shareByRests.2.1 123 = .ok (.iload 5, 2) := by decide +kernel
theorem gd_H_shareByRests_125 : decode F_H_shareByRests.2.1 125 = .ok (.dup2, 1) := by decide +kernel
theorem gd_H_shareByRests_126 : decode F_H_shareByRests.2.1 126 = .ok (.iaload, 1) := by decide +kernel
theorem gd_H_shareByRests_127 : decode F_H_shareByRests.2.1 127 = .ok (.iconst 1, 1) := by decide +kernel
theorem gd_H_shareByRests_128 : decode F_H_shareByRests.2.1 128 = .ok (.iadd, 1) := by decide +kernel
theorem gd_H_shareByRests_129 : decode F_H_shareByRests.2.1 129 = .ok (.iastore, 1) := by decide +kernel
theorem gd_H_shareByRests_130 : decode F_H_shareByRests.2.1 130 = .ok (.aload_n 0, 1) := by decide +kernel
theorem gd_H_shareByRests_131 : decode F_H_shareByRests.2.1 131 = .ok (.getfield 36, 3) := by decide +kernel
theorem gd_H_shareByRests_134 : decode F_H_shareByRests.2.1 134 = .ok (.iload 5, 2) := by decide +kernel
theorem gd_H_shareByRests_136 : decode F_H_shareByRests.2.1 136 = .ok (.ldc2_w 351, 3) := by decide +kernel
theorem gd_H_shareByRests_139 : decode F_H_shareByRests.2.1 139 = .ok (.lastore, 1) := by decide +kernel
theorem gd_H_shareByRests_140 : decode F_H_shareByRests.2.1 140 = .ok (.iinc 4 (-1), 3) := by decide +kernel
theorem gd_H_shareByRests_143 : decode F_H_shareByRests.2.1 143 = .ok (.goto (-70), 3) := by decide +kernel
theorem gd_H_shareByRests_146 : decode F_H_shareByRests.2.1 146 = .ok (.return_, 1) := by decide +kernel
theorem gd_H_sum_0 : decode F_H_sum.2.1 0 = .ok (.iload_n 1, 1) := by decide +kernel
theorem gd_H_sum_1 : decode F_H_sum.2.1 1 = .ok (.invokestatic 48, 3) := by decide +kernel
theorem gd_H_sum_4 : decode F_H_sum.2.1 4 = .ok (.iload_n 2, 1) := by decide +kernel
theorem gd_H_sum_5 : decode F_H_sum.2.1 5 = .ok (.invokestatic 64, 3) := by decide +kernel
theorem gd_H_sum_8 : decode F_H_sum.2.1 8 = .ok (.aload_n 0, 1) := by decide +kernel
theorem gd_H_sum_9 : decode F_H_sum.2.1 9 = .ok (.getfield 17, 3) := by decide +kernel
theorem gd_H_sum_12 : decode F_H_sum.2.1 12 = .ok (.iload_n 1, 1) := by decide +kernel
theorem gd_H_sum_13 : decode F_H_sum.2.1 13 = .ok (.aaload, 1) := by decide +kernel
theorem gd_H_sum_14 : decode F_H_sum.2.1 14 = .ok (.iload_n 2, 1) := by decide +kernel
theorem gd_H_sum_15 : decode F_H_sum.2.1 15 = .ok (.invokevirtual 249, 3) := by decide +kernel
theorem gd_H_sum_18 : decode F_H_sum.2.1 18 = .ok (.lreturn, 1) := by decide +kernel
theorem gd_H_takeAway_0 : decode F_H_takeAway.2.1 0 = .ok (.aload_n 1, 1) := by decide +kernel
theorem gd_H_takeAway_1 : decode F_H_takeAway.2.1 1 = .ok (.getfield 138, 3) := by decide +kernel
theorem gd_H_takeAway_4 : decode F_H_takeAway.2.1 4 = .ok (.iconst (-1), 1) := by decide +kernel
theorem gd_H_takeAway_5 : decode F_H_takeAway.2.1 5 = .ok (.if_icmp .ne 4, 3) := by decide +kernel
theorem gd_H_takeAway_8 : decode F_H_takeAway.2.1 8 = .ok (.return_, 1) := by decide +kernel
theorem gd_H_takeAway_9 : decode F_H_takeAway.2.1 9 = .ok (.aload_n 0, 1) := by decide +kernel
theorem gd_H_takeAway_10 : decode F_H_takeAway.2.1 10 = .ok (.getfield 17, 3) := by decide +kernel
theorem gd_H_takeAway_13 : decode F_H_takeAway.2.1 13 = .ok (.aload_n 1, 1) := by decide +kernel
theorem gd_H_takeAway_14 : decode F_H_takeAway.2.1 14 = .ok (.getfield 138, 3) := by decide +kernel
theorem gd_H_takeAway_17 : decode F_H_takeAway.2.1 17 = .ok (.aaload, 1) := by decide +kernel
theorem gd_H_takeAway_18 : decode F_H_takeAway.2.1 18 = .ok (.astore_n 2, 1) := by decide +kernel
theorem gd_H_takeAway_19 : decode F_H_takeAway.2.1 19 = .ok (.iconst 0, 1) := by decide +kernel
theorem gd_H_takeAway_20 : decode F_H_takeAway.2.1 20 = .ok (.istore_n 3, 1) := by decide +kernel
theorem gd_H_takeAway_21 : decode F_H_takeAway.2.1 21 = .ok (.iload_n 3, 1) := by decide +kernel
theorem gd_H_takeAway_22 : decode F_H_takeAway.2.1 22 = .ok (.bipush 40, 2) := by decide +kernel
theorem gd_H_takeAway_24 : decode F_H_takeAway.2.1 24 = .ok (.if_icmp .ge 28, 3) := by decide +kernel
theorem gd_H_takeAway_27 : decode F_H_takeAway.2.1 27 = .ok (.aload_n 2, 1) := by decide +kernel
theorem gd_H_takeAway_28 : decode F_H_takeAway.2.1 28 = .ok (.getfield 179, 3) := by decide +kernel
theorem gd_H_takeAway_31 : decode F_H_takeAway.2.1 31 = .ok (.iload_n 3, 1) := by decide +kernel
theorem gd_H_takeAway_32 : decode F_H_takeAway.2.1 32 = .ok (.iaload, 1) := by decide +kernel
theorem gd_H_takeAway_33 : decode F_H_takeAway.2.1 33 = .ok (.aload_n 1, 1) := by decide +kernel
theorem gd_H_takeAway_34 : decode F_H_takeAway.2.1 34 = .ok (.getfield 318, 3) := by decide +kernel
theorem gd_H_takeAway_37 : decode F_H_takeAway.2.1 37 = .ok (.if_icmp .ne 9, 3) := by decide +kernel
theorem gd_H_takeAway_40 : decode F_H_takeAway.2.1 40 = .ok (.aload_n 0, 1) := by decide +kernel
theorem gd_H_takeAway_41 : decode F_H_takeAway.2.1 41 = .ok (.aload_n 2, 1) := by decide +kernel
theorem gd_H_takeAway_42 : decode F_H_takeAway.2.1 42 = .ok (.iload_n 3, 1) := by decide +kernel
theorem gd_H_takeAway_43 : decode F_H_takeAway.2.1 43 = .ok (.invokevirtual 326, 3) := by decide +kernel
theorem gd_H_takeAway_46 : decode F_H_takeAway.2.1 46 = .ok (.iinc 3 1, 3) := by decide +kernel
theorem gd_H_takeAway_49 : decode F_H_takeAway.2.1 49 = .ok (.goto (-28), 3) := by decide +kernel
theorem gd_H_takeAway_52 : decode F_H_takeAway.2.1 52 = .ok (.aload_n 1, 1) := by decide +kernel
theorem gd_H_takeAway_53 : decode F_H_takeAway.2.1 53 = .ok (.invokevirtual 159, 3) := by decide +kernel
theorem gd_H_takeAway_56 : decode F_H_takeAway.2.1 56 = .ok (.aload_n 0, 1) := by decide +kernel
theorem gd_H_takeAway_57 : decode F_H_takeAway.2.1 57 = .ok (.aload_n 2, 1) := by decide +kernel
theorem gd_H_takeAway_58 : decode F_H_takeAway.2.1 58 = .ok (.invokevirtual 329, 3) := by decide +kernel
theorem gd_H_takeAway_61 : decode F_H_takeAway.2.1 61 = .ok (.return_, 1) := by decide +kernel
theorem gd_H_takeBack_0 : decode F_H_takeBack.2.1 0 = .ok (.aload_n 2, 1) := by decide +kernel
theorem gd_H_takeBack_1 : decode F_H_takeBack.2.1 1 = .ok (.getfield 338, 3) := by decide +kernel
theorem gd_H_takeBack_4 : decode F_H_takeBack.2.1 4 = .ok (.invokevirtual 224, 3) := by decide +kernel
theorem gd_H_takeBack_7 : decode F_H_takeBack.2.1 7 = .ok (.iconst 1, 1) := by decide +kernel
theorem gd_H_takeBack_8 : decode F_H_takeBack.2.1 8 = .ok (.isub, 1) := by decide +kernel
theorem gd_H_takeBack_9 : decode F_H_takeBack.2.1 9 = .ok (.istore 4, 2) := by decide +kernel
theorem gd_H_takeBack_11 : decode F_H_takeBack.2.1 11 = .ok (.iload 4, 2) := by decide +kernel
theorem gd_H_takeBack_13 : decode F_H_takeBack.2.1 13 = .ok (.ifCond .lt 38, 3) := by decide +kernel
theorem gd_H_takeBack_16 : decode F_H_takeBack.2.1 16 = .ok (.aload_n 2, 1) := by decide +kernel
theorem gd_H_takeBack_17 : decode F_H_takeBack.2.1 17 = .ok (.getfield 338, 3) := by decide +kernel
theorem gd_H_takeBack_20 : decode F_H_takeBack.2.1 20 = .ok (.iload 4, 2) := by decide +kernel
theorem gd_H_takeBack_22 : decode F_H_takeBack.2.1 22 = .ok (.invokevirtual 185, 3) := by decide +kernel
theorem gd_H_takeBack_25 : decode F_H_takeBack.2.1 25 = .ok (.checkcast 209, 3) := by decide +kernel
theorem gd_H_takeBack_28 : decode F_H_takeBack.2.1 28 = .ok (.getfield 213, 3) := by decide +kernel
theorem gd_H_takeBack_31 : decode F_H_takeBack.2.1 31 = .ok (.iload_n 3, 1) := by decide +kernel
theorem gd_H_takeBack_32 : decode F_H_takeBack.2.1 32 = .ok (.if_icmp .ne 13, 3) := by decide +kernel
theorem gd_H_takeBack_35 : decode F_H_takeBack.2.1 35 = .ok (.aload_n 2, 1) := by decide +kernel
theorem gd_H_takeBack_36 : decode F_H_takeBack.2.1 36 = .ok (.getfield 338, 3) := by decide +kernel
theorem gd_H_takeBack_39 : decode F_H_takeBack.2.1 39 = .ok (.iload 4, 2) := by decide +kernel
theorem gd_H_takeBack_41 : decode F_H_takeBack.2.1 41 = .ok (.invokevirtual 191, 3) := by decide +kernel
theorem gd_H_takeBack_44 : decode F_H_takeBack.2.1 44 = .ok (.pop, 1) := by decide +kernel
theorem gd_H_takeBack_45 : decode F_H_takeBack.2.1 45 = .ok (.iinc 4 (-1), 3) := by decide +kernel
theorem gd_H_takeBack_48 : decode F_H_takeBack.2.1 48 = .ok (.goto (-37), 3) := by decide +kernel
theorem gd_H_takeBack_51 : decode F_H_takeBack.2.1 51 = .ok (.aload_n 1, 1) := by decide +kernel
theorem gd_H_takeBack_52 : decode F_H_takeBack.2.1 52 = .ok (.getfield 179, 3) := by decide +kernel
theorem gd_H_takeBack_55 : decode F_H_takeBack.2.1 55 = .ok (.iload_n 3, 1) := by decide +kernel
theorem gd_H_takeBack_56 : decode F_H_takeBack.2.1 56 = .ok (.iaload, 1) := by decide +kernel
theorem gd_H_takeBack_57 : decode F_H_takeBack.2.1 57 = .ok (.aload_n 2, 1) := by decide +kernel
theorem gd_H_takeBack_58 : decode F_H_takeBack.2.1 58 = .ok (.getfield 318, 3) := by decide +kernel
theorem gd_H_takeBack_61 : decode F_H_takeBack.2.1 61 = .ok (.if_icmp .ne 9, 3) := by decide +kernel
theorem gd_H_takeBack_64 : decode F_H_takeBack.2.1 64 = .ok (.aload_n 0, 1) := by decide +kernel
theorem gd_H_takeBack_65 : decode F_H_takeBack.2.1 65 = .ok (.aload_n 1, 1) := by decide +kernel
theorem gd_H_takeBack_66 : decode F_H_takeBack.2.1 66 = .ok (.iload_n 3, 1) := by decide +kernel
theorem gd_H_takeBack_67 : decode F_H_takeBack.2.1 67 = .ok (.invokevirtual 326, 3) := by decide +kernel
theorem gd_H_takeBack_70 : decode F_H_takeBack.2.1 70 = .ok (.aload_n 0, 1) := by decide +kernel
theorem gd_H_takeBack_71 : decode F_H_takeBack.2.1 71 = .ok (.aload_n 1, 1) := by decide +kernel
theorem gd_H_takeBack_72 : decode F_H_takeBack.2.1 72 = .ok (.invokevirtual 329, 3) := by decide +kernel
theorem gd_H_takeBack_75 : decode F_H_takeBack.2.1 75 = .ok (.return_, 1) := by decide +kernel
theorem gd_H_takeIn_0 : decode F_H_takeIn.2.1 0 = .ok (.aload_n 2, 1) := by decide +kernel
theorem gd_H_takeIn_1 : decode F_H_takeIn.2.1 1 = .ok (.getfield 338, 3) := by decide +kernel
theorem gd_H_takeIn_4 : decode F_H_takeIn.2.1 4 = .ok (.invokevirtual 284, 3) := by decide +kernel
theorem gd_H_takeIn_7 : decode F_H_takeIn.2.1 7 = .ok (.ifCond .eq 38, 3) := by decide +kernel
theorem gd_H_takeIn_10 : decode F_H_takeIn.2.1 10 = .ok (.aload_n 1, 1) := by decide +kernel
theorem gd_H_takeIn_11 : decode F_H_takeIn.2.1 11 = .ok (.aload_n 3, 1) := by decide +kernel
theorem gd_H_takeIn_12 : decode F_H_takeIn.2.1 12 = .ok (.getfield 213, 3) := by decide +kernel
theorem gd_H_takeIn_15 : decode F_H_takeIn.2.1 15 = .ok (.aload_n 2, 1) := by decide +kernel
theorem gd_H_takeIn_16 : decode F_H_takeIn.2.1 16 = .ok (.getfield 318, 3) := by decide +kernel
theorem gd_H_takeIn_19 : decode F_H_takeIn.2.1 19 = .ok (.invokevirtual 319, 3) := by decide +kernel
theorem gd_H_takeIn_22 : decode F_H_takeIn.2.1 22 = .ok (.ifCond .eq 23, 3) := by decide +kernel
theorem gd_H_takeIn_25 : decode F_H_takeIn.2.1 25 = .ok (.aload_n 0, 1) := by decide +kernel
theorem gd_H_takeIn_26 : decode F_H_takeIn.2.1 26 = .ok (.aload_n 1, 1) := by decide +kernel
theorem gd_H_takeIn_27 : decode F_H_takeIn.2.1 27 = .ok (.aload_n 3, 1) := by decide +kernel
theorem gd_H_takeIn_28 : decode F_H_takeIn.2.1 28 = .ok (.getfield 213, 3) := by decide +kernel
theorem gd_H_takeIn_31 : decode F_H_takeIn.2.1 31 = .ok (.aload_n 3, 1) := by decide +kernel
theorem gd_H_takeIn_32 : decode F_H_takeIn.2.1 32 = .ok (.getfield 208, 3) := by decide +kernel
theorem gd_H_takeIn_35 : decode F_H_takeIn.2.1 35 = .ok (.aload_n 2, 1) := by decide +kernel
theorem gd_H_takeIn_36 : decode F_H_takeIn.2.1 36 = .ok (.getfield 318, 3) := by decide +kernel
theorem gd_H_takeIn_39 : decode F_H_takeIn.2.1 39 = .ok (.invokevirtual 170, 3) := by decide +kernel
theorem gd_H_takeIn_42 : decode F_H_takeIn.2.1 42 = .ok (.goto 12, 3) := by decide +kernel
theorem gd_H_takeIn_45 : decode F_H_takeIn.2.1 45 = .ok (.aload_n 2, 1) := by decide +kernel
theorem gd_H_takeIn_46 : decode F_H_takeIn.2.1 46 = .ok (.getfield 338, 3) := by decide +kernel
theorem gd_H_takeIn_49 : decode F_H_takeIn.2.1 49 = .ok (.aload_n 3, 1) := by decide +kernel
theorem gd_H_takeIn_50 : decode F_H_takeIn.2.1 50 = .ok (.invokevirtual 230, 3) := by decide +kernel
theorem gd_H_takeIn_53 : decode F_H_takeIn.2.1 53 = .ok (.pop, 1) := by decide +kernel
theorem gd_H_takeIn_54 : decode F_H_takeIn.2.1 54 = .ok (.return_, 1) := by decide +kernel
theorem gd_H_tellParent_0 : decode F_H_tellParent.2.1 0 = .ok (.aload_n 1, 1) := by decide +kernel
theorem gd_H_tellParent_1 : decode F_H_tellParent.2.1 1 = .ok (.getfield 138, 3) := by decide +kernel
theorem gd_H_tellParent_4 : decode F_H_tellParent.2.1 4 = .ok (.iconst (-1), 1) := by decide +kernel
theorem gd_H_tellParent_5 : decode F_H_tellParent.2.1 5 = .ok (.if_icmp .eq 40, 3) := by decide +kernel
theorem gd_H_tellParent_8 : decode F_H_tellParent.2.1 8 = .ok (.new 209, 3) := by decide +kernel
theorem gd_H_tellParent_11 : decode F_H_tellParent.2.1 11 = .ok (.dup, 1) := by decide +kernel
theorem gd_H_tellParent_12 : decode F_H_tellParent.2.1 12 = .ok (.iload_n 2, 1) := by decide +kernel
theorem gd_H_tellParent_13 : decode F_H_tellParent.2.1 13 = .ok (.aload_n 1, 1) := by decide +kernel
theorem gd_H_tellParent_14 : decode F_H_tellParent.2.1 14 = .ok (.getfield 144, 3) := by decide +kernel
theorem gd_H_tellParent_17 : decode F_H_tellParent.2.1 17 = .ok (.iload_n 2, 1) := by decide +kernel
theorem gd_H_tellParent_18 : decode F_H_tellParent.2.1 18 = .ok (.aaload, 1) := by decide +kernel
theorem gd_H_tellParent_19 : decode F_H_tellParent.2.1 19 = .ok (.invokespecial 332, 3) := by decide +kernel
theorem gd_H_tellParent_22 : decode F_H_tellParent.2.1 22 = .ok (.astore_n 3, 1) := by decide +kernel
theorem gd_H_tellParent_23 : decode F_H_tellParent.2.1 23 = .ok (.aload_n 1, 1) := by decide +kernel
theorem gd_H_tellParent_24 : decode F_H_tellParent.2.1 24 = .ok (.getfield 236, 3) := by decide +kernel
theorem gd_H_tellParent_27 : decode F_H_tellParent.2.1 27 = .ok (.aload_n 3, 1) := by decide +kernel
theorem gd_H_tellParent_28 : decode F_H_tellParent.2.1 28 = .ok (.invokevirtual 230, 3) := by decide +kernel
theorem gd_H_tellParent_31 : decode F_H_tellParent.2.1 31 = .ok (.pop, 1) := by decide +kernel
theorem gd_H_tellParent_32 : decode F_H_tellParent.2.1 32 = .ok (.aload_n 0, 1) := by decide +kernel
theorem gd_H_tellParent_33 : decode F_H_tellParent.2.1 33 = .ok (.aload_n 1, 1) := by decide +kernel
theorem gd_H_tellParent_34 : decode F_H_tellParent.2.1 34 = .ok (.aload_n 1, 1) := by decide +kernel
theorem gd_H_tellParent_35 : decode F_H_tellParent.2.1 35 = .ok (.getfield 236, 3) := by decide +kernel
theorem gd_H_tellParent_38 : decode F_H_tellParent.2.1 38 = .ok (.invokevirtual 224, 3) := by decide +kernel
theorem gd_H_tellParent_41 : decode F_H_tellParent.2.1 41 = .ok (.aload_n 3, 1) := by decide +kernel
theorem gd_H_tellParent_42 : decode F_H_tellParent.2.1 42 = .ok (.invokevirtual 239, 3) := by decide +kernel
theorem gd_H_tellParent_45 : decode F_H_tellParent.2.1 45 = .ok (.return_, 1) := by decide +kernel
theorem gd_H_through_0 : decode F_H_through.2.1 0 = .ok (.iload_n 1, 1) := by decide +kernel
theorem gd_H_through_1 : decode F_H_through.2.1 1 = .ok (.invokestatic 48, 3) := by decide +kernel
theorem gd_H_through_4 : decode F_H_through.2.1 4 = .ok (.iload_n 2, 1) := by decide +kernel
theorem gd_H_through_5 : decode F_H_through.2.1 5 = .ok (.invokestatic 45, 3) := by decide +kernel
theorem gd_H_through_8 : decode F_H_through.2.1 8 = .ok (.aload_n 0, 1) := by decide +kernel
theorem gd_H_through_9 : decode F_H_through.2.1 9 = .ok (.getfield 17, 3) := by decide +kernel
theorem gd_H_through_12 : decode F_H_through.2.1 12 = .ok (.iload_n 1, 1) := by decide +kernel
theorem gd_H_through_13 : decode F_H_through.2.1 13 = .ok (.aaload, 1) := by decide +kernel
theorem gd_H_through_14 : decode F_H_through.2.1 14 = .ok (.getfield 179, 3) := by decide +kernel
theorem gd_H_through_17 : decode F_H_through.2.1 17 = .ok (.iload_n 2, 1) := by decide +kernel
theorem gd_H_through_18 : decode F_H_through.2.1 18 = .ok (.iaload, 1) := by decide +kernel
theorem gd_H_through_19 : decode F_H_through.2.1 19 = .ok (.ireturn, 1) := by decide +kernel
theorem gd_H_tryChild_0 : decode F_H_tryChild.2.1 0 = .ok (.iconst 0, 1) := by decide +kernel
theorem gd_H_tryChild_1 : decode F_H_tryChild.2.1 1 = .ok (.istore_n 3, 1) := by decide +kernel
theorem gd_H_tryChild_2 : decode F_H_tryChild.2.1 2 = .ok (.aload_n 2, 1) := by decide +kernel
theorem gd_H_tryChild_3 : decode F_H_tryChild.2.1 3 = .ok (.getfield 338, 3) := by decide +kernel
theorem gd_H_tryChild_6 : decode F_H_tryChild.2.1 6 = .ok (.invokevirtual 224, 3) := by decide +kernel
theorem gd_H_tryChild_9 : decode F_H_tryChild.2.1 9 = .ok (.istore 4, 2) := by decide +kernel
theorem gd_H_tryChild_11 : decode F_H_tryChild.2.1 11 = .ok (.iload 4, 2) := by decide +kernel
theorem gd_H_tryChild_13 : decode F_H_tryChild.2.1 13 = .ok (.ifCond .le 70, 3) := by decide +kernel
theorem gd_H_tryChild_16 : decode F_H_tryChild.2.1 16 = .ok (.aload_n 2, 1) := by decide +kernel
theorem gd_H_tryChild_17 : decode F_H_tryChild.2.1 17 = .ok (.getfield 338, 3) := by decide +kernel
theorem gd_H_tryChild_20 : decode F_H_tryChild.2.1 20 = .ok (.iconst 0, 1) := by decide +kernel
theorem gd_H_tryChild_21 : decode F_H_tryChild.2.1 21 = .ok (.invokevirtual 185, 3) := by decide +kernel
theorem gd_H_tryChild_24 : decode F_H_tryChild.2.1 24 = .ok (.checkcast 209, 3) := by decide +kernel
theorem gd_H_tryChild_27 : decode F_H_tryChild.2.1 27 = .ok (.astore 5, 2) := by decide +kernel
theorem gd_H_tryChild_29 : decode F_H_tryChild.2.1 29 = .ok (.aload_n 1, 1) := by decide +kernel
theorem gd_H_tryChild_30 : decode F_H_tryChild.2.1 30 = .ok (.aload 5, 2) := by decide +kernel
theorem gd_H_tryChild_32 : decode F_H_tryChild.2.1 32 = .ok (.getfield 213, 3) := by decide +kernel
theorem gd_H_tryChild_35 : decode F_H_tryChild.2.1 35 = .ok (.aload_n 2, 1) := by decide +kernel
theorem gd_H_tryChild_36 : decode F_H_tryChild.2.1 36 = .ok (.getfield 318, 3) := by decide +kernel
theorem gd_H_tryChild_39 : decode F_H_tryChild.2.1 39 = .ok (.invokevirtual 319, 3) := by decide +kernel
theorem gd_H_tryChild_42 : decode F_H_tryChild.2.1 42 = .ok (.ifCond .ne 5, 3) := by decide +kernel
theorem gd_H_tryChild_45 : decode F_H_tryChild.2.1 45 = .ok (.iload_n 3, 1) := by decide +kernel
theorem gd_H_tryChild_46 : decode F_H_tryChild.2.1 46 = .ok (.ireturn, 1) := by decide +kernel
theorem gd_H_tryChild_47 : decode F_H_tryChild.2.1 47 = .ok (.aload_n 2, 1) := by decide +kernel
theorem gd_H_tryChild_48 : decode F_H_tryChild.2.1 48 = .ok (.getfield 338, 3) := by decide +kernel
theorem gd_H_tryChild_51 : decode F_H_tryChild.2.1 51 = .ok (.iconst 0, 1) := by decide +kernel
theorem gd_H_tryChild_52 : decode F_H_tryChild.2.1 52 = .ok (.invokevirtual 191, 3) := by decide +kernel
theorem gd_H_tryChild_55 : decode F_H_tryChild.2.1 55 = .ok (.pop, 1) := by decide +kernel
theorem gd_H_tryChild_56 : decode F_H_tryChild.2.1 56 = .ok (.aload_n 0, 1) := by decide +kernel
theorem gd_H_tryChild_57 : decode F_H_tryChild.2.1 57 = .ok (.aload_n 1, 1) := by decide +kernel
theorem gd_H_tryChild_58 : decode F_H_tryChild.2.1 58 = .ok (.aload 5, 2) := by decide +kernel
theorem gd_H_tryChild_60 : decode F_H_tryChild.2.1 60 = .ok (.getfield 213, 3) := by decide +kernel
theorem gd_H_tryChild_63 : decode F_H_tryChild.2.1 63 = .ok (.aload 5, 2) := by decide +kernel
theorem gd_H_tryChild_65 : decode F_H_tryChild.2.1 65 = .ok (.getfield 208, 3) := by decide +kernel
theorem gd_H_tryChild_68 : decode F_H_tryChild.2.1 68 = .ok (.aload_n 2, 1) := by decide +kernel
theorem gd_H_tryChild_69 : decode F_H_tryChild.2.1 69 = .ok (.getfield 318, 3) := by decide +kernel
theorem gd_H_tryChild_72 : decode F_H_tryChild.2.1 72 = .ok (.invokevirtual 170, 3) := by decide +kernel
theorem gd_H_tryChild_75 : decode F_H_tryChild.2.1 75 = .ok (.iconst 1, 1) := by decide +kernel
theorem gd_H_tryChild_76 : decode F_H_tryChild.2.1 76 = .ok (.istore_n 3, 1) := by decide +kernel
theorem gd_H_tryChild_77 : decode F_H_tryChild.2.1 77 = .ok (.iinc 4 (-1), 3) := by decide +kernel
theorem gd_H_tryChild_80 : decode F_H_tryChild.2.1 80 = .ok (.goto (-69), 3) := by decide +kernel
theorem gd_H_tryChild_83 : decode F_H_tryChild.2.1 83 = .ok (.iload_n 3, 1) := by decide +kernel
theorem gd_H_tryChild_84 : decode F_H_tryChild.2.1 84 = .ok (.ireturn, 1) := by decide +kernel
theorem gd_H_tryOwn_0 : decode F_H_tryOwn.2.1 0 = .ok (.iconst 0, 1) := by decide +kernel
theorem gd_H_tryOwn_1 : decode F_H_tryOwn.2.1 1 = .ok (.istore_n 2, 1) := by decide +kernel
theorem gd_H_tryOwn_2 : decode F_H_tryOwn.2.1 2 = .ok (.iconst 0, 1) := by decide +kernel
theorem gd_H_tryOwn_3 : decode F_H_tryOwn.2.1 3 = .ok (.istore_n 3, 1) := by decide +kernel
theorem gd_H_tryOwn_4 : decode F_H_tryOwn.2.1 4 = .ok (.iload_n 3, 1) := by decide +kernel
theorem gd_H_tryOwn_5 : decode F_H_tryOwn.2.1 5 = .ok (.bipush 40, 2) := by decide +kernel
theorem gd_H_tryOwn_7 : decode F_H_tryOwn.2.1 7 = .ok (.if_icmp .ge 67, 3) := by decide +kernel
theorem gd_H_tryOwn_10 : decode F_H_tryOwn.2.1 10 = .ok (.aload_n 0, 1) := by decide +kernel
theorem gd_H_tryOwn_11 : decode F_H_tryOwn.2.1 11 = .ok (.getfield 11, 3) := by decide +kernel
theorem gd_H_tryOwn_14 : decode F_H_tryOwn.2.1 14 = .ok (.iload_n 3, 1) := by decide +kernel
theorem gd_H_tryOwn_15 : decode F_H_tryOwn.2.1 15 = .ok (.aaload, 1) := by decide +kernel
theorem gd_H_tryOwn_16 : decode F_H_tryOwn.2.1 16 = .ok (.astore 4, 2) := by decide +kernel
theorem gd_H_tryOwn_18 : decode F_H_tryOwn.2.1 18 = .ok (.aload 4, 2) := by decide +kernel
theorem gd_H_tryOwn_20 : decode F_H_tryOwn.2.1 20 = .ok (.ifnull 48, 3) := by decide +kernel
theorem gd_H_tryOwn_23 : decode F_H_tryOwn.2.1 23 = .ok (.aload_n 1, 1) := by decide +kernel
theorem gd_H_tryOwn_24 : decode F_H_tryOwn.2.1 24 = .ok (.getfield 322, 3) := by decide +kernel
theorem gd_H_tryOwn_27 : decode F_H_tryOwn.2.1 27 = .ok (.iload_n 3, 1) := by decide +kernel
theorem gd_H_tryOwn_28 : decode F_H_tryOwn.2.1 28 = .ok (.baload, 1) := by decide +kernel
theorem gd_H_tryOwn_29 : decode F_H_tryOwn.2.1 29 = .ok (.ifCond .eq 39, 3) := by decide +kernel
theorem gd_H_tryOwn_32 : decode F_H_tryOwn.2.1 32 = .ok (.aload_n 1, 1) := by decide +kernel
theorem gd_H_tryOwn_33 : decode F_H_tryOwn.2.1 33 = .ok (.iload_n 3, 1) := by decide +kernel
theorem gd_H_tryOwn_34 : decode F_H_tryOwn.2.1 34 = .ok (.aload_n 1, 1) := by decide +kernel
theorem gd_H_tryOwn_35 : decode F_H_tryOwn.2.1 35 = .ok (.getfield 318, 3) := by decide +kernel
theorem gd_H_tryOwn_38 : decode F_H_tryOwn.2.1 38 = .ok (.invokevirtual 319, 3) := by decide +kernel
theorem gd_H_tryOwn_41 : decode F_H_tryOwn.2.1 41 = .ok (.ifCond .eq 27, 3) := by decide +kernel
theorem gd_H_tryOwn_44 : decode F_H_tryOwn.2.1 44 = .ok (.aload_n 1, 1) := by decide +kernel
theorem gd_H_tryOwn_45 : decode F_H_tryOwn.2.1 45 = .ok (.getfield 322, 3) := by decide +kernel
theorem gd_H_tryOwn_48 : decode F_H_tryOwn.2.1 48 = .ok (.iload_n 3, 1) := by decide +kernel
theorem gd_H_tryOwn_49 : decode F_H_tryOwn.2.1 49 = .ok (.iconst 0, 1) := by decide +kernel
theorem gd_H_tryOwn_50 : decode F_H_tryOwn.2.1 50 = .ok (.bastore, 1) := by decide +kernel
theorem gd_H_tryOwn_51 : decode F_H_tryOwn.2.1 51 = .ok (.aload_n 0, 1) := by decide +kernel
theorem gd_H_tryOwn_52 : decode F_H_tryOwn.2.1 52 = .ok (.aload_n 1, 1) := by decide +kernel
theorem gd_H_tryOwn_53 : decode F_H_tryOwn.2.1 53 = .ok (.iload_n 3, 1) := by decide +kernel
theorem gd_H_tryOwn_54 : decode F_H_tryOwn.2.1 54 = .ok (.aload 4, 2) := by decide +kernel
theorem gd_H_tryOwn_56 : decode F_H_tryOwn.2.1 56 = .ok (.getfield 103, 3) := by decide +kernel
theorem gd_H_tryOwn_59 : decode F_H_tryOwn.2.1 59 = .ok (.aload_n 1, 1) := by decide +kernel
theorem gd_H_tryOwn_60 : decode F_H_tryOwn.2.1 60 = .ok (.getfield 318, 3) := by decide +kernel
theorem gd_H_tryOwn_63 : decode F_H_tryOwn.2.1 63 = .ok (.invokevirtual 170, 3) := by decide +kernel
theorem gd_H_tryOwn_66 : decode F_H_tryOwn.2.1 66 = .ok (.iconst 1, 1) := by decide +kernel
theorem gd_H_tryOwn_67 : decode F_H_tryOwn.2.1 67 = .ok (.istore_n 2, 1) := by decide +kernel
theorem gd_H_tryOwn_68 : decode F_H_tryOwn.2.1 68 = .ok (.iinc 3 1, 3) := by decide +kernel
theorem gd_H_tryOwn_71 : decode F_H_tryOwn.2.1 71 = .ok (.goto (-67), 3) := by decide +kernel
theorem gd_H_tryOwn_74 : decode F_H_tryOwn.2.1 74 = .ok (.iload_n 2, 1) := by decide +kernel
theorem gd_H_tryOwn_75 : decode F_H_tryOwn.2.1 75 = .ok (.ireturn, 1) := by decide +kernel
theorem gd_H_tryWaiting_0 : decode F_H_tryWaiting.2.1 0 = .ok (.iconst 1, 1) := by decide +kernel
theorem gd_H_tryWaiting_1 : decode F_H_tryWaiting.2.1 1 = .ok (.istore_n 2, 1) := by decide +kernel
theorem gd_H_tryWaiting_2 : decode F_H_tryWaiting.2.1 2 = .ok (.aload_n 0, 1) := by decide +kernel
theorem gd_H_tryWaiting_3 : decode F_H_tryWaiting.2.1 3 = .ok (.aload_n 1, 1) := by decide +kernel
theorem gd_H_tryWaiting_4 : decode F_H_tryWaiting.2.1 4 = .ok (.invokevirtual 264, 3) := by decide +kernel
theorem gd_H_tryWaiting_7 : decode F_H_tryWaiting.2.1 7 = .ok (.istore_n 3, 1) := by decide +kernel
theorem gd_H_tryWaiting_8 : decode F_H_tryWaiting.2.1 8 = .ok (.iload_n 2, 1) := by decide +kernel
theorem gd_H_tryWaiting_9 : decode F_H_tryWaiting.2.1 9 = .ok (.ifCond .eq 69, 3) := by decide +kernel
theorem gd_H_tryWaiting_12 : decode F_H_tryWaiting.2.1 12 = .ok (.iload_n 3, 1) := by decide +kernel
theorem gd_H_tryWaiting_13 : decode F_H_tryWaiting.2.1 13 = .ok (.ifCond .le 65, 3) := by decide +kernel
theorem gd_H_tryWaiting_16 : decode F_H_tryWaiting.2.1 16 = .ok (.aload_n 0, 1) := by decide +kernel
theorem gd_H_tryWaiting_17 : decode F_H_tryWaiting.2.1 17 = .ok (.aload_n 1, 1) := by decide +kernel
theorem gd_H_tryWaiting_18 : decode F_H_tryWaiting.2.1 18 = .ok (.invokevirtual 341, 3) := by decide +kernel
theorem gd_H_tryWaiting_21 : decode F_H_tryWaiting.2.1 21 = .ok (.istore_n 2, 1) := by decide +kernel
theorem gd_H_tryWaiting_22 : decode F_H_tryWaiting.2.1 22 = .ok (.iconst 0, 1) := by decide +kernel
theorem gd_H_tryWaiting_23 : decode F_H_tryWaiting.2.1 23 = .ok (.istore 4, 2) := by decide +kernel
theorem gd_H_tryWaiting_25 : decode F_H_tryWaiting.2.1 25 = .ok (.iload 4, 2) := by decide +kernel
theorem gd_H_tryWaiting_27 : decode F_H_tryWaiting.2.1 27 = .ok (.bipush 12, 2) := by decide +kernel
theorem gd_H_tryWaiting_29 : decode F_H_tryWaiting.2.1 29 = .ok (.if_icmp .ge 43, 3) := by decide +kernel
theorem gd_H_tryWaiting_32 : decode F_H_tryWaiting.2.1 32 = .ok (.aload_n 0, 1) := by decide +kernel
theorem gd_H_tryWaiting_33 : decode F_H_tryWaiting.2.1 33 = .ok (.getfield 17, 3) := by decide +kernel
theorem gd_H_tryWaiting_36 : decode F_H_tryWaiting.2.1 36 = .ok (.iload 4, 2) := by decide +kernel
theorem gd_H_tryWaiting_38 : decode F_H_tryWaiting.2.1 38 = .ok (.aaload, 1) := by decide +kernel
theorem gd_H_tryWaiting_39 : decode F_H_tryWaiting.2.1 39 = .ok (.getfield 138, 3) := by decide +kernel
theorem gd_H_tryWaiting_42 : decode F_H_tryWaiting.2.1 42 = .ok (.aload_n 1, 1) := by decide +kernel
theorem gd_H_tryWaiting_43 : decode F_H_tryWaiting.2.1 43 = .ok (.getfield 318, 3) := by decide +kernel
theorem gd_H_tryWaiting_46 : decode F_H_tryWaiting.2.1 46 = .ok (.if_icmp .ne 20, 3) := by decide +kernel
theorem gd_H_tryWaiting_49 : decode F_H_tryWaiting.2.1 49 = .ok (.aload_n 0, 1) := by decide +kernel
theorem gd_H_tryWaiting_50 : decode F_H_tryWaiting.2.1 50 = .ok (.aload_n 1, 1) := by decide +kernel
theorem gd_H_tryWaiting_51 : decode F_H_tryWaiting.2.1 51 = .ok (.aload_n 0, 1) := by decide +kernel
theorem gd_H_tryWaiting_52 : decode F_H_tryWaiting.2.1 52 = .ok (.getfield 17, 3) := by decide +kernel
theorem gd_H_tryWaiting_55 : decode F_H_tryWaiting.2.1 55 = .ok (.iload 4, 2) := by decide +kernel
theorem gd_H_tryWaiting_57 : decode F_H_tryWaiting.2.1 57 = .ok (.aaload, 1) := by decide +kernel
theorem gd_H_tryWaiting_58 : decode F_H_tryWaiting.2.1 58 = .ok (.invokevirtual 344, 3) := by decide +kernel
theorem gd_H_tryWaiting_61 : decode F_H_tryWaiting.2.1 61 = .ok (.ifCond .eq 5, 3) := by decide +kernel
theorem gd_H_tryWaiting_64 : decode F_H_tryWaiting.2.1 64 = .ok (.iconst 1, 1) := by decide +kernel
theorem gd_H_tryWaiting_65 : decode F_H_tryWaiting.2.1 65 = .ok (.istore_n 2, 1) := by decide +kernel
theorem gd_H_tryWaiting_66 : decode F_H_tryWaiting.2.1 66 = .ok (.iinc 4 1, 3) := by decide +kernel
theorem gd_H_tryWaiting_69 : decode F_H_tryWaiting.2.1 69 = .ok (.goto (-44), 3) := by decide +kernel
theorem gd_H_tryWaiting_72 : decode F_H_tryWaiting.2.1 72 = .ok (.iinc 3 (-1), 3) := by decide +kernel
theorem gd_H_tryWaiting_75 : decode F_H_tryWaiting.2.1 75 = .ok (.goto (-67), 3) := by decide +kernel
theorem gd_H_tryWaiting_78 : decode F_H_tryWaiting.2.1 78 = .ok (.return_, 1) := by decide +kernel
theorem gd_H_twin_0 : decode F_H_twin.2.1 0 = .ok (.aload_n 0, 1) := by decide +kernel
theorem gd_H_twin_1 : decode F_H_twin.2.1 1 = .ok (.iload_n 1, 1) := by decide +kernel
theorem gd_H_twin_2 : decode F_H_twin.2.1 2 = .ok (.invokevirtual 182, 3) := by decide +kernel
theorem gd_H_twin_5 : decode F_H_twin.2.1 5 = .ok (.aload_n 0, 1) := by decide +kernel
theorem gd_H_twin_6 : decode F_H_twin.2.1 6 = .ok (.getfield 24, 3) := by decide +kernel
theorem gd_H_twin_9 : decode F_H_twin.2.1 9 = .ok (.invokevirtual 224, 3) := by decide +kernel
theorem gd_H_twin_12 : decode F_H_twin.2.1 12 = .ok (.sipush 500, 3) := by decide +kernel
theorem gd_H_twin_15 : decode F_H_twin.2.1 15 = .ok (.if_icmp .lt 13, 3) := by decide +kernel
theorem gd_H_twin_18 : decode F_H_twin.2.1 18 = .ok (.new 54, 3) := by decide +kernel
theorem gd_H_twin_21 : decode F_H_twin.2.1 21 = .ok (.dup, 1) := by decide +kernel
theorem gd_H_twin_22 : decode F_H_twin.2.1 22 = .ok (.ldc 228, 2) := by decide +kernel
theorem gd_H_twin_24 : decode F_H_twin.2.1 24 = .ok (.invokespecial 58, 3) := by decide +kernel
theorem gd_H_twin_27 : decode F_H_twin.2.1 27 = .ok (.athrow, 1) := by decide +kernel
theorem gd_H_twin_28 : decode F_H_twin.2.1 28 = .ok (.aload_n 0, 1) := by decide +kernel
theorem gd_H_twin_29 : decode F_H_twin.2.1 29 = .ok (.getfield 24, 3) := by decide +kernel
theorem gd_H_twin_32 : decode F_H_twin.2.1 32 = .ok (.aload_n 0, 1) := by decide +kernel
theorem gd_H_twin_33 : decode F_H_twin.2.1 33 = .ok (.getfield 24, 3) := by decide +kernel
theorem gd_H_twin_36 : decode F_H_twin.2.1 36 = .ok (.iload_n 1, 1) := by decide +kernel
theorem gd_H_twin_37 : decode F_H_twin.2.1 37 = .ok (.invokevirtual 185, 3) := by decide +kernel
theorem gd_H_twin_40 : decode F_H_twin.2.1 40 = .ok (.checkcast 189, 3) := by decide +kernel
theorem gd_H_twin_43 : decode F_H_twin.2.1 43 = .ok (.invokevirtual 230, 3) := by decide +kernel
theorem gd_H_twin_46 : decode F_H_twin.2.1 46 = .ok (.pop, 1) := by decide +kernel
theorem gd_H_twin_47 : decode F_H_twin.2.1 47 = .ok (.aload_n 0, 1) := by decide +kernel
theorem gd_H_twin_48 : decode F_H_twin.2.1 48 = .ok (.getfield 24, 3) := by decide +kernel
theorem gd_H_twin_51 : decode F_H_twin.2.1 51 = .ok (.invokevirtual 224, 3) := by decide +kernel
theorem gd_H_twin_54 : decode F_H_twin.2.1 54 = .ok (.ireturn, 1) := by decide +kernel
theorem gd_H_version_0 : decode F_H_version.2.1 0 = .ok (.aload_n 0, 1) := by decide +kernel
theorem gd_H_version_1 : decode F_H_version.2.1 1 = .ok (.iload_n 1, 1) := by decide +kernel
theorem gd_H_version_2 : decode F_H_version.2.1 2 = .ok (.invokevirtual 67, 3) := by decide +kernel
theorem gd_H_version_5 : decode F_H_version.2.1 5 = .ok (.astore 5, 2) := by decide +kernel
theorem gd_H_version_7 : decode F_H_version.2.1 7 = .ok (.iload_n 2, 1) := by decide +kernel
theorem gd_H_version_8 : decode F_H_version.2.1 8 = .ok (.aload 5, 2) := by decide +kernel
theorem gd_H_version_10 : decode F_H_version.2.1 10 = .ok (.invokestatic 71, 3) := by decide +kernel
theorem gd_H_version_13 : decode F_H_version.2.1 13 = .ok (.if_icmp .gt 13, 3) := by decide +kernel
theorem gd_H_version_16 : decode F_H_version.2.1 16 = .ok (.new 75, 3) := by decide +kernel
theorem gd_H_version_19 : decode F_H_version.2.1 19 = .ok (.dup, 1) := by decide +kernel
theorem gd_H_version_20 : decode F_H_version.2.1 20 = .ok (.ldc 77, 2) := by decide +kernel
theorem gd_H_version_22 : decode F_H_version.2.1 22 = .ok (.invokespecial 79, 3) := by decide +kernel
theorem gd_H_version_25 : decode F_H_version.2.1 25 = .ok (.athrow, 1) := by decide +kernel
theorem gd_H_version_26 : decode F_H_version.2.1 26 = .ok (.iload_n 3, 1) := by decide +kernel
theorem gd_H_version_27 : decode F_H_version.2.1 27 = .ok (.invokestatic 51, 3) := by decide +kernel
theorem gd_H_version_30 : decode F_H_version.2.1 30 = .ok (.iload 4, 2) := by decide +kernel
theorem gd_H_version_32 : decode F_H_version.2.1 32 = .ok (.invokestatic 51, 3) := by decide +kernel
theorem gd_H_version_35 : decode F_H_version.2.1 35 = .ok (.aload_n 0, 1) := by decide +kernel
theorem gd_H_version_36 : decode F_H_version.2.1 36 = .ok (.getfield 80, 3) := by decide +kernel
theorem gd_H_version_39 : decode F_H_version.2.1 39 = .ok (.sipush 300, 3) := by decide +kernel
theorem gd_H_version_42 : decode F_H_version.2.1 42 = .ok (.if_icmp .lt 13, 3) := by decide +kernel
theorem gd_H_version_45 : decode F_H_version.2.1 45 = .ok (.new 84, 3) := by decide +kernel
theorem gd_H_version_48 : decode F_H_version.2.1 48 = .ok (.dup, 1) := by decide +kernel
theorem gd_H_version_49 : decode F_H_version.2.1 49 = .ok (.ldc 86, 2) := by decide +kernel
theorem gd_H_version_51 : decode F_H_version.2.1 51 = .ok (.invokespecial 88, 3) := by decide +kernel
theorem gd_H_version_54 : decode F_H_version.2.1 54 = .ok (.athrow, 1) := by decide +kernel
theorem gd_H_version_55 : decode F_H_version.2.1 55 = .ok (.aload_n 0, 1) := by decide +kernel
theorem gd_H_version_56 : decode F_H_version.2.1 56 = .ok (.aload 5, 2) := by decide +kernel
theorem gd_H_version_58 : decode F_H_version.2.1 58 = .ok (.iload_n 3, 1) := by decide +kernel
theorem gd_H_version_59 : decode F_H_version.2.1 59 = .ok (.iload 4, 2) := by decide +kernel
theorem gd_H_version_61 : decode F_H_version.2.1 61 = .ok (.invokevirtual 89, 3) := by decide +kernel
theorem gd_H_version_64 : decode F_H_version.2.1 64 = .ok (.istore 6, 2) := by decide +kernel
theorem gd_H_version_66 : decode F_H_version.2.1 66 = .ok (.aload 5, 2) := by decide +kernel
theorem gd_H_version_68 : decode F_H_version.2.1 68 = .ok (.new 93, 3) := by decide +kernel
theorem gd_H_version_71 : decode F_H_version.2.1 71 = .ok (.dup, 1) := by decide +kernel
theorem gd_H_version_72 : decode F_H_version.2.1 72 = .ok (.iload_n 2, 1) := by decide +kernel
theorem gd_H_version_73 : decode F_H_version.2.1 73 = .ok (.aload_n 0, 1) := by decide +kernel
theorem gd_H_version_74 : decode F_H_version.2.1 74 = .ok (.getfield 28, 3) := by decide +kernel
theorem gd_H_version_77 : decode F_H_version.2.1 77 = .ok (.invokevirtual 95, 3) := by decide +kernel
theorem gd_H_version_80 : decode F_H_version.2.1 80 = .ok (.checkcast 96, 3) := by decide +kernel
theorem gd_H_version_83 : decode F_H_version.2.1 83 = .ok (.iload 6, 2) := by decide +kernel
theorem gd_H_version_85 : decode F_H_version.2.1 85 = .ok (.invokespecial 100, 3) := by decide +kernel
theorem gd_H_version_88 : decode F_H_version.2.1 88 = .ok (.putfield 103, 3) := by decide +kernel
theorem gd_H_version_91 : decode F_H_version.2.1 91 = .ok (.aload_n 0, 1) := by decide +kernel
theorem gd_H_version_92 : decode F_H_version.2.1 92 = .ok (.dup, 1) := by decide +kernel
theorem gd_H_version_93 : decode F_H_version.2.1 93 = .ok (.getfield 80, 3) := by decide +kernel
theorem gd_H_version_96 : decode F_H_version.2.1 96 = .ok (.iconst 1, 1) := by decide +kernel
theorem gd_H_version_97 : decode F_H_version.2.1 97 = .ok (.iadd, 1) := by decide +kernel
theorem gd_H_version_98 : decode F_H_version.2.1 98 = .ok (.putfield 80, 3) := by decide +kernel
theorem gd_H_version_101 : decode F_H_version.2.1 101 = .ok (.aload_n 0, 1) := by decide +kernel
theorem gd_H_version_102 : decode F_H_version.2.1 102 = .ok (.getfield 28, 3) := by decide +kernel
theorem gd_H_version_105 : decode F_H_version.2.1 105 = .ok (.iconst 0, 1) := by decide +kernel
theorem gd_H_version_106 : decode F_H_version.2.1 106 = .ok (.invokestatic 107, 3) := by decide +kernel
theorem gd_H_version_109 : decode F_H_version.2.1 109 = .ok (.aload_n 0, 1) := by decide +kernel
theorem gd_H_version_110 : decode F_H_version.2.1 110 = .ok (.iload_n 1, 1) := by decide +kernel
theorem gd_H_version_111 : decode F_H_version.2.1 111 = .ok (.aload 5, 2) := by decide +kernel
theorem gd_H_version_113 : decode F_H_version.2.1 113 = .ok (.invokevirtual 113, 3) := by decide +kernel
theorem gd_H_version_116 : decode F_H_version.2.1 116 = .ok (.iload 6, 2) := by decide +kernel
theorem gd_H_version_118 : decode F_H_version.2.1 118 = .ok (.ireturn, 1) := by decide +kernel
theorem gd_H_votes_0 : decode F_H_votes.2.1 0 = .ok (.iload_n 1, 1) := by decide +kernel
theorem gd_H_votes_1 : decode F_H_votes.2.1 1 = .ok (.invokestatic 64, 3) := by decide +kernel
theorem gd_H_votes_4 : decode F_H_votes.2.1 4 = .ok (.iload_n 2, 1) := by decide +kernel
theorem gd_H_votes_5 : decode F_H_votes.2.1 5 = .ok (.invokestatic 51, 3) := by decide +kernel
theorem gd_H_votes_8 : decode F_H_votes.2.1 8 = .ok (.aload_n 0, 1) := by decide +kernel
theorem gd_H_votes_9 : decode F_H_votes.2.1 9 = .ok (.getfield 28, 3) := by decide +kernel
theorem gd_H_votes_12 : decode F_H_votes.2.1 12 = .ok (.iload_n 1, 1) := by decide +kernel
theorem gd_H_votes_13 : decode F_H_votes.2.1 13 = .ok (.iaload, 1) := by decide +kernel
theorem gd_H_votes_14 : decode F_H_votes.2.1 14 = .ok (.istore_n 3, 1) := by decide +kernel
theorem gd_H_votes_15 : decode F_H_votes.2.1 15 = .ok (.aload_n 0, 1) := by decide +kernel
theorem gd_H_votes_16 : decode F_H_votes.2.1 16 = .ok (.getfield 28, 3) := by decide +kernel
theorem gd_H_votes_19 : decode F_H_votes.2.1 19 = .ok (.iload_n 1, 1) := by decide +kernel
theorem gd_H_votes_20 : decode F_H_votes.2.1 20 = .ok (.iload_n 2, 1) := by decide +kernel
theorem gd_H_votes_21 : decode F_H_votes.2.1 21 = .ok (.iastore, 1) := by decide +kernel
theorem gd_H_votes_22 : decode F_H_votes.2.1 22 = .ok (.iload_n 3, 1) := by decide +kernel
theorem gd_H_votes_23 : decode F_H_votes.2.1 23 = .ok (.ireturn, 1) := by decide +kernel
theorem gd_H_waitingCount_0 : decode F_H_waitingCount.2.1 0 = .ok (.aload_n 1, 1) := by decide +kernel
theorem gd_H_waitingCount_1 : decode F_H_waitingCount.2.1 1 = .ok (.invokevirtual 348, 3) := by decide +kernel
theorem gd_H_waitingCount_4 : decode F_H_waitingCount.2.1 4 = .ok (.istore_n 2, 1) := by decide +kernel
theorem gd_H_waitingCount_5 : decode F_H_waitingCount.2.1 5 = .ok (.iconst 0, 1) := by decide +kernel
theorem gd_H_waitingCount_6 : decode F_H_waitingCount.2.1 6 = .ok (.istore_n 3, 1) := by decide +kernel
theorem gd_H_waitingCount_7 : decode F_H_waitingCount.2.1 7 = .ok (.iload_n 3, 1) := by decide +kernel
theorem gd_H_waitingCount_8 : decode F_H_waitingCount.2.1 8 = .ok (.bipush 12, 2) := by decide +kernel
theorem gd_H_waitingCount_10 : decode F_H_waitingCount.2.1 10 = .ok (.if_icmp .ge 40, 3) := by decide +kernel
theorem gd_H_waitingCount_13 : decode F_H_waitingCount.2.1 13 = .ok (.aload_n 0, 1) := by decide +kernel
theorem gd_H_waitingCount_14 : decode F_H_waitingCount.2.1 14 = .ok (.getfield 17, 3) := by decide +kernel
theorem gd_H_waitingCount_17 : decode F_H_waitingCount.2.1 17 = .ok (.iload_n 3, 1) := by decide +kernel
theorem gd_H_waitingCount_18 : decode F_H_waitingCount.2.1 18 = .ok (.aaload, 1) := by decide +kernel
theorem gd_H_waitingCount_19 : decode F_H_waitingCount.2.1 19 = .ok (.getfield 138, 3) := by decide +kernel
theorem gd_H_waitingCount_22 : decode F_H_waitingCount.2.1 22 = .ok (.aload_n 1, 1) := by decide +kernel
theorem gd_H_waitingCount_23 : decode F_H_waitingCount.2.1 23 = .ok (.getfield 318, 3) := by decide +kernel
theorem gd_H_waitingCount_26 : decode F_H_waitingCount.2.1 26 = .ok (.if_icmp .ne 18, 3) := by decide +kernel
theorem gd_H_waitingCount_29 : decode F_H_waitingCount.2.1 29 = .ok (.iload_n 2, 1) := by decide +kernel
theorem gd_H_waitingCount_30 : decode F_H_waitingCount.2.1 30 = .ok (.aload_n 0, 1) := by decide +kernel
theorem gd_H_waitingCount_31 : decode F_H_waitingCount.2.1 31 = .ok (.getfield 17, 3) := by decide +kernel
theorem gd_H_waitingCount_34 : decode F_H_waitingCount.2.1 34 = .ok (.iload_n 3, 1) := by decide +kernel
theorem gd_H_waitingCount_35 : decode F_H_waitingCount.2.1 35 = .ok (.aaload, 1) := by decide +kernel
theorem gd_H_waitingCount_36 : decode F_H_waitingCount.2.1 36 = .ok (.getfield 338, 3) := by decide +kernel
theorem gd_H_waitingCount_39 : decode F_H_waitingCount.2.1 39 = .ok (.invokevirtual 224, 3) := by decide +kernel
theorem gd_H_waitingCount_42 : decode F_H_waitingCount.2.1 42 = .ok (.iadd, 1) := by decide +kernel
theorem gd_H_waitingCount_43 : decode F_H_waitingCount.2.1 43 = .ok (.istore_n 2, 1) := by decide +kernel
theorem gd_H_waitingCount_44 : decode F_H_waitingCount.2.1 44 = .ok (.iinc 3 1, 3) := by decide +kernel
theorem gd_H_waitingCount_47 : decode F_H_waitingCount.2.1 47 = .ok (.goto (-40), 3) := by decide +kernel
theorem gd_H_waitingCount_50 : decode F_H_waitingCount.2.1 50 = .ok (.iload_n 2, 1) := by decide +kernel
theorem gd_H_waitingCount_51 : decode F_H_waitingCount.2.1 51 = .ok (.ireturn, 1) := by decide +kernel
theorem gd_JAbstractCollection_init_0 : decode F_JAbstractCollection_init.2.1 0 = .ok (.aload_n 0, 1) := by decide +kernel
theorem gd_JAbstractCollection_init_1 : decode F_JAbstractCollection_init.2.1 1 = .ok (.invokespecial 1, 3) := by decide +kernel
theorem gd_JAbstractCollection_init_4 : decode F_JAbstractCollection_init.2.1 4 = .ok (.return_, 1) := by decide +kernel
theorem gd_JAbstractList_init_0 : decode F_JAbstractList_init.2.1 0 = .ok (.aload_n 0, 1) := by decide +kernel
theorem gd_JAbstractList_init_1 : decode F_JAbstractList_init.2.1 1 = .ok (.invokespecial 1, 3) := by decide +kernel
theorem gd_JAbstractList_init_4 : decode F_JAbstractList_init.2.1 4 = .ok (.aload_n 0, 1) := by decide +kernel
theorem gd_JAbstractList_init_5 : decode F_JAbstractList_init.2.1 5 = .ok (.iconst 0, 1) := by decide +kernel
theorem gd_JAbstractList_init_6 : decode F_JAbstractList_init.2.1 6 = .ok (.putfield 7, 3) := by decide +kernel
theorem gd_JAbstractList_init_9 : decode F_JAbstractList_init.2.1 9 = .ok (.return_, 1) := by decide +kernel
theorem gd_JArrayList_add_0 : decode F_JArrayList_add.2.1 0 = .ok (.aload_n 0, 1) := by decide +kernel
theorem gd_JArrayList_add_1 : decode F_JArrayList_add.2.1 1 = .ok (.dup, 1) := by decide +kernel
theorem gd_JArrayList_add_2 : decode F_JArrayList_add.2.1 2 = .ok (.getfield 63, 3) := by decide +kernel
theorem gd_JArrayList_add_5 : decode F_JArrayList_add.2.1 5 = .ok (.iconst 1, 1) := by decide +kernel
theorem gd_JArrayList_add_6 : decode F_JArrayList_add.2.1 6 = .ok (.iadd, 1) := by decide +kernel
theorem gd_JArrayList_add_7 : decode F_JArrayList_add.2.1 7 = .ok (.putfield 63, 3) := by decide +kernel
theorem gd_JArrayList_add_10 : decode F_JArrayList_add.2.1 10 = .ok (.aload_n 0, 1) := by decide +kernel
theorem gd_JArrayList_add_11 : decode F_JArrayList_add.2.1 11 = .ok (.aload_n 1, 1) := by decide +kernel
theorem gd_JArrayList_add_12 : decode F_JArrayList_add.2.1 12 = .ok (.aload_n 0, 1) := by decide +kernel
theorem gd_JArrayList_add_13 : decode F_JArrayList_add.2.1 13 = .ok (.getfield 9, 3) := by decide +kernel
theorem gd_JArrayList_add_16 : decode F_JArrayList_add.2.1 16 = .ok (.aload_n 0, 1) := by decide +kernel
theorem gd_JArrayList_add_17 : decode F_JArrayList_add.2.1 17 = .ok (.getfield 48, 3) := by decide +kernel
theorem gd_JArrayList_add_20 : decode F_JArrayList_add.2.1 20 = .ok (.invokevirtual 131, 3) := by decide +kernel
theorem gd_JArrayList_add_23 : decode F_JArrayList_add.2.1 23 = .ok (.iconst 1, 1) := by decide +kernel
theorem gd_JArrayList_add_24 : decode F_JArrayList_add.2.1 24 = .ok (.ireturn, 1) := by decide +kernel
theorem gd_JArrayList_add3_0 : decode F_JArrayList_add3.2.1 0 = .ok (.iload_n 3, 1) := by decide +kernel
theorem gd_JArrayList_add3_1 : decode F_JArrayList_add3.2.1 1 = .ok (.aload_n 2, 1) := by decide +kernel
theorem gd_JArrayList_add3_2 : decode F_JArrayList_add3.2.1 2 = .ok (.arraylength, 1) := by decide +kernel
theorem gd_JArrayList_add3_3 : decode F_JArrayList_add3.2.1 3 = .ok (.if_icmp .ne 8, 3) := by decide +kernel
theorem gd_JArrayList_add3_6 : decode F_JArrayList_add3.2.1 6 = .ok (.aload_n 0, 1) := by decide +kernel
theorem gd_JArrayList_add3_7 : decode F_JArrayList_add3.2.1 7 = .ok (.invokevirtual 129, 3) := by decide +kernel
theorem gd_JArrayList_add3_10 : decode F_JArrayList_add3.2.1 10 = .ok (.astore_n 2, 1) := by decide +kernel
theorem gd_JArrayList_add3_11 : decode F_JArrayList_add3.2.1 11 = .ok (.aload_n 2, 1) := by decide +kernel
theorem gd_JArrayList_add3_12 : decode F_JArrayList_add3.2.1 12 = .ok (.iload_n 3, 1) := by decide +kernel
theorem gd_JArrayList_add3_13 : decode F_JArrayList_add3.2.1 13 = .ok (.aload_n 1, 1) := by decide +kernel
theorem gd_JArrayList_add3_14 : decode F_JArrayList_add3.2.1 14 = .ok (.aastore, 1) := by decide +kernel
theorem gd_JArrayList_add3_15 : decode F_JArrayList_add3.2.1 15 = .ok (.aload_n 0, 1) := by decide +kernel
theorem gd_JArrayList_add3_16 : decode F_JArrayList_add3.2.1 16 = .ok (.iload_n 3, 1) := by decide +kernel
theorem gd_JArrayList_add3_17 : decode F_JArrayList_add3.2.1 17 = .ok (.iconst 1, 1) := by decide +kernel
theorem gd_JArrayList_add3_18 : decode F_JArrayList_add3.2.1 18 = .ok (.iadd, 1) := by decide +kernel
theorem gd_JArrayList_add3_19 : decode F_JArrayList_add3.2.1 19 = .ok (.putfield 48, 3) := by decide +kernel
theorem gd_JArrayList_add3_22 : decode F_JArrayList_add3.2.1 22 = .ok (.return_, 1) := by decide +kernel
theorem gd_JArrayList_clear_0 : decode F_JArrayList_clear.2.1 0 = .ok (.aload_n 0, 1) := by decide +kernel
theorem gd_JArrayList_clear_1 : decode F_JArrayList_clear.2.1 1 = .ok (.dup, 1) := by decide +kernel
theorem gd_JArrayList_clear_2 : decode F_JArrayList_clear.2.1 2 = .ok (.getfield 63, 3) := by decide +kernel
theorem gd_JArrayList_clear_5 : decode F_JArrayList_clear.2.1 5 = .ok (.iconst 1, 1) := by decide +kernel
theorem gd_JArrayList_clear_6 : decode F_JArrayList_clear.2.1 6 = .ok (.iadd, 1) := by decide +kernel
theorem gd_JArrayList_clear_7 : decode F_JArrayList_clear.2.1 7 = .ok (.putfield 63, 3) := by decide +kernel
theorem gd_JArrayList_clear_10 : decode F_JArrayList_clear.2.1 10 = .ok (.aload_n 0, 1) := by decide +kernel
theorem gd_JArrayList_clear_11 : decode F_JArrayList_clear.2.1 11 = .ok (.getfield 9, 3) := by decide +kernel
theorem gd_JArrayList_clear_14 : decode F_JArrayList_clear.2.1 14 = .ok (.astore_n 1, 1) := by decide +kernel
theorem gd_JArrayList_clear_15 : decode F_JArrayList_clear.2.1 15 = .ok (.aload_n 0, 1) := by decide +kernel
theorem gd_JArrayList_clear_16 : decode F_JArrayList_clear.2.1 16 = .ok (.getfield 48, 3) := by decide +kernel
theorem gd_JArrayList_clear_19 : decode F_JArrayList_clear.2.1 19 = .ok (.istore_n 2, 1) := by decide +kernel
theorem gd_JArrayList_clear_20 : decode F_JArrayList_clear.2.1 20 = .ok (.aload_n 0, 1) := by decide +kernel
theorem gd_JArrayList_clear_21 : decode F_JArrayList_clear.2.1 21 = .ok (.iconst 0, 1) := by decide +kernel
theorem gd_JArrayList_clear_22 : decode F_JArrayList_clear.2.1 22 = .ok (.dup_x1, 1) := by decide +kernel
theorem gd_JArrayList_clear_23 : decode F_JArrayList_clear.2.1 23 = .ok (.putfield 48, 3) := by decide +kernel
theorem gd_JArrayList_clear_26 : decode F_JArrayList_clear.2.1 26 = .ok (.istore_n 3, 1) := by decide +kernel
theorem gd_JArrayList_clear_27 : decode F_JArrayList_clear.2.1 27 = .ok (.iload_n 3, 1) := by decide +kernel
theorem gd_JArrayList_clear_28 : decode F_JArrayList_clear.2.1 28 = .ok (.iload_n 2, 1) := by decide +kernel
theorem gd_JArrayList_clear_29 : decode F_JArrayList_clear.2.1 29 = .ok (.if_icmp .ge 13, 3) := by decide +kernel
theorem gd_JArrayList_clear_32 : decode F_JArrayList_clear.2.1 32 = .ok (.aload_n 1, 1) := by decide +kernel
theorem gd_JArrayList_clear_33 : decode F_JArrayList_clear.2.1 33 = .ok (.iload_n 3, 1) := by decide +kernel
theorem gd_JArrayList_clear_34 : decode F_JArrayList_clear.2.1 34 = .ok (.aconst_null, 1) := by decide +kernel
theorem gd_JArrayList_clear_35 : decode F_JArrayList_clear.2.1 35 = .ok (.aastore, 1) := by decide +kernel
theorem gd_JArrayList_clear_36 : decode F_JArrayList_clear.2.1 36 = .ok (.iinc 3 1, 3) := by decide +kernel
theorem gd_JArrayList_clear_39 : decode F_JArrayList_clear.2.1 39 = .ok (.goto (-12), 3) := by decide +kernel
theorem gd_JArrayList_clear_42 : decode F_JArrayList_clear.2.1 42 = .ok (.return_, 1) := by decide +kernel
theorem gd_JArrayList_elementData_0 : decode F_JArrayList_elementData.2.1 0 = .ok (.aload_n 0, 1) := by decide +kernel
theorem gd_JArrayList_elementData_1 : decode F_JArrayList_elementData.2.1 1 = .ok (.getfield 9, 3) := by decide +kernel
theorem gd_JArrayList_elementData_4 : decode F_JArrayList_elementData.2.1 4 = .ok (.iload_n 1, 1) := by decide +kernel
theorem gd_JArrayList_elementData_5 : decode F_JArrayList_elementData.2.1 5 = .ok (.aaload, 1) := by decide +kernel
theorem gd_JArrayList_elementData_6 : decode F_JArrayList_elementData.2.1 6 = .ok (.areturn, 1) := by decide +kernel
theorem gd_JArrayList_fastRemove_0 : decode F_JArrayList_fastRemove.2.1 0 = .ok (.aload_n 0, 1) := by decide +kernel
theorem gd_JArrayList_fastRemove_1 : decode F_JArrayList_fastRemove.2.1 1 = .ok (.dup, 1) := by decide +kernel
theorem gd_JArrayList_fastRemove_2 : decode F_JArrayList_fastRemove.2.1 2 = .ok (.getfield 63, 3) := by decide +kernel
theorem gd_JArrayList_fastRemove_5 : decode F_JArrayList_fastRemove.2.1 5 = .ok (.iconst 1, 1) := by decide +kernel
theorem gd_JArrayList_fastRemove_6 : decode F_JArrayList_fastRemove.2.1 6 = .ok (.iadd, 1) := by decide +kernel
theorem gd_JArrayList_fastRemove_7 : decode F_JArrayList_fastRemove.2.1 7 = .ok (.putfield 63, 3) := by decide +kernel
theorem gd_JArrayList_fastRemove_10 : decode F_JArrayList_fastRemove.2.1 10 = .ok (.aload_n 0, 1) := by decide +kernel
theorem gd_JArrayList_fastRemove_11 : decode F_JArrayList_fastRemove.2.1 11 = .ok (.getfield 48, 3) := by decide +kernel
theorem gd_JArrayList_fastRemove_14 : decode F_JArrayList_fastRemove.2.1 14 = .ok (.iconst 1, 1) := by decide +kernel
theorem gd_JArrayList_fastRemove_15 : decode F_JArrayList_fastRemove.2.1 15 = .ok (.isub, 1) := by decide +kernel
theorem gd_JArrayList_fastRemove_16 : decode F_JArrayList_fastRemove.2.1 16 = .ok (.dup, 1) := by decide +kernel
theorem gd_JArrayList_fastRemove_17 : decode F_JArrayList_fastRemove.2.1 17 = .ok (.istore_n 3, 1) := by decide +kernel
theorem gd_JArrayList_fastRemove_18 : decode F_JArrayList_fastRemove.2.1 18 = .ok (.iload_n 2, 1) := by decide +kernel
theorem gd_JArrayList_fastRemove_19 : decode F_JArrayList_fastRemove.2.1 19 = .ok (.if_icmp .le 15, 3) := by decide +kernel
theorem gd_JArrayList_fastRemove_22 : decode F_JArrayList_fastRemove.2.1 22 = .ok (.aload_n 1, 1) := by decide +kernel
theorem gd_JArrayList_fastRemove_23 : decode F_JArrayList_fastRemove.2.1 23 = .ok (.iload_n 2, 1) := by decide +kernel
theorem gd_JArrayList_fastRemove_24 : decode F_JArrayList_fastRemove.2.1 24 = .ok (.iconst 1, 1) := by decide +kernel
theorem gd_JArrayList_fastRemove_25 : decode F_JArrayList_fastRemove.2.1 25 = .ok (.iadd, 1) := by decide +kernel
theorem gd_JArrayList_fastRemove_26 : decode F_JArrayList_fastRemove.2.1 26 = .ok (.aload_n 1, 1) := by decide +kernel
theorem gd_JArrayList_fastRemove_27 : decode F_JArrayList_fastRemove.2.1 27 = .ok (.iload_n 2, 1) := by decide +kernel
theorem gd_JArrayList_fastRemove_28 : decode F_JArrayList_fastRemove.2.1 28 = .ok (.iload_n 3, 1) := by decide +kernel
theorem gd_JArrayList_fastRemove_29 : decode F_JArrayList_fastRemove.2.1 29 = .ok (.iload_n 2, 1) := by decide +kernel
theorem gd_JArrayList_fastRemove_30 : decode F_JArrayList_fastRemove.2.1 30 = .ok (.isub, 1) := by decide +kernel
theorem gd_JArrayList_fastRemove_31 : decode F_JArrayList_fastRemove.2.1 31 = .ok (.invokestatic 112, 3) := by decide +kernel
theorem gd_JArrayList_fastRemove_34 : decode F_JArrayList_fastRemove.2.1 34 = .ok (.aload_n 1, 1) := by decide +kernel
theorem gd_JArrayList_fastRemove_35 : decode F_JArrayList_fastRemove.2.1 35 = .ok (.aload_n 0, 1) := by decide +kernel
theorem gd_JArrayList_fastRemove_36 : decode F_JArrayList_fastRemove.2.1 36 = .ok (.iload_n 3, 1) := by decide +kernel
theorem gd_JArrayList_fastRemove_37 : decode F_JArrayList_fastRemove.2.1 37 = .ok (.dup_x1, 1) := by decide +kernel
theorem gd_JArrayList_fastRemove_38 : decode F_JArrayList_fastRemove.2.1 38 = .ok (.putfield 48, 3) := by decide +kernel
theorem gd_JArrayList_fastRemove_41 : decode F_JArrayList_fastRemove.2.1 41 = .ok (.aconst_null, 1) := by decide +kernel
theorem gd_JArrayList_fastRemove_42 : decode F_JArrayList_fastRemove.2.1 42 = .ok (.aastore, 1) := by decide +kernel
theorem gd_JArrayList_fastRemove_43 : decode F_JArrayList_fastRemove.2.1 43 = .ok (.return_, 1) := by decide +kernel
theorem gd_JArrayList_get_0 : decode F_JArrayList_get.2.1 0 = .ok (.iload_n 1, 1) := by decide +kernel
theorem gd_JArrayList_get_1 : decode F_JArrayList_get.2.1 1 = .ok (.aload_n 0, 1) := by decide +kernel
theorem gd_JArrayList_get_2 : decode F_JArrayList_get.2.1 2 = .ok (.getfield 48, 3) := by decide +kernel
theorem gd_JArrayList_get_5 : decode F_JArrayList_get.2.1 5 = .ok (.invokestatic 118, 3) := by decide +kernel
theorem gd_JArrayList_get_8 : decode F_JArrayList_get.2.1 8 = .ok (.pop, 1) := by decide +kernel
theorem gd_JArrayList_get_9 : decode F_JArrayList_get.2.1 9 = .ok (.aload_n 0, 1) := by decide +kernel
theorem gd_JArrayList_get_10 : decode F_JArrayList_get.2.1 10 = .ok (.iload_n 1, 1) := by decide +kernel
theorem gd_JArrayList_get_11 : decode F_JArrayList_get.2.1 11 = .ok (.invokevirtual 123, 3) := by decide +kernel
theorem gd_JArrayList_get_14 : decode F_JArrayList_get.2.1 14 = .ok (.areturn, 1) := by decide +kernel
theorem gd_JArrayList_grow_0 : decode F_JArrayList_grow.2.1 0 = .ok (.aload_n 0, 1) := by decide +kernel
theorem gd_JArrayList_grow_1 : decode F_JArrayList_grow.2.1 1 = .ok (.aload_n 0, 1) := by decide +kernel
theorem gd_JArrayList_grow_2 : decode F_JArrayList_grow.2.1 2 = .ok (.getfield 48, 3) := by decide +kernel
theorem gd_JArrayList_grow_5 : decode F_JArrayList_grow.2.1 5 = .ok (.iconst 1, 1) := by decide +kernel
theorem gd_JArrayList_grow_6 : decode F_JArrayList_grow.2.1 6 = .ok (.iadd, 1) := by decide +kernel
theorem gd_JArrayList_grow_7 : decode F_JArrayList_grow.2.1 7 = .ok (.invokevirtual 69, 3) := by decide +kernel
theorem gd_JArrayList_grow_10 : decode F_JArrayList_grow.2.1 10 = .ok (.areturn, 1) := by decide +kernel
theorem gd_JArrayList_growI_0 : decode F_JArrayList_growI.2.1 0 = .ok (.aload_n 0, 1) := by decide +kernel
theorem gd_JArrayList_growI_1 : decode F_JArrayList_growI.2.1 1 = .ok (.getfield 9, 3) := by decide +kernel
theorem gd_JArrayList_growI_4 : decode F_JArrayList_growI.2.1 4 = .ok (.arraylength, 1) := by decide +kernel
theorem gd_JArrayList_growI_5 : decode F_JArrayList_growI.2.1 5 = .ok (.istore_n 2, 1) := by decide +kernel
theorem gd_JArrayList_growI_6 : decode F_JArrayList_growI.2.1 6 = .ok (.iload_n 2, 1) := by decide +kernel
theorem gd_JArrayList_growI_7 : decode F_JArrayList_growI.2.1 7 = .ok (.ifCond .gt 13, 3) := by decide +kernel
theorem gd_JArrayList_growI_10 : decode F_JArrayList_growI.2.1 10 = .ok (.aload_n 0, 1) := by decide +kernel
theorem gd_JArrayList_growI_11 : decode F_JArrayList_growI.2.1 11 = .ok (.getfield 9, 3) := by decide +kernel
theorem gd_JArrayList_growI_14 : decode F_JArrayList_growI.2.1 14 = .ok (.getstatic 39, 3) := by decide +kernel
theorem gd_JArrayList_growI_17 : decode F_JArrayList_growI.2.1 17 = .ok (.if_acmp .eq 28, 3) := by decide +kernel
theorem gd_JArrayList_growI_20 : decode F_JArrayList_growI.2.1 20 = .ok (.iload_n 2, 1) := by decide +kernel
theorem gd_JArrayList_growI_21 : decode F_JArrayList_growI.2.1 21 = .ok (.iload_n 1, 1) := by decide +kernel
theorem gd_JArrayList_growI_22 : decode F_JArrayList_growI.2.1 22 = .ok (.iload_n 2, 1) := by decide +kernel
theorem gd_JArrayList_growI_23 : decode F_JArrayList_growI.2.1 23 = .ok (.isub, 1) := by decide +kernel
theorem gd_JArrayList_growI_24 : decode F_JArrayList_growI.2.1 24 = .ok (.iload_n 2, 1) := by decide +kernel
theorem gd_JArrayList_growI_25 : decode F_JArrayList_growI.2.1 25 = .ok (.iconst 1, 1) := by decide +kernel
theorem gd_JArrayList_growI_26 : decode F_JArrayList_growI.2.1 26 = .ok (.ishr, 1) := by decide +kernel
theorem gd_JArrayList_growI_27 : decode F_JArrayList_growI.2.1 27 = .ok (.invokestatic 73, 3) := by decide +kernel
theorem gd_JArrayList_growI_30 : decode F_JArrayList_growI.2.1 30 = .ok (.istore_n 3, 1) := by decide +kernel
theorem gd_JArrayList_growI_31 : decode F_JArrayList_growI.2.1 31 = .ok (.aload_n 0, 1) := by decide +kernel
theorem gd_JArrayList_growI_32 : decode F_JArrayList_growI.2.1 32 = .ok (.aload_n 0, 1) := by decide +kernel
theorem gd_JArrayList_growI_33 : decode F_JArrayList_growI.2.1 33 = .ok (.getfield 9, 3) := by decide +kernel
theorem gd_JArrayList_growI_36 : decode F_JArrayList_growI.2.1 36 = .ok (.iload_n 3, 1) := by decide +kernel
theorem gd_JArrayList_growI_37 : decode F_JArrayList_growI.2.1 37 = .ok (.invokestatic 66, 3) := by decide +kernel
theorem gd_JArrayList_growI_40 : decode F_JArrayList_growI.2.1 40 = .ok (.dup_x1, 1) := by decide +kernel
theorem gd_JArrayList_growI_41 : decode F_JArrayList_growI.2.1 41 = .ok (.putfield 9, 3) := by decide +kernel
theorem gd_JArrayList_growI_44 : decode F_JArrayList_growI.2.1 44 = .ok (.areturn, 1) := by decide +kernel
theorem gd_JArrayList_growI_45 : decode F_JArrayList_growI.2.1 45 = .ok (.aload_n 0, 1) := by decide +kernel
theorem gd_JArrayList_growI_46 : decode F_JArrayList_growI.2.1 46 = .ok (.bipush 10, 2) := by decide +kernel
theorem gd_JArrayList_growI_48 : decode F_JArrayList_growI.2.1 48 = .ok (.iload_n 1, 1) := by decide +kernel
theorem gd_JArrayList_growI_49 : decode F_JArrayList_growI.2.1 49 = .ok (.invokestatic 79, 3) := by decide +kernel
theorem gd_JArrayList_growI_52 : decode F_JArrayList_growI.2.1 52 = .ok (.anewarray 7, 3) := by decide +kernel
theorem gd_JArrayList_growI_55 : decode F_JArrayList_growI.2.1 55 = .ok (.dup_x1, 1) := by decide +kernel
theorem gd_JArrayList_growI_56 : decode F_JArrayList_growI.2.1 56 = .ok (.putfield 9, 3) := by decide +kernel
theorem gd_JArrayList_growI_59 : decode F_JArrayList_growI.2.1 59 = .ok (.areturn, 1) := by decide +kernel
theorem gd_JArrayList_init_0 : decode F_JArrayList_init.2.1 0 = .ok (.aload_n 0, 1) := by decide +kernel
theorem gd_JArrayList_init_1 : decode F_JArrayList_init.2.1 1 = .ok (.invokespecial 1, 3) := by decide +kernel
theorem gd_JArrayList_init_4 : decode F_JArrayList_init.2.1 4 = .ok (.aload_n 0, 1) := by decide +kernel
theorem gd_JArrayList_init_5 : decode F_JArrayList_init.2.1 5 = .ok (.getstatic 39, 3) := by decide +kernel
theorem gd_JArrayList_init_8 : decode F_JArrayList_init.2.1 8 = .ok (.putfield 9, 3) := by decide +kernel
theorem gd_JArrayList_init_11 : decode F_JArrayList_init.2.1 11 = .ok (.return_, 1) := by decide +kernel
theorem gd_JArrayList_isEmpty_0 : decode F_JArrayList_isEmpty.2.1 0 = .ok (.aload_n 0, 1) := by decide +kernel
theorem gd_JArrayList_isEmpty_1 : decode F_JArrayList_isEmpty.2.1 1 = .ok (.getfield 48, 3) := by decide +kernel
theorem gd_JArrayList_isEmpty_4 : decode F_JArrayList_isEmpty.2.1 4 = .ok (.ifCond .ne 7, 3) := by decide +kernel
theorem gd_JArrayList_isEmpty_7 : decode F_JArrayList_isEmpty.2.1 7 = .ok (.iconst 1, 1) := by decide +kernel
theorem gd_JArrayList_isEmpty_8 : decode F_JArrayList_isEmpty.2.1 8 = .ok (.goto 4, 3) := by decide +kernel
theorem gd_JArrayList_isEmpty_11 : decode F_JArrayList_isEmpty.2.1 11 = .ok (.iconst 0, 1) := by decide +kernel
theorem gd_JArrayList_isEmpty_12 : decode F_JArrayList_isEmpty.2.1 12 = .ok (.ireturn, 1) := by decide +kernel
theorem gd_JArrayList_remove_0 : decode F_JArrayList_remove.2.1 0 = .ok (.iload_n 1, 1) := by decide +kernel
theorem gd_JArrayList_remove_1 : decode F_JArrayList_remove.2.1 1 = .ok (.aload_n 0, 1) := by decide +kernel
theorem gd_JArrayList_remove_2 : decode F_JArrayList_remove.2.1 2 = .ok (.getfield 48, 3) := by decide +kernel
theorem gd_JArrayList_remove_5 : decode F_JArrayList_remove.2.1 5 = .ok (.invokestatic 118, 3) := by decide +kernel
theorem gd_JArrayList_remove_8 : decode F_JArrayList_remove.2.1 8 = .ok (.pop, 1) := by decide +kernel
theorem gd_JArrayList_remove_9 : decode F_JArrayList_remove.2.1 9 = .ok (.aload_n 0, 1) := by decide +kernel
theorem gd_JArrayList_remove_10 : decode F_JArrayList_remove.2.1 10 = .ok (.getfield 9, 3) := by decide +kernel
theorem gd_JArrayList_remove_13 : decode F_JArrayList_remove.2.1 13 = .ok (.astore_n 2, 1) := by decide +kernel
theorem gd_JArrayList_remove_14 : decode F_JArrayList_remove.2.1 14 = .ok (.aload_n 2, 1) := by decide +kernel
theorem gd_JArrayList_remove_15 : decode F_JArrayList_remove.2.1 15 = .ok (.iload_n 1, 1) := by decide +kernel
theorem gd_JArrayList_remove_16 : decode F_JArrayList_remove.2.1 16 = .ok (.aaload, 1) := by decide +kernel
theorem gd_JArrayList_remove_17 : decode F_JArrayList_remove.2.1 17 = .ok (.astore_n 3, 1) := by decide +kernel
theorem gd_JArrayList_remove_18 : decode F_JArrayList_remove.2.1 18 = .ok (.aload_n 0, 1) := by decide +kernel
theorem gd_JArrayList_remove_19 : decode F_JArrayList_remove.2.1 19 = .ok (.aload_n 2, 1) := by decide +kernel
theorem gd_JArrayList_remove_20 : decode F_JArrayList_remove.2.1 20 = .ok (.iload_n 1, 1) := by decide +kernel
theorem gd_JArrayList_remove_21 : decode F_JArrayList_remove.2.1 21 = .ok (.invokevirtual 144, 3) := by decide +kernel
theorem gd_JArrayList_remove_24 : decode F_JArrayList_remove.2.1 24 = .ok (.aload_n 3, 1) := by decide +kernel
theorem gd_JArrayList_remove_25 : decode F_JArrayList_remove.2.1 25 = .ok (.areturn, 1) := by decide +kernel
theorem gd_JArrayList_size_0 : decode F_JArrayList_size.2.1 0 = .ok (.aload_n 0, 1) := by decide +kernel
theorem gd_JArrayList_size_1 : decode F_JArrayList_size.2.1 1 = .ok (.getfield 48, 3) := by decide +kernel
theorem gd_JArrayList_size_4 : decode F_JArrayList_size.2.1 4 = .ok (.ireturn, 1) := by decide +kernel
theorem gd_JArraysSupport_newLength_0 : decode F_JArraysSupport_newLength.2.1 0 = .ok (.iload_n 0, 1) := by decide +kernel
theorem gd_JArraysSupport_newLength_1 : decode F_JArraysSupport_newLength.2.1 1 = .ok (.iload_n 1, 1) := by decide +kernel
theorem gd_JArraysSupport_newLength_2 : decode F_JArraysSupport_newLength.2.1 2 = .ok (.iload_n 2, 1) := by decide +kernel
theorem gd_JArraysSupport_newLength_3 : decode F_JArraysSupport_newLength.2.1 3 = .ok (.invokestatic 194, 3) := by decide +kernel
theorem gd_JArraysSupport_newLength_6 : decode F_JArraysSupport_newLength.2.1 6 = .ok (.iadd, 1) := by decide +kernel
theorem gd_JArraysSupport_newLength_7 : decode F_JArraysSupport_newLength.2.1 7 = .ok (.istore_n 3, 1) := by decide +kernel
theorem gd_JArraysSupport_newLength_8 : decode F_JArraysSupport_newLength.2.1 8 = .ok (.iconst 0, 1) := by decide +kernel
theorem gd_JArraysSupport_newLength_9 : decode F_JArraysSupport_newLength.2.1 9 = .ok (.iload_n 3, 1) := by decide +kernel
theorem gd_JArraysSupport_newLength_10 : decode F_JArraysSupport_newLength.2.1 10 = .ok (.if_icmp .ge 11, 3) := by decide +kernel
theorem gd_JArraysSupport_newLength_13 : decode F_JArraysSupport_newLength.2.1 13 = .ok (.iload_n 3, 1) := by decide +kernel
theorem gd_JArraysSupport_newLength_14 : decode F_JArraysSupport_newLength.2.1 14 = .ok (.ldc 200, 2) := by decide +kernel
theorem gd_JArraysSupport_newLength_16 : decode F_JArraysSupport_newLength.2.1 16 = .ok (.if_icmp .gt 5, 3) := by decide +kernel
theorem gd_JArraysSupport_newLength_19 : decode F_JArraysSupport_newLength.2.1 19 = .ok (.iload_n 3, 1) := by decide +kernel
theorem gd_JArraysSupport_newLength_20 : decode F_JArraysSupport_newLength.2.1 20 = .ok (.ireturn, 1) := by decide +kernel
theorem gd_JArraysSupport_newLength_21 : decode F_JArraysSupport_newLength.2.1 21 = .ok (.iload_n 0, 1) := by decide +kernel
theorem gd_JArraysSupport_newLength_22 : decode F_JArraysSupport_newLength.2.1 22 = .ok (.iload_n 1, 1) := by decide +kernel
theorem gd_JArraysSupport_newLength_23 : decode F_JArraysSupport_newLength.2.1 23 = .ok (.invokestatic 201, 3) := by decide +kernel
theorem gd_JArraysSupport_newLength_26 : decode F_JArraysSupport_newLength.2.1 26 = .ok (.ireturn, 1) := by decide +kernel
theorem gd_JArrays_copyOf_0 : decode F_JArrays_copyOf.2.1 0 = .ok (.aload_n 0, 1) := by decide +kernel
theorem gd_JArrays_copyOf_1 : decode F_JArrays_copyOf.2.1 1 = .ok (.iload_n 1, 1) := by decide +kernel
theorem gd_JArrays_copyOf_2 : decode F_JArrays_copyOf.2.1 2 = .ok (.aload_n 0, 1) := by decide +kernel
theorem gd_JArrays_copyOf_3 : decode F_JArrays_copyOf.2.1 3 = .ok (.invokevirtual 86, 3) := by decide +kernel
theorem gd_JArrays_copyOf_6 : decode F_JArrays_copyOf.2.1 6 = .ok (.invokestatic 300, 3) := by decide +kernel
theorem gd_JArrays_copyOf_9 : decode F_JArrays_copyOf.2.1 9 = .ok (.areturn, 1) := by decide +kernel
theorem gd_JArrays_copyOf3_0 : decode F_JArrays_copyOf3.2.1 0 = .ok (.aload_n 2, 1) := by decide +kernel
theorem gd_JArrays_copyOf3_1 : decode F_JArrays_copyOf3.2.1 1 = .ok (.ldc 110, 2) := by decide +kernel
theorem gd_JArrays_copyOf3_3 : decode F_JArrays_copyOf3.2.1 3 = .ok (.if_acmp .ne 10, 3) := by decide +kernel
theorem gd_JArrays_copyOf3_6 : decode F_JArrays_copyOf3.2.1 6 = .ok (.iload_n 1, 1) := by decide +kernel
theorem gd_JArrays_copyOf3_7 : decode F_JArrays_copyOf3.2.1 7 = .ok (.anewarray 2, 3) := by decide +kernel
theorem gd_JArrays_copyOf3_10 : decode F_JArrays_copyOf3.2.1 10 = .ok (.goto 14, 3) := by decide +kernel
theorem gd_JArrays_copyOf3_13 : decode F_JArrays_copyOf3.2.1 13 = .ok (.aload_n 2, 1) := by decide +kernel
theorem gd_JArrays_copyOf3_14 : decode F_JArrays_copyOf3.2.1 14 = .ok (.invokevirtual 90, 3) := by decide +kernel
theorem gd_JArrays_copyOf3_17 : decode F_JArrays_copyOf3.2.1 17 = .ok (.iload_n 1, 1) := by decide +kernel
theorem gd_JArrays_copyOf3_18 : decode F_JArrays_copyOf3.2.1 18 = .ok (.invokestatic 95, 3) := by decide +kernel
theorem gd_JArrays_copyOf3_21 : decode F_JArrays_copyOf3.2.1 21 = .ok (.checkcast 110, 3) := by decide +kernel
theorem gd_JArrays_copyOf3_24 : decode F_JArrays_copyOf3.2.1 24 = .ok (.astore_n 3, 1) := by decide +kernel
theorem gd_JArrays_copyOf3_25 : decode F_JArrays_copyOf3.2.1 25 = .ok (.aload_n 0, 1) := by decide +kernel
theorem gd_JArrays_copyOf3_26 : decode F_JArrays_copyOf3.2.1 26 = .ok (.iconst 0, 1) := by decide +kernel
theorem gd_JArrays_copyOf3_27 : decode F_JArrays_copyOf3.2.1 27 = .ok (.aload_n 3, 1) := by decide +kernel
theorem gd_JArrays_copyOf3_28 : decode F_JArrays_copyOf3.2.1 28 = .ok (.iconst 0, 1) := by decide +kernel
theorem gd_JArrays_copyOf3_29 : decode F_JArrays_copyOf3.2.1 29 = .ok (.aload_n 0, 1) := by decide +kernel
theorem gd_JArrays_copyOf3_30 : decode F_JArrays_copyOf3.2.1 30 = .ok (.arraylength, 1) := by decide +kernel
theorem gd_JArrays_copyOf3_31 : decode F_JArrays_copyOf3.2.1 31 = .ok (.iload_n 1, 1) := by decide +kernel
theorem gd_JArrays_copyOf3_32 : decode F_JArrays_copyOf3.2.1 32 = .ok (.invokestatic 304, 3) := by decide +kernel
theorem gd_JArrays_copyOf3_35 : decode F_JArrays_copyOf3.2.1 35 = .ok (.invokestatic 150, 3) := by decide +kernel
theorem gd_JArrays_copyOf3_38 : decode F_JArrays_copyOf3.2.1 38 = .ok (.aload_n 3, 1) := by decide +kernel
theorem gd_JArrays_copyOf3_39 : decode F_JArrays_copyOf3.2.1 39 = .ok (.areturn, 1) := by decide +kernel
theorem gd_JArrays_fill_0 : decode F_JArrays_fill.2.1 0 = .ok (.iconst 0, 1) := by decide +kernel
theorem gd_JArrays_fill_1 : decode F_JArrays_fill.2.1 1 = .ok (.istore_n 2, 1) := by decide +kernel
theorem gd_JArrays_fill_2 : decode F_JArrays_fill.2.1 2 = .ok (.aload_n 0, 1) := by decide +kernel
theorem gd_JArrays_fill_3 : decode F_JArrays_fill.2.1 3 = .ok (.arraylength, 1) := by decide +kernel
theorem gd_JArrays_fill_4 : decode F_JArrays_fill.2.1 4 = .ok (.istore_n 3, 1) := by decide +kernel
theorem gd_JArrays_fill_5 : decode F_JArrays_fill.2.1 5 = .ok (.iload_n 2, 1) := by decide +kernel
theorem gd_JArrays_fill_6 : decode F_JArrays_fill.2.1 6 = .ok (.iload_n 3, 1) := by decide +kernel
theorem gd_JArrays_fill_7 : decode F_JArrays_fill.2.1 7 = .ok (.if_icmp .ge 13, 3) := by decide +kernel
theorem gd_JArrays_fill_10 : decode F_JArrays_fill.2.1 10 = .ok (.aload_n 0, 1) := by decide +kernel
theorem gd_JArrays_fill_11 : decode F_JArrays_fill.2.1 11 = .ok (.iload_n 2, 1) := by decide +kernel
theorem gd_JArrays_fill_12 : decode F_JArrays_fill.2.1 12 = .ok (.iload_n 1, 1) := by decide +kernel
theorem gd_JArrays_fill_13 : decode F_JArrays_fill.2.1 13 = .ok (.iastore, 1) := by decide +kernel
theorem gd_JArrays_fill_14 : decode F_JArrays_fill.2.1 14 = .ok (.iinc 2 1, 3) := by decide +kernel
theorem gd_JArrays_fill_17 : decode F_JArrays_fill.2.1 17 = .ok (.goto (-12), 3) := by decide +kernel
theorem gd_JArrays_fill_20 : decode F_JArrays_fill.2.1 20 = .ok (.return_, 1) := by decide +kernel
theorem gd_JMath_max_0 : decode F_JMath_max.2.1 0 = .ok (.iload_n 0, 1) := by decide +kernel
theorem gd_JMath_max_1 : decode F_JMath_max.2.1 1 = .ok (.iload_n 1, 1) := by decide +kernel
theorem gd_JMath_max_2 : decode F_JMath_max.2.1 2 = .ok (.if_icmp .lt 7, 3) := by decide +kernel
theorem gd_JMath_max_5 : decode F_JMath_max.2.1 5 = .ok (.iload_n 0, 1) := by decide +kernel
theorem gd_JMath_max_6 : decode F_JMath_max.2.1 6 = .ok (.goto 4, 3) := by decide +kernel
theorem gd_JMath_max_9 : decode F_JMath_max.2.1 9 = .ok (.iload_n 1, 1) := by decide +kernel
theorem gd_JMath_max_10 : decode F_JMath_max.2.1 10 = .ok (.ireturn, 1) := by decide +kernel
theorem gd_JMath_min_0 : decode F_JMath_min.2.1 0 = .ok (.iload_n 0, 1) := by decide +kernel
theorem gd_JMath_min_1 : decode F_JMath_min.2.1 1 = .ok (.iload_n 1, 1) := by decide +kernel
theorem gd_JMath_min_2 : decode F_JMath_min.2.1 2 = .ok (.if_icmp .gt 7, 3) := by decide +kernel
theorem gd_JMath_min_5 : decode F_JMath_min.2.1 5 = .ok (.iload_n 0, 1) := by decide +kernel
theorem gd_JMath_min_6 : decode F_JMath_min.2.1 6 = .ok (.goto 4, 3) := by decide +kernel
theorem gd_JMath_min_9 : decode F_JMath_min.2.1 9 = .ok (.iload_n 1, 1) := by decide +kernel
theorem gd_JMath_min_10 : decode F_JMath_min.2.1 10 = .ok (.ireturn, 1) := by decide +kernel
theorem gd_JObjects_checkIndex_0 : decode F_JObjects_checkIndex.2.1 0 = .ok (.iload_n 0, 1) := by decide +kernel
theorem gd_JObjects_checkIndex_1 : decode F_JObjects_checkIndex.2.1 1 = .ok (.iload_n 1, 1) := by decide +kernel
theorem gd_JObjects_checkIndex_2 : decode F_JObjects_checkIndex.2.1 2 = .ok (.aconst_null, 1) := by decide +kernel
theorem gd_JObjects_checkIndex_3 : decode F_JObjects_checkIndex.2.1 3 = .ok (.invokestatic 105, 3) := by decide +kernel
theorem gd_JObjects_checkIndex_6 : decode F_JObjects_checkIndex.2.1 6 = .ok (.ireturn, 1) := by decide +kernel
theorem gd_JPreconditions_checkIndex_0 : decode F_JPreconditions_checkIndex.2.1 0 = .ok (.iload_n 0, 1) := by decide +kernel
theorem gd_JPreconditions_checkIndex_1 : decode F_JPreconditions_checkIndex.2.1 1 = .ok (.ifCond .lt 8, 3) := by decide +kernel
theorem gd_JPreconditions_checkIndex_4 : decode F_JPreconditions_checkIndex.2.1 4 = .ok (.iload_n 0, 1) := by decide +kernel
theorem gd_JPreconditions_checkIndex_5 : decode F_JPreconditions_checkIndex.2.1 5 = .ok (.iload_n 1, 1) := by decide +kernel
theorem gd_JPreconditions_checkIndex_6 : decode F_JPreconditions_checkIndex.2.1 6 = .ok (.if_icmp .lt 10, 3) := by decide +kernel
theorem gd_JPreconditions_checkIndex_9 : decode F_JPreconditions_checkIndex.2.1 9 = .ok (.aload_n 2, 1) := by decide +kernel
theorem gd_JPreconditions_checkIndex_10 : decode F_JPreconditions_checkIndex.2.1 10 = .ok (.iload_n 0, 1) := by decide +kernel
theorem gd_JPreconditions_checkIndex_11 : decode F_JPreconditions_checkIndex.2.1 11 = .ok (.iload_n 1, 1) := by decide +kernel
theorem gd_JPreconditions_checkIndex_12 : decode F_JPreconditions_checkIndex.2.1 12 = .ok (.invokestatic 95, 3) := by decide +kernel
theorem gd_JPreconditions_checkIndex_15 : decode F_JPreconditions_checkIndex.2.1 15 = .ok (.athrow, 1) := by decide +kernel
theorem gd_JPreconditions_checkIndex_16 : decode F_JPreconditions_checkIndex.2.1 16 = .ok (.iload_n 0, 1) := by decide +kernel
theorem gd_JPreconditions_checkIndex_17 : decode F_JPreconditions_checkIndex.2.1 17 = .ok (.ireturn, 1) := by decide +kernel
theorem gd_O_admits_0 : decode F_O_admits.2.1 0 = .ok (.aload_n 0, 1) := by decide +kernel
theorem gd_O_admits_1 : decode F_O_admits.2.1 1 = .ok (.getfield 17, 3) := by decide +kernel
theorem gd_O_admits_4 : decode F_O_admits.2.1 4 = .ok (.iload_n 1, 1) := by decide +kernel
theorem gd_O_admits_5 : decode F_O_admits.2.1 5 = .ok (.iaload, 1) := by decide +kernel
theorem gd_O_admits_6 : decode F_O_admits.2.1 6 = .ok (.iconst (-1), 1) := by decide +kernel
theorem gd_O_admits_7 : decode F_O_admits.2.1 7 = .ok (.if_icmp .eq 13, 3) := by decide +kernel
theorem gd_O_admits_10 : decode F_O_admits.2.1 10 = .ok (.aload_n 0, 1) := by decide +kernel
theorem gd_O_admits_11 : decode F_O_admits.2.1 11 = .ok (.getfield 17, 3) := by decide +kernel
theorem gd_O_admits_14 : decode F_O_admits.2.1 14 = .ok (.iload_n 1, 1) := by decide +kernel
theorem gd_O_admits_15 : decode F_O_admits.2.1 15 = .ok (.iaload, 1) := by decide +kernel
theorem gd_O_admits_16 : decode F_O_admits.2.1 16 = .ok (.iload_n 2, 1) := by decide +kernel
theorem gd_O_admits_17 : decode F_O_admits.2.1 17 = .ok (.if_icmp .ne 7, 3) := by decide +kernel
theorem gd_O_admits_20 : decode F_O_admits.2.1 20 = .ok (.iconst 1, 1) := by decide +kernel
theorem gd_O_admits_21 : decode F_O_admits.2.1 21 = .ok (.goto 4, 3) := by decide +kernel
theorem gd_O_admits_24 : decode F_O_admits.2.1 24 = .ok (.iconst 0, 1) := by decide +kernel
theorem gd_O_admits_25 : decode F_O_admits.2.1 25 = .ok (.ireturn, 1) := by decide +kernel
theorem gd_O_forgetAll_0 : decode F_O_forgetAll.2.1 0 = .ok (.iconst 0, 1) := by decide +kernel
theorem gd_O_forgetAll_1 : decode F_O_forgetAll.2.1 1 = .ok (.istore_n 1, 1) := by decide +kernel
theorem gd_O_forgetAll_2 : decode F_O_forgetAll.2.1 2 = .ok (.iload_n 1, 1) := by decide +kernel
theorem gd_O_forgetAll_3 : decode F_O_forgetAll.2.1 3 = .ok (.bipush 40, 2) := by decide +kernel
theorem gd_O_forgetAll_5 : decode F_O_forgetAll.2.1 5 = .ok (.if_icmp .ge 30, 3) := by decide +kernel
theorem gd_O_forgetAll_8 : decode F_O_forgetAll.2.1 8 = .ok (.aload_n 0, 1) := by decide +kernel
theorem gd_O_forgetAll_9 : decode F_O_forgetAll.2.1 9 = .ok (.getfield 11, 3) := by decide +kernel
theorem gd_O_forgetAll_12 : decode F_O_forgetAll.2.1 12 = .ok (.iload_n 1, 1) := by decide +kernel
theorem gd_O_forgetAll_13 : decode F_O_forgetAll.2.1 13 = .ok (.aconst_null, 1) := by decide +kernel
theorem gd_O_forgetAll_14 : decode F_O_forgetAll.2.1 14 = .ok (.aastore, 1) := by decide +kernel
theorem gd_O_forgetAll_15 : decode F_O_forgetAll.2.1 15 = .ok (.aload_n 0, 1) := by decide +kernel
theorem gd_O_forgetAll_16 : decode F_O_forgetAll.2.1 16 = .ok (.getfield 17, 3) := by decide +kernel
theorem gd_O_forgetAll_19 : decode F_O_forgetAll.2.1 19 = .ok (.iload_n 1, 1) := by decide +kernel
theorem gd_O_forgetAll_20 : decode F_O_forgetAll.2.1 20 = .ok (.iconst (-1), 1) := by decide +kernel
theorem gd_O_forgetAll_21 : decode F_O_forgetAll.2.1 21 = .ok (.iastore, 1) := by decide +kernel
theorem gd_O_forgetAll_22 : decode F_O_forgetAll.2.1 22 = .ok (.aload_n 0, 1) := by decide +kernel
theorem gd_O_forgetAll_23 : decode F_O_forgetAll.2.1 23 = .ok (.getfield 21, 3) := by decide +kernel
theorem gd_O_forgetAll_26 : decode F_O_forgetAll.2.1 26 = .ok (.iload_n 1, 1) := by decide +kernel
theorem gd_O_forgetAll_27 : decode F_O_forgetAll.2.1 27 = .ok (.iconst 0, 1) := by decide +kernel
theorem gd_O_forgetAll_28 : decode F_O_forgetAll.2.1 28 = .ok (.bastore, 1) := by decide +kernel
theorem gd_O_forgetAll_29 : decode F_O_forgetAll.2.1 29 = .ok (.iinc 1 1, 3) := by decide +kernel
theorem gd_O_forgetAll_32 : decode F_O_forgetAll.2.1 32 = .ok (.goto (-30), 3) := by decide +kernel
theorem gd_O_forgetAll_35 : decode F_O_forgetAll.2.1 35 = .ok (.return_, 1) := by decide +kernel
theorem gd_O_init_0 : decode F_O_init.2.1 0 = .ok (.aload_n 0, 1) := by decide +kernel
theorem gd_O_init_1 : decode F_O_init.2.1 1 = .ok (.invokespecial 3, 3) := by decide +kernel
theorem gd_O_init_4 : decode F_O_init.2.1 4 = .ok (.aload_n 0, 1) := by decide +kernel
theorem gd_O_init_5 : decode F_O_init.2.1 5 = .ok (.bipush 40, 2) := by decide +kernel
theorem gd_O_init_7 : decode F_O_init.2.1 7 = .ok (.anewarray 9, 3) := by decide +kernel
theorem gd_O_init_10 : decode F_O_init.2.1 10 = .ok (.putfield 11, 3) := by decide +kernel
theorem gd_O_init_13 : decode F_O_init.2.1 13 = .ok (.aload_n 0, 1) := by decide +kernel
theorem gd_O_init_14 : decode F_O_init.2.1 14 = .ok (.bipush 40, 2) := by decide +kernel
theorem gd_O_init_16 : decode F_O_init.2.1 16 = .ok (.newarray .int, 2) := by decide +kernel
theorem gd_O_init_18 : decode F_O_init.2.1 18 = .ok (.putfield 17, 3) := by decide +kernel
theorem gd_O_init_21 : decode F_O_init.2.1 21 = .ok (.aload_n 0, 1) := by decide +kernel
theorem gd_O_init_22 : decode F_O_init.2.1 22 = .ok (.bipush 40, 2) := by decide +kernel
theorem gd_O_init_24 : decode F_O_init.2.1 24 = .ok (.newarray .boolean, 2) := by decide +kernel
theorem gd_O_init_26 : decode F_O_init.2.1 26 = .ok (.putfield 21, 3) := by decide +kernel
theorem gd_O_init_29 : decode F_O_init.2.1 29 = .ok (.aload_n 0, 1) := by decide +kernel
theorem gd_O_init_30 : decode F_O_init.2.1 30 = .ok (.new 25, 3) := by decide +kernel
theorem gd_O_init_33 : decode F_O_init.2.1 33 = .ok (.dup, 1) := by decide +kernel
theorem gd_O_init_34 : decode F_O_init.2.1 34 = .ok (.invokespecial 27, 3) := by decide +kernel
theorem gd_O_init_37 : decode F_O_init.2.1 37 = .ok (.putfield 28, 3) := by decide +kernel
theorem gd_O_init_40 : decode F_O_init.2.1 40 = .ok (.aload_n 0, 1) := by decide +kernel
theorem gd_O_init_41 : decode F_O_init.2.1 41 = .ok (.new 25, 3) := by decide +kernel
theorem gd_O_init_44 : decode F_O_init.2.1 44 = .ok (.dup, 1) := by decide +kernel
theorem gd_O_init_45 : decode F_O_init.2.1 45 = .ok (.invokespecial 27, 3) := by decide +kernel
theorem gd_O_init_48 : decode F_O_init.2.1 48 = .ok (.putfield 32, 3) := by decide +kernel
theorem gd_O_init_51 : decode F_O_init.2.1 51 = .ok (.aload_n 0, 1) := by decide +kernel
theorem gd_O_init_52 : decode F_O_init.2.1 52 = .ok (.iconst (-1), 1) := by decide +kernel
theorem gd_O_init_53 : decode F_O_init.2.1 53 = .ok (.putfield 35, 3) := by decide +kernel
theorem gd_O_init_56 : decode F_O_init.2.1 56 = .ok (.aload_n 0, 1) := by decide +kernel
theorem gd_O_init_57 : decode F_O_init.2.1 57 = .ok (.iconst 1, 1) := by decide +kernel
theorem gd_O_init_58 : decode F_O_init.2.1 58 = .ok (.putfield 39, 3) := by decide +kernel
theorem gd_O_init_61 : decode F_O_init.2.1 61 = .ok (.aload_n 0, 1) := by decide +kernel
theorem gd_O_init_62 : decode F_O_init.2.1 62 = .ok (.iload_n 1, 1) := by decide +kernel
theorem gd_O_init_63 : decode F_O_init.2.1 63 = .ok (.putfield 43, 3) := by decide +kernel
theorem gd_O_init_66 : decode F_O_init.2.1 66 = .ok (.aload_n 0, 1) := by decide +kernel
theorem gd_O_init_67 : decode F_O_init.2.1 67 = .ok (.getfield 17, 3) := by decide +kernel
theorem gd_O_init_70 : decode F_O_init.2.1 70 = .ok (.iconst (-1), 1) := by decide +kernel
theorem gd_O_init_71 : decode F_O_init.2.1 71 = .ok (.invokestatic 46, 3) := by decide +kernel
theorem gd_O_init_74 : decode F_O_init.2.1 74 = .ok (.return_, 1) := by decide +kernel
theorem gd_O_leaveParent_0 : decode F_O_leaveParent.2.1 0 = .ok (.aload_n 0, 1) := by decide +kernel
theorem gd_O_leaveParent_1 : decode F_O_leaveParent.2.1 1 = .ok (.iconst (-1), 1) := by decide +kernel
theorem gd_O_leaveParent_2 : decode F_O_leaveParent.2.1 2 = .ok (.putfield 35, 3) := by decide +kernel
theorem gd_O_leaveParent_5 : decode F_O_leaveParent.2.1 5 = .ok (.aload_n 0, 1) := by decide +kernel
theorem gd_O_leaveParent_6 : decode F_O_leaveParent.2.1 6 = .ok (.getfield 28, 3) := by decide +kernel
theorem gd_O_leaveParent_9 : decode F_O_leaveParent.2.1 9 = .ok (.invokevirtual 52, 3) := by decide +kernel
theorem gd_O_leaveParent_12 : decode F_O_leaveParent.2.1 12 = .ok (.aload_n 0, 1) := by decide +kernel
theorem gd_O_leaveParent_13 : decode F_O_leaveParent.2.1 13 = .ok (.iconst 0, 1) := by decide +kernel
theorem gd_O_leaveParent_14 : decode F_O_leaveParent.2.1 14 = .ok (.putfield 55, 3) := by decide +kernel
theorem gd_O_leaveParent_17 : decode F_O_leaveParent.2.1 17 = .ok (.aload_n 0, 1) := by decide +kernel
theorem gd_O_leaveParent_18 : decode F_O_leaveParent.2.1 18 = .ok (.getfield 32, 3) := by decide +kernel
theorem gd_O_leaveParent_21 : decode F_O_leaveParent.2.1 21 = .ok (.invokevirtual 52, 3) := by decide +kernel
theorem gd_O_leaveParent_24 : decode F_O_leaveParent.2.1 24 = .ok (.return_, 1) := by decide +kernel
theorem gd_O_ownWaitingCount_0 : decode F_O_ownWaitingCount.2.1 0 = .ok (.iconst 0, 1) := by decide +kernel
theorem gd_O_ownWaitingCount_1 : decode F_O_ownWaitingCount.2.1 1 = .ok (.istore_n 1, 1) := by decide +kernel
theorem gd_O_ownWaitingCount_2 : decode F_O_ownWaitingCount.2.1 2 = .ok (.iconst 0, 1) := by decide +kernel
theorem gd_O_ownWaitingCount_3 : decode F_O_ownWaitingCount.2.1 3 = .ok (.istore_n 2, 1) := by decide +kernel
theorem gd_O_ownWaitingCount_4 : decode F_O_ownWaitingCount.2.1 4 = .ok (.iload_n 2, 1) := by decide +kernel
theorem gd_O_ownWaitingCount_5 : decode F_O_ownWaitingCount.2.1 5 = .ok (.bipush 40, 2) := by decide +kernel
theorem gd_O_ownWaitingCount_7 : decode F_O_ownWaitingCount.2.1 7 = .ok (.if_icmp .ge 21, 3) := by decide +kernel
theorem gd_O_ownWaitingCount_10 : decode F_O_ownWaitingCount.2.1 10 = .ok (.aload_n 0, 1) := by decide +kernel
theorem gd_O_ownWaitingCount_11 : decode F_O_ownWaitingCount.2.1 11 = .ok (.getfield 21, 3) := by decide +kernel
theorem gd_O_ownWaitingCount_14 : decode F_O_ownWaitingCount.2.1 14 = .ok (.iload_n 2, 1) := by decide +kernel
theorem gd_O_ownWaitingCount_15 : decode F_O_ownWaitingCount.2.1 15 = .ok (.baload, 1) := by decide +kernel
theorem gd_O_ownWaitingCount_16 : decode F_O_ownWaitingCount.2.1 16 = .ok (.ifCond .eq 6, 3) := by decide +kernel
theorem gd_O_ownWaitingCount_19 : decode F_O_ownWaitingCount.2.1 19 = .ok (.iinc 1 1, 3) := by decide +kernel
theorem gd_O_ownWaitingCount_22 : decode F_O_ownWaitingCount.2.1 22 = .ok (.iinc 2 1, 3) := by decide +kernel
theorem gd_O_ownWaitingCount_25 : decode F_O_ownWaitingCount.2.1 25 = .ok (.goto (-21), 3) := by decide +kernel
theorem gd_O_ownWaitingCount_28 : decode F_O_ownWaitingCount.2.1 28 = .ok (.iload_n 1, 1) := by decide +kernel
theorem gd_O_ownWaitingCount_29 : decode F_O_ownWaitingCount.2.1 29 = .ok (.ireturn, 1) := by decide +kernel
theorem gd_O_shownCount_0 : decode F_O_shownCount.2.1 0 = .ok (.iconst 0, 1) := by decide +kernel
theorem gd_O_shownCount_1 : decode F_O_shownCount.2.1 1 = .ok (.istore_n 1, 1) := by decide +kernel
theorem gd_O_shownCount_2 : decode F_O_shownCount.2.1 2 = .ok (.iconst 0, 1) := by decide +kernel
theorem gd_O_shownCount_3 : decode F_O_shownCount.2.1 3 = .ok (.istore_n 2, 1) := by decide +kernel
theorem gd_O_shownCount_4 : decode F_O_shownCount.2.1 4 = .ok (.iload_n 2, 1) := by decide +kernel
theorem gd_O_shownCount_5 : decode F_O_shownCount.2.1 5 = .ok (.bipush 40, 2) := by decide +kernel
theorem gd_O_shownCount_7 : decode F_O_shownCount.2.1 7 = .ok (.if_icmp .ge 21, 3) := by decide +kernel
theorem gd_O_shownCount_10 : decode F_O_shownCount.2.1 10 = .ok (.aload_n 0, 1) := by decide +kernel
theorem gd_O_shownCount_11 : decode F_O_shownCount.2.1 11 = .ok (.getfield 11, 3) := by decide +kernel
theorem gd_O_shownCount_14 : decode F_O_shownCount.2.1 14 = .ok (.iload_n 2, 1) := by decide +kernel
theorem gd_O_shownCount_15 : decode F_O_shownCount.2.1 15 = .ok (.aaload, 1) := by decide +kernel
theorem gd_O_shownCount_16 : decode F_O_shownCount.2.1 16 = .ok (.ifnull 6, 3) := by decide +kernel
theorem gd_O_shownCount_19 : decode F_O_shownCount.2.1 19 = .ok (.iinc 1 1, 3) := by decide +kernel
theorem gd_O_shownCount_22 : decode F_O_shownCount.2.1 22 = .ok (.iinc 2 1, 3) := by decide +kernel
theorem gd_O_shownCount_25 : decode F_O_shownCount.2.1 25 = .ok (.goto (-21), 3) := by decide +kernel
theorem gd_O_shownCount_28 : decode F_O_shownCount.2.1 28 = .ok (.iload_n 1, 1) := by decide +kernel
theorem gd_O_shownCount_29 : decode F_O_shownCount.2.1 29 = .ok (.ireturn, 1) := by decide +kernel
theorem gd_O_shownSum_0 : decode F_O_shownSum.2.1 0 = .ok (.lconst 0, 1) := by decide +kernel
theorem gd_O_shownSum_1 : decode F_O_shownSum.2.1 1 = .ok (.lstore_n 2, 1) := by decide +kernel
theorem gd_O_shownSum_2 : decode F_O_shownSum.2.1 2 = .ok (.iconst 0, 1) := by decide +kernel
theorem gd_O_shownSum_3 : decode F_O_shownSum.2.1 3 = .ok (.istore 4, 2) := by decide +kernel
theorem gd_O_shownSum_5 : decode F_O_shownSum.2.1 5 = .ok (.iload 4, 2) := by decide +kernel
theorem gd_O_shownSum_7 : decode F_O_shownSum.2.1 7 = .ok (.bipush 40, 2) := by decide +kernel
theorem gd_O_shownSum_9 : decode F_O_shownSum.2.1 9 = .ok (.if_icmp .ge 34, 3) := by decide +kernel
theorem gd_O_shownSum_12 : decode F_O_shownSum.2.1 12 = .ok (.aload_n 0, 1) := by decide +kernel
theorem gd_O_shownSum_13 : decode F_O_shownSum.2.1 13 = .ok (.getfield 11, 3) := by decide +kernel
theorem gd_O_shownSum_16 : decode F_O_shownSum.2.1 16 = .ok (.iload 4, 2) := by decide +kernel
theorem gd_O_shownSum_18 : decode F_O_shownSum.2.1 18 = .ok (.aaload, 1) := by decide +kernel
theorem gd_O_shownSum_19 : decode F_O_shownSum.2.1 19 = .ok (.astore 5, 2) := by decide +kernel
theorem gd_O_shownSum_21 : decode F_O_shownSum.2.1 21 = .ok (.aload 5, 2) := by decide +kernel
theorem gd_O_shownSum_23 : decode F_O_shownSum.2.1 23 = .ok (.ifnull 14, 3) := by decide +kernel
theorem gd_O_shownSum_26 : decode F_O_shownSum.2.1 26 = .ok (.lload_n 2, 1) := by decide +kernel
theorem gd_O_shownSum_27 : decode F_O_shownSum.2.1 27 = .ok (.aload 5, 2) := by decide +kernel
theorem gd_O_shownSum_29 : decode F_O_shownSum.2.1 29 = .ok (.getfield 58, 3) := by decide +kernel
theorem gd_O_shownSum_32 : decode F_O_shownSum.2.1 32 = .ok (.iload_n 1, 1) := by decide +kernel
theorem gd_O_shownSum_33 : decode F_O_shownSum.2.1 33 = .ok (.iaload, 1) := by decide +kernel
theorem gd_O_shownSum_34 : decode F_O_shownSum.2.1 34 = .ok (.i2l, 1) := by decide +kernel
theorem gd_O_shownSum_35 : decode F_O_shownSum.2.1 35 = .ok (.ladd, 1) := by decide +kernel
theorem gd_O_shownSum_36 : decode F_O_shownSum.2.1 36 = .ok (.lstore_n 2, 1) := by decide +kernel
theorem gd_O_shownSum_37 : decode F_O_shownSum.2.1 37 = .ok (.iinc 4 1, 3) := by decide +kernel
theorem gd_O_shownSum_40 : decode F_O_shownSum.2.1 40 = .ok (.goto (-35), 3) := by decide +kernel
theorem gd_O_shownSum_43 : decode F_O_shownSum.2.1 43 = .ok (.lload_n 2, 1) := by decide +kernel
theorem gd_O_shownSum_44 : decode F_O_shownSum.2.1 44 = .ok (.lreturn, 1) := by decide +kernel
theorem gd_O_sumThrough_0 : decode F_O_sumThrough.2.1 0 = .ok (.lconst 0, 1) := by decide +kernel
theorem gd_O_sumThrough_1 : decode F_O_sumThrough.2.1 1 = .ok (.lstore_n 3, 1) := by decide +kernel
theorem gd_O_sumThrough_2 : decode F_O_sumThrough.2.1 2 = .ok (.iconst 0, 1) := by decide +kernel
theorem gd_O_sumThrough_3 : decode F_O_sumThrough.2.1 3 = .ok (.istore 5, 2) := by decide +kernel
theorem gd_O_sumThrough_5 : decode F_O_sumThrough.2.1 5 = .ok (.iload 5, 2) := by decide +kernel
theorem gd_O_sumThrough_7 : decode F_O_sumThrough.2.1 7 = .ok (.bipush 40, 2) := by decide +kernel
theorem gd_O_sumThrough_9 : decode F_O_sumThrough.2.1 9 = .ok (.if_icmp .ge 45, 3) := by decide +kernel
theorem gd_O_sumThrough_12 : decode F_O_sumThrough.2.1 12 = .ok (.aload_n 0, 1) := by decide +kernel
theorem gd_O_sumThrough_13 : decode F_O_sumThrough.2.1 13 = .ok (.getfield 11, 3) := by decide +kernel
theorem gd_O_sumThrough_16 : decode F_O_sumThrough.2.1 16 = .ok (.iload 5, 2) := by decide +kernel
theorem gd_O_sumThrough_18 : decode F_O_sumThrough.2.1 18 = .ok (.aaload, 1) := by decide +kernel
theorem gd_O_sumThrough_19 : decode F_O_sumThrough.2.1 19 = .ok (.astore 6, 2) := by decide +kernel
theorem gd_O_sumThrough_21 : decode F_O_sumThrough.2.1 21 = .ok (.aload 6, 2) := by decide +kernel
theorem gd_O_sumThrough_23 : decode F_O_sumThrough.2.1 23 = .ok (.ifnull 25, 3) := by decide +kernel
theorem gd_O_sumThrough_26 : decode F_O_sumThrough.2.1 26 = .ok (.aload_n 0, 1) := by decide +kernel
theorem gd_O_sumThrough_27 : decode F_O_sumThrough.2.1 27 = .ok (.getfield 17, 3) := by decide +kernel
theorem gd_O_sumThrough_30 : decode F_O_sumThrough.2.1 30 = .ok (.iload 5, 2) := by decide +kernel
theorem gd_O_sumThrough_32 : decode F_O_sumThrough.2.1 32 = .ok (.iaload, 1) := by decide +kernel
theorem gd_O_sumThrough_33 : decode F_O_sumThrough.2.1 33 = .ok (.iload_n 1, 1) := by decide +kernel
theorem gd_O_sumThrough_34 : decode F_O_sumThrough.2.1 34 = .ok (.if_icmp .ne 14, 3) := by decide +kernel
theorem gd_O_sumThrough_37 : decode F_O_sumThrough.2.1 37 = .ok (.lload_n 3, 1) := by decide +kernel
theorem gd_O_sumThrough_38 : decode F_O_sumThrough.2.1 38 = .ok (.aload 6, 2) := by decide +kernel
theorem gd_O_sumThrough_40 : decode F_O_sumThrough.2.1 40 = .ok (.getfield 58, 3) := by decide +kernel
theorem gd_O_sumThrough_43 : decode F_O_sumThrough.2.1 43 = .ok (.iload_n 2, 1) := by decide +kernel
theorem gd_O_sumThrough_44 : decode F_O_sumThrough.2.1 44 = .ok (.iaload, 1) := by decide +kernel
theorem gd_O_sumThrough_45 : decode F_O_sumThrough.2.1 45 = .ok (.i2l, 1) := by decide +kernel
theorem gd_O_sumThrough_46 : decode F_O_sumThrough.2.1 46 = .ok (.ladd, 1) := by decide +kernel
theorem gd_O_sumThrough_47 : decode F_O_sumThrough.2.1 47 = .ok (.lstore_n 3, 1) := by decide +kernel
theorem gd_O_sumThrough_48 : decode F_O_sumThrough.2.1 48 = .ok (.iinc 5 1, 3) := by decide +kernel
theorem gd_O_sumThrough_51 : decode F_O_sumThrough.2.1 51 = .ok (.goto (-46), 3) := by decide +kernel
theorem gd_O_sumThrough_54 : decode F_O_sumThrough.2.1 54 = .ok (.lload_n 3, 1) := by decide +kernel
theorem gd_O_sumThrough_55 : decode F_O_sumThrough.2.1 55 = .ok (.lreturn, 1) := by decide +kernel
theorem gd_R_init_0 : decode F_R_init.2.1 0 = .ok (.aload_n 0, 1) := by decide +kernel
theorem gd_R_init_1 : decode F_R_init.2.1 1 = .ok (.invokespecial 1, 3) := by decide +kernel
theorem gd_R_init_4 : decode F_R_init.2.1 4 = .ok (.aload_n 0, 1) := by decide +kernel
theorem gd_R_init_5 : decode F_R_init.2.1 5 = .ok (.iload_n 1, 1) := by decide +kernel
theorem gd_R_init_6 : decode F_R_init.2.1 6 = .ok (.putfield 7, 3) := by decide +kernel
theorem gd_R_init_9 : decode F_R_init.2.1 9 = .ok (.aload_n 0, 1) := by decide +kernel
theorem gd_R_init_10 : decode F_R_init.2.1 10 = .ok (.iload_n 2, 1) := by decide +kernel
theorem gd_R_init_11 : decode F_R_init.2.1 11 = .ok (.putfield 13, 3) := by decide +kernel
theorem gd_R_init_14 : decode F_R_init.2.1 14 = .ok (.return_, 1) := by decide +kernel
theorem gd_T_init_0 : decode F_T_init.2.1 0 = .ok (.aload_n 0, 1) := by decide +kernel
theorem gd_T_init_1 : decode F_T_init.2.1 1 = .ok (.invokespecial 1, 3) := by decide +kernel
theorem gd_T_init_4 : decode F_T_init.2.1 4 = .ok (.aload_n 0, 1) := by decide +kernel
theorem gd_T_init_5 : decode F_T_init.2.1 5 = .ok (.iload_n 1, 1) := by decide +kernel
theorem gd_T_init_6 : decode F_T_init.2.1 6 = .ok (.putfield 7, 3) := by decide +kernel
theorem gd_T_init_9 : decode F_T_init.2.1 9 = .ok (.aload_n 0, 1) := by decide +kernel
theorem gd_T_init_10 : decode F_T_init.2.1 10 = .ok (.iload_n 2, 1) := by decide +kernel
theorem gd_T_init_11 : decode F_T_init.2.1 11 = .ok (.putfield 13, 3) := by decide +kernel
theorem gd_T_init_14 : decode F_T_init.2.1 14 = .ok (.aload_n 0, 1) := by decide +kernel
theorem gd_T_init_15 : decode F_T_init.2.1 15 = .ok (.iload_n 3, 1) := by decide +kernel
theorem gd_T_init_16 : decode F_T_init.2.1 16 = .ok (.putfield 16, 3) := by decide +kernel
theorem gd_T_init_19 : decode F_T_init.2.1 19 = .ok (.aload_n 0, 1) := by decide +kernel
theorem gd_T_init_20 : decode F_T_init.2.1 20 = .ok (.aload 4, 2) := by decide +kernel
theorem gd_T_init_22 : decode F_T_init.2.1 22 = .ok (.putfield 19, 3) := by decide +kernel
theorem gd_T_init_25 : decode F_T_init.2.1 25 = .ok (.return_, 1) := by decide +kernel
theorem gd_V_init_0 : decode F_V_init.2.1 0 = .ok (.aload_n 0, 1) := by decide +kernel
theorem gd_V_init_1 : decode F_V_init.2.1 1 = .ok (.invokespecial 1, 3) := by decide +kernel
theorem gd_V_init_4 : decode F_V_init.2.1 4 = .ok (.aload_n 0, 1) := by decide +kernel
theorem gd_V_init_5 : decode F_V_init.2.1 5 = .ok (.iload_n 1, 1) := by decide +kernel
theorem gd_V_init_6 : decode F_V_init.2.1 6 = .ok (.putfield 7, 3) := by decide +kernel
theorem gd_V_init_9 : decode F_V_init.2.1 9 = .ok (.aload_n 0, 1) := by decide +kernel
theorem gd_V_init_10 : decode F_V_init.2.1 10 = .ok (.aload_n 2, 1) := by decide +kernel
theorem gd_V_init_11 : decode F_V_init.2.1 11 = .ok (.putfield 13, 3) := by decide +kernel
theorem gd_V_init_14 : decode F_V_init.2.1 14 = .ok (.aload_n 0, 1) := by decide +kernel
theorem gd_V_init_15 : decode F_V_init.2.1 15 = .ok (.iload_n 3, 1) := by decide +kernel
theorem gd_V_init_16 : decode F_V_init.2.1 16 = .ok (.putfield 17, 3) := by decide +kernel
theorem gd_V_init_19 : decode F_V_init.2.1 19 = .ok (.return_, 1) := by decide +kernel
