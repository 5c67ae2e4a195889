/-! Printed by wip/whole/print_names.py: decode rows -/
theorem gd_M_resend_34 : decode F_M_resend.2.1 34 = .ok (.getfield 100, 3) := by decide +kernel
theorem gd_M_resend_37 : decode F_M_resend.2.1 37 = .ok (.ifCond .ne 43, 3) := by decide +kernel
theorem gd_M_resend_40 : decode F_M_resend.2.1 40 = .ok (.iload_n 3, 1) := by decide +kernel
theorem gd_M_resend_41 : decode F_M_resend.2.1 41 = .ok (.aload_n 0, 1) := by decide +kernel
theorem gd_M_resend_42 : decode F_M_resend.2.1 42 = .ok (.getfield 53, 3) := by decide +kernel
theorem gd_M_resend_45 : decode F_M_resend.2.1 45 = .ok (.iload_n 1, 1) := by decide +kernel
theorem gd_M_resend_46 : decode F_M_resend.2.1 46 = .ok (.iaload, 1) := by decide +kernel
theorem gd_M_resend_47 : decode F_M_resend.2.1 47 = .ok (.if_icmp .ge 33, 3) := by decide +kernel
theorem gd_M_resend_50 : decode F_M_resend.2.1 50 = .ok (.iload_n 3, 1) := by decide +kernel
theorem gd_M_resend_51 : decode F_M_resend.2.1 51 = .ok (.aload_n 0, 1) := by decide +kernel
theorem gd_M_resend_52 : decode F_M_resend.2.1 52 = .ok (.getfield 63, 3) := by decide +kernel
theorem gd_M_resend_55 : decode F_M_resend.2.1 55 = .ok (.iload_n 1, 1) := by decide +kernel
theorem gd_M_resend_56 : decode F_M_resend.2.1 56 = .ok (.iaload, 1) := by decide +kernel
theorem gd_M_resend_57 : decode F_M_resend.2.1 57 = .ok (.if_icmp .lt 17, 3) := by decide +kernel
theorem gd_M_resend_60 : decode F_M_resend.2.1 60 = .ok (.aload_n 0, 1) := by decide +kernel
theorem gd_M_resend_61 : decode F_M_resend.2.1 61 = .ok (.iload_n 1, 1) := by decide +kernel
theorem gd_M_resend_62 : decode F_M_resend.2.1 62 = .ok (.iload_n 3, 1) := by decide +kernel
theorem gd_M_resend_63 : decode F_M_resend.2.1 63 = .ok (.iconst 1, 1) := by decide +kernel
theorem gd_M_resend_64 : decode F_M_resend.2.1 64 = .ok (.iadd, 1) := by decide +kernel
theorem gd_M_resend_65 : decode F_M_resend.2.1 65 = .ok (.invokevirtual 119, 3) := by decide +kernel
theorem gd_M_resend_68 : decode F_M_resend.2.1 68 = .ok (.ifCond .eq 6, 3) := by decide +kernel
theorem gd_M_resend_71 : decode F_M_resend.2.1 71 = .ok (.iinc 2 1, 3) := by decide +kernel
theorem gd_M_resend_74 : decode F_M_resend.2.1 74 = .ok (.iinc 3 1, 3) := by decide +kernel
theorem gd_M_resend_77 : decode F_M_resend.2.1 77 = .ok (.goto (-44), 3) := by decide +kernel
theorem gd_M_resend_80 : decode F_M_resend.2.1 80 = .ok (.iload_n 2, 1) := by decide +kernel
theorem gd_M_resend_81 : decode F_M_resend.2.1 81 = .ok (.ireturn, 1) := by decide +kernel
theorem gd_M_revive_0 : decode F_M_revive.2.1 0 = .ok (.aload_n 0, 1) := by decide +kernel
theorem gd_M_revive_1 : decode F_M_revive.2.1 1 = .ok (.iload_n 1, 1) := by decide +kernel
theorem gd_M_revive_2 : decode F_M_revive.2.1 2 = .ok (.invokestatic 150, 3) := by decide +kernel
theorem gd_M_revive_5 : decode F_M_revive.2.1 5 = .ok (.ifCond .ne 7, 3) := by decide +kernel
theorem gd_M_revive_8 : decode F_M_revive.2.1 8 = .ok (.iconst 1, 1) := by decide +kernel
theorem gd_M_revive_9 : decode F_M_revive.2.1 9 = .ok (.goto 17, 3) := by decide +kernel
theorem gd_M_revive_12 : decode F_M_revive.2.1 12 = .ok (.aload_n 0, 1) := by decide +kernel
theorem gd_M_revive_13 : decode F_M_revive.2.1 13 = .ok (.getfield 35, 3) := by decide +kernel
theorem gd_M_revive_16 : decode F_M_revive.2.1 16 = .ok (.iload_n 1, 1) := by decide +kernel
theorem gd_M_revive_17 : decode F_M_revive.2.1 17 = .ok (.baload, 1) := by decide +kernel
theorem gd_M_revive_18 : decode F_M_revive.2.1 18 = .ok (.ifCond .eq 7, 3) := by decide +kernel
theorem gd_M_revive_21 : decode F_M_revive.2.1 21 = .ok (.iconst 2, 1) := by decide +kernel
theorem gd_M_revive_22 : decode F_M_revive.2.1 22 = .ok (.goto 4, 3) := by decide +kernel
theorem gd_M_revive_25 : decode F_M_revive.2.1 25 = .ok (.iconst 0, 1) := by decide +kernel
theorem gd_M_revive_26 : decode F_M_revive.2.1 26 = .ok (.putfield 100, 3) := by decide +kernel
theorem gd_M_revive_29 : decode F_M_revive.2.1 29 = .ok (.aload_n 0, 1) := by decide +kernel
theorem gd_M_revive_30 : decode F_M_revive.2.1 30 = .ok (.getfield 100, 3) := by decide +kernel
theorem gd_M_revive_33 : decode F_M_revive.2.1 33 = .ok (.ifCond .le 5, 3) := by decide +kernel
theorem gd_M_revive_36 : decode F_M_revive.2.1 36 = .ok (.iconst 0, 1) := by decide +kernel
theorem gd_M_revive_37 : decode F_M_revive.2.1 37 = .ok (.ireturn, 1) := by decide +kernel
theorem gd_M_revive_38 : decode F_M_revive.2.1 38 = .ok (.aload_n 0, 1) := by decide +kernel
theorem gd_M_revive_39 : decode F_M_revive.2.1 39 = .ok (.getfield 35, 3) := by decide +kernel
theorem gd_M_revive_42 : decode F_M_revive.2.1 42 = .ok (.iload_n 1, 1) := by decide +kernel
theorem gd_M_revive_43 : decode F_M_revive.2.1 43 = .ok (.iconst 1, 1) := by decide +kernel
theorem gd_M_revive_44 : decode F_M_revive.2.1 44 = .ok (.bastore, 1) := by decide +kernel
theorem gd_M_revive_45 : decode F_M_revive.2.1 45 = .ok (.iconst 0, 1) := by decide +kernel
theorem gd_M_revive_46 : decode F_M_revive.2.1 46 = .ok (.istore_n 2, 1) := by decide +kernel
theorem gd_M_revive_47 : decode F_M_revive.2.1 47 = .ok (.iconst 0, 1) := by decide +kernel
theorem gd_M_revive_48 : decode F_M_revive.2.1 48 = .ok (.istore_n 3, 1) := by decide +kernel
theorem gd_M_revive_49 : decode F_M_revive.2.1 49 = .ok (.iload_n 3, 1) := by decide +kernel
theorem gd_M_revive_50 : decode F_M_revive.2.1 50 = .ok (.bipush 40, 2) := by decide +kernel
theorem gd_M_revive_52 : decode F_M_revive.2.1 52 = .ok (.if_icmp .ge 54, 3) := by decide +kernel
theorem gd_M_revive_55 : decode F_M_revive.2.1 55 = .ok (.aload_n 0, 1) := by decide +kernel
theorem gd_M_revive_56 : decode F_M_revive.2.1 56 = .ok (.getfield 7, 3) := by decide +kernel
theorem gd_M_revive_59 : decode F_M_revive.2.1 59 = .ok (.iload_n 3, 1) := by decide +kernel
theorem gd_M_revive_60 : decode F_M_revive.2.1 60 = .ok (.baload, 1) := by decide +kernel
theorem gd_M_revive_61 : decode F_M_revive.2.1 61 = .ok (.ifCond .eq 39, 3) := by decide +kernel
theorem gd_M_revive_64 : decode F_M_revive.2.1 64 = .ok (.aload_n 0, 1) := by decide +kernel
theorem gd_M_revive_65 : decode F_M_revive.2.1 65 = .ok (.getfield 13, 3) := by decide +kernel
theorem gd_M_revive_68 : decode F_M_revive.2.1 68 = .ok (.iload_n 3, 1) := by decide +kernel
theorem gd_M_revive_69 : decode F_M_revive.2.1 69 = .ok (.iaload, 1) := by decide +kernel
theorem gd_M_revive_70 : decode F_M_revive.2.1 70 = .ok (.iload_n 1, 1) := by decide +kernel
theorem gd_M_revive_71 : decode F_M_revive.2.1 71 = .ok (.if_icmp .ne 29, 3) := by decide +kernel
theorem gd_M_revive_74 : decode F_M_revive.2.1 74 = .ok (.aload_n 0, 1) := by decide +kernel
theorem gd_M_revive_75 : decode F_M_revive.2.1 75 = .ok (.getfield 20, 3) := by decide +kernel
theorem gd_M_revive_78 : decode F_M_revive.2.1 78 = .ok (.iload_n 3, 1) := by decide +kernel
theorem gd_M_revive_79 : decode F_M_revive.2.1 79 = .ok (.iaload, 1) := by decide +kernel
theorem gd_M_revive_80 : decode F_M_revive.2.1 80 = .ok (.ifCond .le 20, 3) := by decide +kernel
theorem gd_M_revive_83 : decode F_M_revive.2.1 83 = .ok (.iload_n 2, 1) := by decide +kernel
theorem gd_M_revive_84 : decode F_M_revive.2.1 84 = .ok (.aload_n 0, 1) := by decide +kernel
theorem gd_M_revive_85 : decode F_M_revive.2.1 85 = .ok (.iload_n 1, 1) := by decide +kernel
theorem gd_M_revive_86 : decode F_M_revive.2.1 86 = .ok (.iload_n 3, 1) := by decide +kernel
theorem gd_M_revive_87 : decode F_M_revive.2.1 87 = .ok (.invokevirtual 134, 3) := by decide +kernel
theorem gd_M_revive_90 : decode F_M_revive.2.1 90 = .ok (.ifCond .eq 7, 3) := by decide +kernel
theorem gd_M_revive_93 : decode F_M_revive.2.1 93 = .ok (.iconst 1, 1) := by decide +kernel
theorem gd_M_revive_94 : decode F_M_revive.2.1 94 = .ok (.goto 4, 3) := by decide +kernel
theorem gd_M_revive_97 : decode F_M_revive.2.1 97 = .ok (.iconst 0, 1) := by decide +kernel
theorem gd_M_revive_98 : decode F_M_revive.2.1 98 = .ok (.iadd, 1) := by decide +kernel
theorem gd_M_revive_99 : decode F_M_revive.2.1 99 = .ok (.istore_n 2, 1) := by decide +kernel
theorem gd_M_revive_100 : decode F_M_revive.2.1 100 = .ok (.iinc 3 1, 3) := by decide +kernel
theorem gd_M_revive_103 : decode F_M_revive.2.1 103 = .ok (.goto (-54), 3) := by decide +kernel
theorem gd_M_revive_106 : decode F_M_revive.2.1 106 = .ok (.iload_n 2, 1) := by decide +kernel
theorem gd_M_revive_107 : decode F_M_revive.2.1 107 = .ok (.ireturn, 1) := by decide +kernel
theorem gd_M_seats_0 : decode F_M_seats.2.1 0 = .ok (.aload_n 0, 1) := by decide +kernel
theorem gd_M_seats_1 : decode F_M_seats.2.1 1 = .ok (.iload_n 1, 1) := by decide +kernel
theorem gd_M_seats_2 : decode F_M_seats.2.1 2 = .ok (.invokestatic 150, 3) := by decide +kernel
theorem gd_M_seats_5 : decode F_M_seats.2.1 5 = .ok (.ifCond .eq 13, 3) := by decide +kernel
theorem gd_M_seats_8 : decode F_M_seats.2.1 8 = .ok (.iload 4, 2) := by decide +kernel
theorem gd_M_seats_10 : decode F_M_seats.2.1 10 = .ok (.iconst 0, 1) := by decide +kernel
theorem gd_M_seats_11 : decode F_M_seats.2.1 11 = .ok (.iconst 5, 1) := by decide +kernel
theorem gd_M_seats_12 : decode F_M_seats.2.1 12 = .ok (.invokestatic 104, 3) := by decide +kernel
theorem gd_M_seats_15 : decode F_M_seats.2.1 15 = .ok (.ifCond .ne 7, 3) := by decide +kernel
theorem gd_M_seats_18 : decode F_M_seats.2.1 18 = .ok (.iconst 1, 1) := by decide +kernel
theorem gd_M_seats_19 : decode F_M_seats.2.1 19 = .ok (.goto 28, 3) := by decide +kernel
theorem gd_M_seats_22 : decode F_M_seats.2.1 22 = .ok (.iload_n 2, 1) := by decide +kernel
theorem gd_M_seats_23 : decode F_M_seats.2.1 23 = .ok (.iconst 1, 1) := by decide +kernel
theorem gd_M_seats_24 : decode F_M_seats.2.1 24 = .ok (.sipush 1000, 3) := by decide +kernel
theorem gd_M_seats_27 : decode F_M_seats.2.1 27 = .ok (.invokestatic 104, 3) := by decide +kernel
theorem gd_M_seats_30 : decode F_M_seats.2.1 30 = .ok (.ifCond .eq 12, 3) := by decide +kernel
theorem gd_M_seats_33 : decode F_M_seats.2.1 33 = .ok (.iload_n 3, 1) := by decide +kernel
theorem gd_M_seats_34 : decode F_M_seats.2.1 34 = .ok (.iconst 0, 1) := by decide +kernel
theorem gd_M_seats_35 : decode F_M_seats.2.1 35 = .ok (.iconst 2, 1) := by decide +kernel
theorem gd_M_seats_36 : decode F_M_seats.2.1 36 = .ok (.invokestatic 104, 3) := by decide +kernel
theorem gd_M_seats_39 : decode F_M_seats.2.1 39 = .ok (.ifCond .ne 7, 3) := by decide +kernel
theorem gd_M_seats_42 : decode F_M_seats.2.1 42 = .ok (.iconst 2, 1) := by decide +kernel
theorem gd_M_seats_43 : decode F_M_seats.2.1 43 = .ok (.goto 4, 3) := by decide +kernel
theorem gd_M_seats_46 : decode F_M_seats.2.1 46 = .ok (.iconst 0, 1) := by decide +kernel
theorem gd_M_seats_47 : decode F_M_seats.2.1 47 = .ok (.putfield 100, 3) := by decide +kernel
theorem gd_M_seats_50 : decode F_M_seats.2.1 50 = .ok (.aload_n 0, 1) := by decide +kernel
theorem gd_M_seats_51 : decode F_M_seats.2.1 51 = .ok (.getfield 100, 3) := by decide +kernel
theorem gd_M_seats_54 : decode F_M_seats.2.1 54 = .ok (.ifCond .le 5, 3) := by decide +kernel
theorem gd_M_seats_57 : decode F_M_seats.2.1 57 = .ok (.iconst 0, 1) := by decide +kernel
theorem gd_M_seats_58 : decode F_M_seats.2.1 58 = .ok (.ireturn, 1) := by decide +kernel
theorem gd_M_seats_59 : decode F_M_seats.2.1 59 = .ok (.aload_n 0, 1) := by decide +kernel
theorem gd_M_seats_60 : decode F_M_seats.2.1 60 = .ok (.iload_n 1, 1) := by decide +kernel
theorem gd_M_seats_61 : decode F_M_seats.2.1 61 = .ok (.iconst (-1), 1) := by decide +kernel
theorem gd_M_seats_62 : decode F_M_seats.2.1 62 = .ok (.invokevirtual 185, 3) := by decide +kernel
theorem gd_M_seats_65 : decode F_M_seats.2.1 65 = .ok (.lconst 0, 1) := by decide +kernel
theorem gd_M_seats_66 : decode F_M_seats.2.1 66 = .ok (.lstore 5, 2) := by decide +kernel
theorem gd_M_seats_68 : decode F_M_seats.2.1 68 = .ok (.iconst 0, 1) := by decide +kernel
theorem gd_M_seats_69 : decode F_M_seats.2.1 69 = .ok (.istore 7, 2) := by decide +kernel
theorem gd_M_seats_71 : decode F_M_seats.2.1 71 = .ok (.iload 7, 2) := by decide +kernel
theorem gd_M_seats_73 : decode F_M_seats.2.1 73 = .ok (.bipush 6, 2) := by decide +kernel
theorem gd_M_seats_75 : decode F_M_seats.2.1 75 = .ok (.if_icmp .ge 29, 3) := by decide +kernel
theorem gd_M_seats_78 : decode F_M_seats.2.1 78 = .ok (.lload 5, 2) := by decide +kernel
theorem gd_M_seats_80 : decode F_M_seats.2.1 80 = .ok (.aload_n 0, 1) := by decide +kernel
theorem gd_M_seats_81 : decode F_M_seats.2.1 81 = .ok (.getfield 90, 3) := by decide +kernel
theorem gd_M_seats_84 : decode F_M_seats.2.1 84 = .ok (.iload 7, 2) := by decide +kernel
theorem gd_M_seats_86 : decode F_M_seats.2.1 86 = .ok (.laload, 1) := by decide +kernel
theorem gd_M_seats_87 : decode F_M_seats.2.1 87 = .ok (.ladd, 1) := by decide +kernel
theorem gd_M_seats_88 : decode F_M_seats.2.1 88 = .ok (.lstore 5, 2) := by decide +kernel
theorem gd_M_seats_90 : decode F_M_seats.2.1 90 = .ok (.aload_n 0, 1) := by decide +kernel
theorem gd_M_seats_91 : decode F_M_seats.2.1 91 = .ok (.getfield 97, 3) := by decide +kernel
theorem gd_M_seats_94 : decode F_M_seats.2.1 94 = .ok (.iload 7, 2) := by decide +kernel
theorem gd_M_seats_96 : decode F_M_seats.2.1 96 = .ok (.iconst 0, 1) := by decide +kernel
theorem gd_M_seats_97 : decode F_M_seats.2.1 97 = .ok (.iastore, 1) := by decide +kernel
theorem gd_M_seats_98 : decode F_M_seats.2.1 98 = .ok (.iinc 7 1, 3) := by decide +kernel
theorem gd_M_seats_101 : decode F_M_seats.2.1 101 = .ok (.goto (-30), 3) := by decide +kernel
theorem gd_M_seats_104 : decode F_M_seats.2.1 104 = .ok (.lload 5, 2) := by decide +kernel
theorem gd_M_seats_106 : decode F_M_seats.2.1 106 = .ok (.lconst 0, 1) := by decide +kernel
theorem gd_M_seats_107 : decode F_M_seats.2.1 107 = .ok (.lcmp, 1) := by decide +kernel
theorem gd_M_seats_108 : decode F_M_seats.2.1 108 = .ok (.ifCond .ne 5, 3) := by decide +kernel
theorem gd_M_seats_111 : decode F_M_seats.2.1 111 = .ok (.iconst 0, 1) := by decide +kernel
theorem gd_M_seats_112 : decode F_M_seats.2.1 112 = .ok (.ireturn, 1) := by decide +kernel
theorem gd_M_seats_113 : decode F_M_seats.2.1 113 = .ok (.iload_n 2, 1) := by decide +kernel
theorem gd_M_seats_114 : decode F_M_seats.2.1 114 = .ok (.istore 7, 2) := by decide +kernel
theorem gd_M_seats_116 : decode F_M_seats.2.1 116 = .ok (.iconst 0, 1) := by decide +kernel
theorem gd_M_seats_117 : decode F_M_seats.2.1 117 = .ok (.istore 8, 2) := by decide +kernel
theorem gd_M_seats_119 : decode F_M_seats.2.1 119 = .ok (.iload 8, 2) := by decide +kernel
theorem gd_M_seats_121 : decode F_M_seats.2.1 121 = .ok (.bipush 6, 2) := by decide +kernel
theorem gd_M_seats_123 : decode F_M_seats.2.1 123 = .ok (.if_icmp .ge 67, 3) := by decide +kernel
theorem gd_M_seats_126 : decode F_M_seats.2.1 126 = .ok (.iload_n 3, 1) := by decide +kernel
theorem gd_M_seats_127 : decode F_M_seats.2.1 127 = .ok (.iconst 2, 1) := by decide +kernel
theorem gd_M_seats_128 : decode F_M_seats.2.1 128 = .ok (.if_icmp .ne 62, 3) := by decide +kernel
theorem gd_M_seats_131 : decode F_M_seats.2.1 131 = .ok (.aload_n 0, 1) := by decide +kernel
theorem gd_M_seats_132 : decode F_M_seats.2.1 132 = .ok (.getfield 97, 3) := by decide +kernel
theorem gd_M_seats_135 : decode F_M_seats.2.1 135 = .ok (.iload 8, 2) := by decide +kernel
theorem gd_M_seats_137 : decode F_M_seats.2.1 137 = .ok (.iload_n 2, 1) := by decide +kernel
theorem gd_M_seats_138 : decode F_M_seats.2.1 138 = .ok (.i2l, 1) := by decide +kernel
theorem gd_M_seats_139 : decode F_M_seats.2.1 139 = .ok (.aload_n 0, 1) := by decide +kernel
theorem gd_M_seats_140 : decode F_M_seats.2.1 140 = .ok (.getfield 90, 3) := by decide +kernel
theorem gd_M_seats_143 : decode F_M_seats.2.1 143 = .ok (.iload 8, 2) := by decide +kernel
theorem gd_M_seats_145 : decode F_M_seats.2.1 145 = .ok (.laload, 1) := by decide +kernel
theorem gd_M_seats_146 : decode F_M_seats.2.1 146 = .ok (.lmul, 1) := by decide +kernel
theorem gd_M_seats_147 : decode F_M_seats.2.1 147 = .ok (.lload 5, 2) := by decide +kernel
theorem gd_M_seats_149 : decode F_M_seats.2.1 149 = .ok (.ldiv, 1) := by decide +kernel
theorem gd_M_seats_150 : decode F_M_seats.2.1 150 = .ok (.l2i, 1) := by decide +kernel
theorem gd_M_seats_151 : decode F_M_seats.2.1 151 = .ok (.iastore, 1) := by decide +kernel
theorem gd_M_seats_152 : decode F_M_seats.2.1 152 = .ok (.aload_n 0, 1) := by decide +kernel
theorem gd_M_seats_153 : decode F_M_seats.2.1 153 = .ok (.getfield 94, 3) := by decide +kernel
theorem gd_M_seats_156 : decode F_M_seats.2.1 156 = .ok (.iload 8, 2) := by decide +kernel
theorem gd_M_seats_158 : decode F_M_seats.2.1 158 = .ok (.iload_n 2, 1) := by decide +kernel
theorem gd_M_seats_159 : decode F_M_seats.2.1 159 = .ok (.i2l, 1) := by decide +kernel
theorem gd_M_seats_160 : decode F_M_seats.2.1 160 = .ok (.aload_n 0, 1) := by decide +kernel
theorem gd_M_seats_161 : decode F_M_seats.2.1 161 = .ok (.getfield 90, 3) := by decide +kernel
theorem gd_M_seats_164 : decode F_M_seats.2.1 164 = .ok (.iload 8, 2) := by decide +kernel
theorem gd_M_seats_166 : decode F_M_seats.2.1 166 = .ok (.laload, 1) := by decide +kernel
theorem gd_M_seats_167 : decode F_M_seats.2.1 167 = .ok (.lmul, 1) := by decide +kernel
theorem gd_M_seats_168 : decode F_M_seats.2.1 168 = .ok (.lload 5, 2) := by decide +kernel
theorem gd_M_seats_170 : decode F_M_seats.2.1 170 = .ok (.lrem, 1) := by decide +kernel
theorem gd_M_seats_171 : decode F_M_seats.2.1 171 = .ok (.lastore, 1) := by decide +kernel
theorem gd_M_seats_172 : decode F_M_seats.2.1 172 = .ok (.iload 7, 2) := by decide +kernel
theorem gd_M_seats_174 : decode F_M_seats.2.1 174 = .ok (.aload_n 0, 1) := by decide +kernel
theorem gd_M_seats_175 : decode F_M_seats.2.1 175 = .ok (.getfield 97, 3) := by decide +kernel
theorem gd_M_seats_178 : decode F_M_seats.2.1 178 = .ok (.iload 8, 2) := by decide +kernel
theorem gd_M_seats_180 : decode F_M_seats.2.1 180 = .ok (.iaload, 1) := by decide +kernel
theorem gd_M_seats_181 : decode F_M_seats.2.1 181 = .ok (.isub, 1) := by decide +kernel
theorem gd_M_seats_182 : decode F_M_seats.2.1 182 = .ok (.istore 7, 2) := by decide +kernel
theorem gd_M_seats_184 : decode F_M_seats.2.1 184 = .ok (.iinc 8 1, 3) := by decide +kernel
theorem gd_M_seats_187 : decode F_M_seats.2.1 187 = .ok (.goto (-68), 3) := by decide +kernel
theorem gd_M_seats_190 : decode F_M_seats.2.1 190 = .ok (.iload 7, 2) := by decide +kernel
theorem gd_M_seats_192 : decode F_M_seats.2.1 192 = .ok (.ifCond .le 37, 3) := by decide +kernel
theorem gd_M_seats_195 : decode F_M_seats.2.1 195 = .ok (.aload_n 0, 1) := by decide +kernel
theorem gd_M_seats_196 : decode F_M_seats.2.1 196 = .ok (.iload_n 3, 1) := by decide +kernel
theorem gd_M_seats_197 : decode F_M_seats.2.1 197 = .ok (.invokevirtual 191, 3) := by decide +kernel
theorem gd_M_seats_200 : decode F_M_seats.2.1 200 = .ok (.istore 8, 2) := by decide +kernel
theorem gd_M_seats_202 : decode F_M_seats.2.1 202 = .ok (.aload_n 0, 1) := by decide +kernel
theorem gd_M_seats_203 : decode F_M_seats.2.1 203 = .ok (.getfield 97, 3) := by decide +kernel
theorem gd_M_seats_206 : decode F_M_seats.2.1 206 = .ok (.iload 8, 2) := by decide +kernel
theorem gd_M_seats_208 : decode F_M_seats.2.1 208 = .ok (.dup2, 1) := by decide +kernel
theorem gd_M_seats_209 : decode F_M_seats.2.1 209 = .ok (.iaload, 1) := by decide +kernel
theorem gd_M_seats_210 : decode F_M_seats.2.1 210 = .ok (.iconst 1, 1) := by decide +kernel
theorem gd_M_seats_211 : decode F_M_seats.2.1 211 = .ok (.iadd, 1) := by decide +kernel
theorem gd_M_seats_212 : decode F_M_seats.2.1 212 = .ok (.iastore, 1) := by decide +kernel
theorem gd_M_seats_213 : decode F_M_seats.2.1 213 = .ok (.aload_n 0, 1) := by decide +kernel
theorem gd_M_seats_214 : decode F_M_seats.2.1 214 = .ok (.getfield 94, 3) := by decide +kernel
theorem gd_M_seats_217 : decode F_M_seats.2.1 217 = .ok (.iload 8, 2) := by decide +kernel
theorem gd_M_seats_219 : decode F_M_seats.2.1 219 = .ok (.ldc2_w 194, 3) := by decide +kernel
theorem gd_M_seats_222 : decode F_M_seats.2.1 222 = .ok (.lastore, 1) := by decide +kernel
theorem gd_M_seats_223 : decode F_M_seats.2.1 223 = .ok (.iinc 7 (-1), 3) := by decide +kernel
theorem gd_M_seats_226 : decode F_M_seats.2.1 226 = .ok (.goto (-36), 3) := by decide +kernel
theorem gd_M_seats_229 : decode F_M_seats.2.1 229 = .ok (.aload_n 0, 1) := by decide +kernel
theorem gd_M_seats_230 : decode F_M_seats.2.1 230 = .ok (.getfield 97, 3) := by decide +kernel
theorem gd_M_seats_233 : decode F_M_seats.2.1 233 = .ok (.iload 4, 2) := by decide +kernel
theorem gd_M_seats_235 : decode F_M_seats.2.1 235 = .ok (.iaload, 1) := by decide +kernel
theorem gd_M_seats_236 : decode F_M_seats.2.1 236 = .ok (.ireturn, 1) := by decide +kernel
theorem gd_M_send_0 : decode F_M_send.2.1 0 = .ok (.aload_n 0, 1) := by decide +kernel
theorem gd_M_send_1 : decode F_M_send.2.1 1 = .ok (.getfield 112, 3) := by decide +kernel
theorem gd_M_send_4 : decode F_M_send.2.1 4 = .ok (.sipush 500, 3) := by decide +kernel
theorem gd_M_send_7 : decode F_M_send.2.1 7 = .ok (.if_icmp .ne 5, 3) := by decide +kernel
theorem gd_M_send_10 : decode F_M_send.2.1 10 = .ok (.iconst 0, 1) := by decide +kernel
theorem gd_M_send_11 : decode F_M_send.2.1 11 = .ok (.ireturn, 1) := by decide +kernel
theorem gd_M_send_12 : decode F_M_send.2.1 12 = .ok (.aload_n 0, 1) := by decide +kernel
theorem gd_M_send_13 : decode F_M_send.2.1 13 = .ok (.getfield 75, 3) := by decide +kernel
theorem gd_M_send_16 : decode F_M_send.2.1 16 = .ok (.aload_n 0, 1) := by decide +kernel
theorem gd_M_send_17 : decode F_M_send.2.1 17 = .ok (.getfield 112, 3) := by decide +kernel
theorem gd_M_send_20 : decode F_M_send.2.1 20 = .ok (.iload_n 1, 1) := by decide +kernel
theorem gd_M_send_21 : decode F_M_send.2.1 21 = .ok (.iastore, 1) := by decide +kernel
theorem gd_M_send_22 : decode F_M_send.2.1 22 = .ok (.aload_n 0, 1) := by decide +kernel
theorem gd_M_send_23 : decode F_M_send.2.1 23 = .ok (.getfield 78, 3) := by decide +kernel
theorem gd_M_send_26 : decode F_M_send.2.1 26 = .ok (.aload_n 0, 1) := by decide +kernel
theorem gd_M_send_27 : decode F_M_send.2.1 27 = .ok (.getfield 112, 3) := by decide +kernel
theorem gd_M_send_30 : decode F_M_send.2.1 30 = .ok (.aload_n 0, 1) := by decide +kernel
theorem gd_M_send_31 : decode F_M_send.2.1 31 = .ok (.getfield 41, 3) := by decide +kernel
theorem gd_M_send_34 : decode F_M_send.2.1 34 = .ok (.iload_n 1, 1) := by decide +kernel
theorem gd_M_send_35 : decode F_M_send.2.1 35 = .ok (.iaload, 1) := by decide +kernel
theorem gd_M_send_36 : decode F_M_send.2.1 36 = .ok (.iastore, 1) := by decide +kernel
theorem gd_M_send_37 : decode F_M_send.2.1 37 = .ok (.aload_n 0, 1) := by decide +kernel
theorem gd_M_send_38 : decode F_M_send.2.1 38 = .ok (.getfield 81, 3) := by decide +kernel
theorem gd_M_send_41 : decode F_M_send.2.1 41 = .ok (.aload_n 0, 1) := by decide +kernel
theorem gd_M_send_42 : decode F_M_send.2.1 42 = .ok (.getfield 112, 3) := by decide +kernel
theorem gd_M_send_45 : decode F_M_send.2.1 45 = .ok (.iload_n 2, 1) := by decide +kernel
theorem gd_M_send_46 : decode F_M_send.2.1 46 = .ok (.iastore, 1) := by decide +kernel
theorem gd_M_send_47 : decode F_M_send.2.1 47 = .ok (.aload_n 0, 1) := by decide +kernel
theorem gd_M_send_48 : decode F_M_send.2.1 48 = .ok (.getfield 84, 3) := by decide +kernel
theorem gd_M_send_51 : decode F_M_send.2.1 51 = .ok (.aload_n 0, 1) := by decide +kernel
theorem gd_M_send_52 : decode F_M_send.2.1 52 = .ok (.getfield 112, 3) := by decide +kernel
theorem gd_M_send_55 : decode F_M_send.2.1 55 = .ok (.aload_n 0, 1) := by decide +kernel
theorem gd_M_send_56 : decode F_M_send.2.1 56 = .ok (.getfield 57, 3) := by decide +kernel
theorem gd_M_send_59 : decode F_M_send.2.1 59 = .ok (.sipush 9000, 3) := by decide +kernel
theorem gd_M_send_62 : decode F_M_send.2.1 62 = .ok (.iload_n 1, 1) := by decide +kernel
theorem gd_M_send_63 : decode F_M_send.2.1 63 = .ok (.imul, 1) := by decide +kernel
theorem gd_M_send_64 : decode F_M_send.2.1 64 = .ok (.iload_n 2, 1) := by decide +kernel
theorem gd_M_send_65 : decode F_M_send.2.1 65 = .ok (.iadd, 1) := by decide +kernel
theorem gd_M_send_66 : decode F_M_send.2.1 66 = .ok (.iconst 1, 1) := by decide +kernel
theorem gd_M_send_67 : decode F_M_send.2.1 67 = .ok (.isub, 1) := by decide +kernel
theorem gd_M_send_68 : decode F_M_send.2.1 68 = .ok (.iaload, 1) := by decide +kernel
theorem gd_M_send_69 : decode F_M_send.2.1 69 = .ok (.iastore, 1) := by decide +kernel
theorem gd_M_send_70 : decode F_M_send.2.1 70 = .ok (.aload_n 0, 1) := by decide +kernel
theorem gd_M_send_71 : decode F_M_send.2.1 71 = .ok (.getfield 87, 3) := by decide +kernel
theorem gd_M_send_74 : decode F_M_send.2.1 74 = .ok (.aload_n 0, 1) := by decide +kernel
theorem gd_M_send_75 : decode F_M_send.2.1 75 = .ok (.getfield 112, 3) := by decide +kernel
theorem gd_M_send_78 : decode F_M_send.2.1 78 = .ok (.aload_n 0, 1) := by decide +kernel
theorem gd_M_send_79 : decode F_M_send.2.1 79 = .ok (.getfield 60, 3) := by decide +kernel
theorem gd_M_send_82 : decode F_M_send.2.1 82 = .ok (.sipush 9000, 3) := by decide +kernel
theorem gd_M_send_85 : decode F_M_send.2.1 85 = .ok (.iload_n 1, 1) := by decide +kernel
theorem gd_M_send_86 : decode F_M_send.2.1 86 = .ok (.imul, 1) := by decide +kernel
theorem gd_M_send_87 : decode F_M_send.2.1 87 = .ok (.iload_n 2, 1) := by decide +kernel
theorem gd_M_send_88 : decode F_M_send.2.1 88 = .ok (.iadd, 1) := by decide +kernel
theorem gd_M_send_89 : decode F_M_send.2.1 89 = .ok (.iconst 1, 1) := by decide +kernel
theorem gd_M_send_90 : decode F_M_send.2.1 90 = .ok (.isub, 1) := by decide +kernel
theorem gd_M_send_91 : decode F_M_send.2.1 91 = .ok (.iaload, 1) := by decide +kernel
theorem gd_M_send_92 : decode F_M_send.2.1 92 = .ok (.iastore, 1) := by decide +kernel
theorem gd_M_send_93 : decode F_M_send.2.1 93 = .ok (.aload_n 0, 1) := by decide +kernel
theorem gd_M_send_94 : decode F_M_send.2.1 94 = .ok (.dup, 1) := by decide +kernel
theorem gd_M_send_95 : decode F_M_send.2.1 95 = .ok (.getfield 112, 3) := by decide +kernel
theorem gd_M_send_98 : decode F_M_send.2.1 98 = .ok (.iconst 1, 1) := by decide +kernel
theorem gd_M_send_99 : decode F_M_send.2.1 99 = .ok (.iadd, 1) := by decide +kernel
theorem gd_M_send_100 : decode F_M_send.2.1 100 = .ok (.putfield 112, 3) := by decide +kernel
theorem gd_M_send_103 : decode F_M_send.2.1 103 = .ok (.iconst 1, 1) := by decide +kernel
theorem gd_M_send_104 : decode F_M_send.2.1 104 = .ok (.ireturn, 1) := by decide +kernel
theorem gd_M_set_0 : decode F_M_set.2.1 0 = .ok (.aload_n 0, 1) := by decide +kernel
theorem gd_M_set_1 : decode F_M_set.2.1 1 = .ok (.getfield 44, 3) := by decide +kernel
theorem gd_M_set_4 : decode F_M_set.2.1 4 = .ok (.bipush 40, 2) := by decide +kernel
theorem gd_M_set_6 : decode F_M_set.2.1 6 = .ok (.iload_n 1, 1) := by decide +kernel
theorem gd_M_set_7 : decode F_M_set.2.1 7 = .ok (.imul, 1) := by decide +kernel
theorem gd_M_set_8 : decode F_M_set.2.1 8 = .ok (.iload_n 2, 1) := by decide +kernel
theorem gd_M_set_9 : decode F_M_set.2.1 9 = .ok (.iadd, 1) := by decide +kernel
theorem gd_M_set_10 : decode F_M_set.2.1 10 = .ok (.iload_n 3, 1) := by decide +kernel
theorem gd_M_set_11 : decode F_M_set.2.1 11 = .ok (.iastore, 1) := by decide +kernel
theorem gd_M_set_12 : decode F_M_set.2.1 12 = .ok (.aload_n 0, 1) := by decide +kernel
theorem gd_M_set_13 : decode F_M_set.2.1 13 = .ok (.getfield 47, 3) := by decide +kernel
theorem gd_M_set_16 : decode F_M_set.2.1 16 = .ok (.bipush 40, 2) := by decide +kernel
theorem gd_M_set_18 : decode F_M_set.2.1 18 = .ok (.iload_n 1, 1) := by decide +kernel
theorem gd_M_set_19 : decode F_M_set.2.1 19 = .ok (.imul, 1) := by decide +kernel
theorem gd_M_set_20 : decode F_M_set.2.1 20 = .ok (.iload_n 2, 1) := by decide +kernel
theorem gd_M_set_21 : decode F_M_set.2.1 21 = .ok (.iadd, 1) := by decide +kernel
theorem gd_M_set_22 : decode F_M_set.2.1 22 = .ok (.iload_n 3, 1) := by decide +kernel
theorem gd_M_set_23 : decode F_M_set.2.1 23 = .ok (.ifCond .ne 7, 3) := by decide +kernel
theorem gd_M_set_26 : decode F_M_set.2.1 26 = .ok (.iconst (-1), 1) := by decide +kernel
theorem gd_M_set_27 : decode F_M_set.2.1 27 = .ok (.goto 5, 3) := by decide +kernel
theorem gd_M_set_30 : decode F_M_set.2.1 30 = .ok (.iload 4, 2) := by decide +kernel
theorem gd_M_set_32 : decode F_M_set.2.1 32 = .ok (.iastore, 1) := by decide +kernel
theorem gd_M_set_33 : decode F_M_set.2.1 33 = .ok (.aload_n 0, 1) := by decide +kernel
theorem gd_M_set_34 : decode F_M_set.2.1 34 = .ok (.getfield 38, 3) := by decide +kernel
theorem gd_M_set_37 : decode F_M_set.2.1 37 = .ok (.iload_n 1, 1) := by decide +kernel
theorem gd_M_set_38 : decode F_M_set.2.1 38 = .ok (.iaload, 1) := by decide +kernel
theorem gd_M_set_39 : decode F_M_set.2.1 39 = .ok (.ifCond .lt 10, 3) := by decide +kernel
theorem gd_M_set_42 : decode F_M_set.2.1 42 = .ok (.aload_n 0, 1) := by decide +kernel
theorem gd_M_set_43 : decode F_M_set.2.1 43 = .ok (.iload_n 1, 1) := by decide +kernel
theorem gd_M_set_44 : decode F_M_set.2.1 44 = .ok (.iload_n 2, 1) := by decide +kernel
theorem gd_M_set_45 : decode F_M_set.2.1 45 = .ok (.iload_n 3, 1) := by decide +kernel
theorem gd_M_set_46 : decode F_M_set.2.1 46 = .ok (.invokevirtual 123, 3) := by decide +kernel
theorem gd_M_set_49 : decode F_M_set.2.1 49 = .ok (.return_, 1) := by decide +kernel
theorem gd_M_setsFirst_0 : decode F_M_setsFirst.2.1 0 = .ok (.sipush 2000, 3) := by decide +kernel
theorem gd_M_setsFirst_3 : decode F_M_setsFirst.2.1 3 = .ok (.iload_n 2, 1) := by decide +kernel
theorem gd_M_setsFirst_4 : decode F_M_setsFirst.2.1 4 = .ok (.imul, 1) := by decide +kernel
theorem gd_M_setsFirst_5 : decode F_M_setsFirst.2.1 5 = .ok (.istore_n 3, 1) := by decide +kernel
theorem gd_M_setsFirst_6 : decode F_M_setsFirst.2.1 6 = .ok (.aload_n 0, 1) := by decide +kernel
theorem gd_M_setsFirst_7 : decode F_M_setsFirst.2.1 7 = .ok (.getfield 66, 3) := by decide +kernel
theorem gd_M_setsFirst_10 : decode F_M_setsFirst.2.1 10 = .ok (.iload_n 2, 1) := by decide +kernel
theorem gd_M_setsFirst_11 : decode F_M_setsFirst.2.1 11 = .ok (.iaload, 1) := by decide +kernel
theorem gd_M_setsFirst_12 : decode F_M_setsFirst.2.1 12 = .ok (.ifCond .eq 18, 3) := by decide +kernel
theorem gd_M_setsFirst_15 : decode F_M_setsFirst.2.1 15 = .ok (.aload_n 0, 1) := by decide +kernel
theorem gd_M_setsFirst_16 : decode F_M_setsFirst.2.1 16 = .ok (.iload_n 1, 1) := by decide +kernel
theorem gd_M_setsFirst_17 : decode F_M_setsFirst.2.1 17 = .ok (.aload_n 0, 1) := by decide +kernel
theorem gd_M_setsFirst_18 : decode F_M_setsFirst.2.1 18 = .ok (.getfield 69, 3) := by decide +kernel
theorem gd_M_setsFirst_21 : decode F_M_setsFirst.2.1 21 = .ok (.iload_n 3, 1) := by decide +kernel
theorem gd_M_setsFirst_22 : decode F_M_setsFirst.2.1 22 = .ok (.iaload, 1) := by decide +kernel
theorem gd_M_setsFirst_23 : decode F_M_setsFirst.2.1 23 = .ok (.iload_n 2, 1) := by decide +kernel
theorem gd_M_setsFirst_24 : decode F_M_setsFirst.2.1 24 = .ok (.invokevirtual 131, 3) := by decide +kernel
theorem gd_M_setsFirst_27 : decode F_M_setsFirst.2.1 27 = .ok (.ifCond .ne 5, 3) := by decide +kernel
theorem gd_M_setsFirst_30 : decode F_M_setsFirst.2.1 30 = .ok (.iconst 0, 1) := by decide +kernel
theorem gd_M_setsFirst_31 : decode F_M_setsFirst.2.1 31 = .ok (.ireturn, 1) := by decide +kernel
theorem gd_M_setsFirst_32 : decode F_M_setsFirst.2.1 32 = .ok (.aload_n 0, 1) := by decide +kernel
theorem gd_M_setsFirst_33 : decode F_M_setsFirst.2.1 33 = .ok (.getfield 69, 3) := by decide +kernel
theorem gd_M_setsFirst_36 : decode F_M_setsFirst.2.1 36 = .ok (.iload_n 3, 1) := by decide +kernel
theorem gd_M_setsFirst_37 : decode F_M_setsFirst.2.1 37 = .ok (.iaload, 1) := by decide +kernel
theorem gd_M_setsFirst_38 : decode F_M_setsFirst.2.1 38 = .ok (.istore 4, 2) := by decide +kernel
theorem gd_M_setsFirst_40 : decode F_M_setsFirst.2.1 40 = .ok (.aload_n 0, 1) := by decide +kernel
theorem gd_M_setsFirst_41 : decode F_M_setsFirst.2.1 41 = .ok (.getfield 72, 3) := by decide +kernel
theorem gd_M_setsFirst_44 : decode F_M_setsFirst.2.1 44 = .ok (.iload_n 3, 1) := by decide +kernel
theorem gd_M_setsFirst_45 : decode F_M_setsFirst.2.1 45 = .ok (.iaload, 1) := by decide +kernel
theorem gd_M_setsFirst_46 : decode F_M_setsFirst.2.1 46 = .ok (.istore 5, 2) := by decide +kernel
theorem gd_M_setsFirst_48 : decode F_M_setsFirst.2.1 48 = .ok (.aload_n 0, 1) := by decide +kernel
theorem gd_M_setsFirst_49 : decode F_M_setsFirst.2.1 49 = .ok (.getfield 66, 3) := by decide +kernel
theorem gd_M_setsFirst_52 : decode F_M_setsFirst.2.1 52 = .ok (.iload_n 2, 1) := by decide +kernel
theorem gd_M_setsFirst_53 : decode F_M_setsFirst.2.1 53 = .ok (.dup2, 1) := by decide +kernel
theorem gd_M_setsFirst_54 : decode F_M_setsFirst.2.1 54 = .ok (.iaload, 1) := by decide +kernel
theorem gd_M_setsFirst_55 : decode F_M_setsFirst.2.1 55 = .ok (.iconst 1, 1) := by decide +kernel
theorem gd_M_setsFirst_56 : decode F_M_setsFirst.2.1 56 = .ok (.isub, 1) := by decide +kernel
theorem gd_M_setsFirst_57 : decode F_M_setsFirst.2.1 57 = .ok (.iastore, 1) := by decide +kernel
theorem gd_M_setsFirst_58 : decode F_M_setsFirst.2.1 58 = .ok (.iload_n 3, 1) := by decide +kernel
theorem gd_M_setsFirst_59 : decode F_M_setsFirst.2.1 59 = .ok (.istore 6, 2) := by decide +kernel
theorem gd_M_setsFirst_61 : decode F_M_setsFirst.2.1 61 = .ok (.iload 6, 2) := by decide +kernel
theorem gd_M_setsFirst_63 : decode F_M_setsFirst.2.1 63 = .ok (.iload_n 3, 1) := by decide +kernel
theorem gd_M_setsFirst_64 : decode F_M_setsFirst.2.1 64 = .ok (.aload_n 0, 1) := by decide +kernel
theorem gd_M_setsFirst_65 : decode F_M_setsFirst.2.1 65 = .ok (.getfield 66, 3) := by decide +kernel
theorem gd_M_setsFirst_68 : decode F_M_setsFirst.2.1 68 = .ok (.iload_n 2, 1) := by decide +kernel
theorem gd_M_setsFirst_69 : decode F_M_setsFirst.2.1 69 = .ok (.iaload, 1) := by decide +kernel
theorem gd_M_setsFirst_70 : decode F_M_setsFirst.2.1 70 = .ok (.iadd, 1) := by decide +kernel
theorem gd_M_setsFirst_71 : decode F_M_setsFirst.2.1 71 = .ok (.if_icmp .ge 41, 3) := by decide +kernel
theorem gd_M_setsFirst_74 : decode F_M_setsFirst.2.1 74 = .ok (.aload_n 0, 1) := by decide +kernel
theorem gd_M_setsFirst_75 : decode F_M_setsFirst.2.1 75 = .ok (.getfield 69, 3) := by decide +kernel
theorem gd_M_setsFirst_78 : decode F_M_setsFirst.2.1 78 = .ok (.iload 6, 2) := by decide +kernel
theorem gd_M_setsFirst_80 : decode F_M_setsFirst.2.1 80 = .ok (.aload_n 0, 1) := by decide +kernel
theorem gd_M_setsFirst_81 : decode F_M_setsFirst.2.1 81 = .ok (.getfield 69, 3) := by decide +kernel
theorem gd_M_setsFirst_84 : decode F_M_setsFirst.2.1 84 = .ok (.iload 6, 2) := by decide +kernel
theorem gd_M_setsFirst_86 : decode F_M_setsFirst.2.1 86 = .ok (.iconst 1, 1) := by decide +kernel
theorem gd_M_setsFirst_87 : decode F_M_setsFirst.2.1 87 = .ok (.iadd, 1) := by decide +kernel
theorem gd_M_setsFirst_88 : decode F_M_setsFirst.2.1 88 = .ok (.iaload, 1) := by decide +kernel
theorem gd_M_setsFirst_89 : decode F_M_setsFirst.2.1 89 = .ok (.iastore, 1) := by decide +kernel
theorem gd_M_setsFirst_90 : decode F_M_setsFirst.2.1 90 = .ok (.aload_n 0, 1) := by decide +kernel
theorem gd_M_setsFirst_91 : decode F_M_setsFirst.2.1 91 = .ok (.getfield 72, 3) := by decide +kernel
theorem gd_M_setsFirst_94 : decode F_M_setsFirst.2.1 94 = .ok (.iload 6, 2) := by decide +kernel
theorem gd_M_setsFirst_96 : decode F_M_setsFirst.2.1 96 = .ok (.aload_n 0, 1) := by decide +kernel
theorem gd_M_setsFirst_97 : decode F_M_setsFirst.2.1 97 = .ok (.getfield 72, 3) := by decide +kernel
theorem gd_M_setsFirst_100 : decode F_M_setsFirst.2.1 100 = .ok (.iload 6, 2) := by decide +kernel
theorem gd_M_setsFirst_102 : decode F_M_setsFirst.2.1 102 = .ok (.iconst 1, 1) := by decide +kernel
theorem gd_M_setsFirst_103 : decode F_M_setsFirst.2.1 103 = .ok (.iadd, 1) := by decide +kernel
theorem gd_M_setsFirst_104 : decode F_M_setsFirst.2.1 104 = .ok (.iaload, 1) := by decide +kernel
theorem gd_M_setsFirst_105 : decode F_M_setsFirst.2.1 105 = .ok (.iastore, 1) := by decide +kernel
theorem gd_M_setsFirst_106 : decode F_M_setsFirst.2.1 106 = .ok (.iinc 6 1, 3) := by decide +kernel
theorem gd_M_setsFirst_109 : decode F_M_setsFirst.2.1 109 = .ok (.goto (-48), 3) := by decide +kernel
theorem gd_M_setsFirst_112 : decode F_M_setsFirst.2.1 112 = .ok (.aload_n 0, 1) := by decide +kernel
theorem gd_M_setsFirst_113 : decode F_M_setsFirst.2.1 113 = .ok (.iload_n 1, 1) := by decide +kernel
theorem gd_M_setsFirst_114 : decode F_M_setsFirst.2.1 114 = .ok (.iload 4, 2) := by decide +kernel
theorem gd_M_setsFirst_116 : decode F_M_setsFirst.2.1 116 = .ok (.iload 5, 2) := by decide +kernel
theorem gd_M_setsFirst_118 : decode F_M_setsFirst.2.1 118 = .ok (.iload_n 2, 1) := by decide +kernel
theorem gd_M_setsFirst_119 : decode F_M_setsFirst.2.1 119 = .ok (.invokevirtual 127, 3) := by decide +kernel
theorem gd_M_setsFirst_122 : decode F_M_setsFirst.2.1 122 = .ok (.iconst 1, 1) := by decide +kernel
theorem gd_M_setsFirst_123 : decode F_M_setsFirst.2.1 123 = .ok (.ireturn, 1) := by decide +kernel
theorem gd_M_setsOwn_0 : decode F_M_setsOwn.2.1 0 = .ok (.aload_n 0, 1) := by decide +kernel
theorem gd_M_setsOwn_1 : decode F_M_setsOwn.2.1 1 = .ok (.iload_n 1, 1) := by decide +kernel
theorem gd_M_setsOwn_2 : decode F_M_setsOwn.2.1 2 = .ok (.iload_n 2, 1) := by decide +kernel
theorem gd_M_setsOwn_3 : decode F_M_setsOwn.2.1 3 = .ok (.iload_n 1, 1) := by decide +kernel
theorem gd_M_setsOwn_4 : decode F_M_setsOwn.2.1 4 = .ok (.invokevirtual 131, 3) := by decide +kernel
theorem gd_M_setsOwn_7 : decode F_M_setsOwn.2.1 7 = .ok (.istore_n 3, 1) := by decide +kernel
theorem gd_M_setsOwn_8 : decode F_M_setsOwn.2.1 8 = .ok (.aload_n 0, 1) := by decide +kernel
theorem gd_M_setsOwn_9 : decode F_M_setsOwn.2.1 9 = .ok (.getfield 50, 3) := by decide +kernel
theorem gd_M_setsOwn_12 : decode F_M_setsOwn.2.1 12 = .ok (.bipush 40, 2) := by decide +kernel
theorem gd_M_setsOwn_14 : decode F_M_setsOwn.2.1 14 = .ok (.iload_n 1, 1) := by decide +kernel
theorem gd_M_setsOwn_15 : decode F_M_setsOwn.2.1 15 = .ok (.imul, 1) := by decide +kernel
theorem gd_M_setsOwn_16 : decode F_M_setsOwn.2.1 16 = .ok (.iload_n 2, 1) := by decide +kernel
theorem gd_M_setsOwn_17 : decode F_M_setsOwn.2.1 17 = .ok (.iadd, 1) := by decide +kernel
theorem gd_M_setsOwn_18 : decode F_M_setsOwn.2.1 18 = .ok (.iload_n 3, 1) := by decide +kernel
theorem gd_M_setsOwn_19 : decode F_M_setsOwn.2.1 19 = .ok (.ifCond .ne 7, 3) := by decide +kernel
theorem gd_M_setsOwn_22 : decode F_M_setsOwn.2.1 22 = .ok (.iconst 1, 1) := by decide +kernel
theorem gd_M_setsOwn_23 : decode F_M_setsOwn.2.1 23 = .ok (.goto 4, 3) := by decide +kernel
theorem gd_M_setsOwn_26 : decode F_M_setsOwn.2.1 26 = .ok (.iconst 0, 1) := by decide +kernel
theorem gd_M_setsOwn_27 : decode F_M_setsOwn.2.1 27 = .ok (.bastore, 1) := by decide +kernel
theorem gd_M_setsOwn_28 : decode F_M_setsOwn.2.1 28 = .ok (.iload_n 3, 1) := by decide +kernel
theorem gd_M_setsOwn_29 : decode F_M_setsOwn.2.1 29 = .ok (.ifCond .eq 16, 3) := by decide +kernel
theorem gd_M_setsOwn_32 : decode F_M_setsOwn.2.1 32 = .ok (.aload_n 0, 1) := by decide +kernel
theorem gd_M_setsOwn_33 : decode F_M_setsOwn.2.1 33 = .ok (.iload_n 1, 1) := by decide +kernel
theorem gd_M_setsOwn_34 : decode F_M_setsOwn.2.1 34 = .ok (.iload_n 2, 1) := by decide +kernel
theorem gd_M_setsOwn_35 : decode F_M_setsOwn.2.1 35 = .ok (.aload_n 0, 1) := by decide +kernel
theorem gd_M_setsOwn_36 : decode F_M_setsOwn.2.1 36 = .ok (.getfield 20, 3) := by decide +kernel
theorem gd_M_setsOwn_39 : decode F_M_setsOwn.2.1 39 = .ok (.iload_n 2, 1) := by decide +kernel
theorem gd_M_setsOwn_40 : decode F_M_setsOwn.2.1 40 = .ok (.iaload, 1) := by decide +kernel
theorem gd_M_setsOwn_41 : decode F_M_setsOwn.2.1 41 = .ok (.iload_n 1, 1) := by decide +kernel
theorem gd_M_setsOwn_42 : decode F_M_setsOwn.2.1 42 = .ok (.invokevirtual 127, 3) := by decide +kernel
theorem gd_M_setsOwn_45 : decode F_M_setsOwn.2.1 45 = .ok (.iload_n 3, 1) := by decide +kernel
theorem gd_M_setsOwn_46 : decode F_M_setsOwn.2.1 46 = .ok (.ireturn, 1) := by decide +kernel
theorem gd_M_sum_0 : decode F_M_sum.2.1 0 = .ok (.aload_n 0, 1) := by decide +kernel
theorem gd_M_sum_1 : decode F_M_sum.2.1 1 = .ok (.iload_n 1, 1) := by decide +kernel
theorem gd_M_sum_2 : decode F_M_sum.2.1 2 = .ok (.invokestatic 150, 3) := by decide +kernel
theorem gd_M_sum_5 : decode F_M_sum.2.1 5 = .ok (.ifCond .eq 16, 3) := by decide +kernel
theorem gd_M_sum_8 : decode F_M_sum.2.1 8 = .ok (.iload_n 2, 1) := by decide +kernel
theorem gd_M_sum_9 : decode F_M_sum.2.1 9 = .ok (.iconst 0, 1) := by decide +kernel
theorem gd_M_sum_10 : decode F_M_sum.2.1 10 = .ok (.iconst 5, 1) := by decide +kernel
theorem gd_M_sum_11 : decode F_M_sum.2.1 11 = .ok (.invokestatic 104, 3) := by decide +kernel
theorem gd_M_sum_14 : decode F_M_sum.2.1 14 = .ok (.ifCond .eq 7, 3) := by decide +kernel
theorem gd_M_sum_17 : decode F_M_sum.2.1 17 = .ok (.iconst 0, 1) := by decide +kernel
theorem gd_M_sum_18 : decode F_M_sum.2.1 18 = .ok (.goto 4, 3) := by decide +kernel
theorem gd_M_sum_21 : decode F_M_sum.2.1 21 = .ok (.iconst 1, 1) := by decide +kernel
theorem gd_M_sum_22 : decode F_M_sum.2.1 22 = .ok (.putfield 100, 3) := by decide +kernel
theorem gd_M_sum_25 : decode F_M_sum.2.1 25 = .ok (.aload_n 0, 1) := by decide +kernel
theorem gd_M_sum_26 : decode F_M_sum.2.1 26 = .ok (.getfield 100, 3) := by decide +kernel
theorem gd_M_sum_29 : decode F_M_sum.2.1 29 = .ok (.ifCond .le 5, 3) := by decide +kernel
theorem gd_M_sum_32 : decode F_M_sum.2.1 32 = .ok (.lconst 0, 1) := by decide +kernel
theorem gd_M_sum_33 : decode F_M_sum.2.1 33 = .ok (.lreturn, 1) := by decide +kernel
theorem gd_M_sum_34 : decode F_M_sum.2.1 34 = .ok (.aload_n 0, 1) := by decide +kernel
theorem gd_M_sum_35 : decode F_M_sum.2.1 35 = .ok (.iload_n 1, 1) := by decide +kernel
theorem gd_M_sum_36 : decode F_M_sum.2.1 36 = .ok (.iconst (-1), 1) := by decide +kernel
theorem gd_M_sum_37 : decode F_M_sum.2.1 37 = .ok (.invokevirtual 185, 3) := by decide +kernel
theorem gd_M_sum_40 : decode F_M_sum.2.1 40 = .ok (.aload_n 0, 1) := by decide +kernel
theorem gd_M_sum_41 : decode F_M_sum.2.1 41 = .ok (.getfield 90, 3) := by decide +kernel
theorem gd_M_sum_44 : decode F_M_sum.2.1 44 = .ok (.iload_n 2, 1) := by decide +kernel
theorem gd_M_sum_45 : decode F_M_sum.2.1 45 = .ok (.laload, 1) := by decide +kernel
theorem gd_M_sum_46 : decode F_M_sum.2.1 46 = .ok (.lreturn, 1) := by decide +kernel
theorem gd_M_sumUp_0 : decode F_M_sumUp.2.1 0 = .ok (.iconst 0, 1) := by decide +kernel
theorem gd_M_sumUp_1 : decode F_M_sumUp.2.1 1 = .ok (.istore_n 3, 1) := by decide +kernel
theorem gd_M_sumUp_2 : decode F_M_sumUp.2.1 2 = .ok (.iload_n 3, 1) := by decide +kernel
theorem gd_M_sumUp_3 : decode F_M_sumUp.2.1 3 = .ok (.bipush 6, 2) := by decide +kernel
theorem gd_M_sumUp_5 : decode F_M_sumUp.2.1 5 = .ok (.if_icmp .ge 16, 3) := by decide +kernel
theorem gd_M_sumUp_8 : decode F_M_sumUp.2.1 8 = .ok (.aload_n 0, 1) := by decide +kernel
theorem gd_M_sumUp_9 : decode F_M_sumUp.2.1 9 = .ok (.getfield 90, 3) := by decide +kernel
theorem gd_M_sumUp_12 : decode F_M_sumUp.2.1 12 = .ok (.iload_n 3, 1) := by decide +kernel
theorem gd_M_sumUp_13 : decode F_M_sumUp.2.1 13 = .ok (.lconst 0, 1) := by decide +kernel
theorem gd_M_sumUp_14 : decode F_M_sumUp.2.1 14 = .ok (.lastore, 1) := by decide +kernel
theorem gd_M_sumUp_15 : decode F_M_sumUp.2.1 15 = .ok (.iinc 3 1, 3) := by decide +kernel
theorem gd_M_sumUp_18 : decode F_M_sumUp.2.1 18 = .ok (.goto (-16), 3) := by decide +kernel
theorem gd_M_sumUp_21 : decode F_M_sumUp.2.1 21 = .ok (.iconst 0, 1) := by decide +kernel
theorem gd_M_sumUp_22 : decode F_M_sumUp.2.1 22 = .ok (.istore_n 3, 1) := by decide +kernel
theorem gd_M_sumUp_23 : decode F_M_sumUp.2.1 23 = .ok (.iload_n 3, 1) := by decide +kernel
theorem gd_M_sumUp_24 : decode F_M_sumUp.2.1 24 = .ok (.bipush 40, 2) := by decide +kernel
theorem gd_M_sumUp_26 : decode F_M_sumUp.2.1 26 = .ok (.if_icmp .ge 99, 3) := by decide +kernel
theorem gd_M_sumUp_29 : decode F_M_sumUp.2.1 29 = .ok (.bipush 40, 2) := by decide +kernel
theorem gd_M_sumUp_31 : decode F_M_sumUp.2.1 31 = .ok (.iload_n 1, 1) := by decide +kernel
theorem gd_M_sumUp_32 : decode F_M_sumUp.2.1 32 = .ok (.imul, 1) := by decide +kernel
theorem gd_M_sumUp_33 : decode F_M_sumUp.2.1 33 = .ok (.iload_n 3, 1) := by decide +kernel
theorem gd_M_sumUp_34 : decode F_M_sumUp.2.1 34 = .ok (.iadd, 1) := by decide +kernel
theorem gd_M_sumUp_35 : decode F_M_sumUp.2.1 35 = .ok (.istore 4, 2) := by decide +kernel
theorem gd_M_sumUp_37 : decode F_M_sumUp.2.1 37 = .ok (.aload_n 0, 1) := by decide +kernel
theorem gd_M_sumUp_38 : decode F_M_sumUp.2.1 38 = .ok (.getfield 44, 3) := by decide +kernel
theorem gd_M_sumUp_41 : decode F_M_sumUp.2.1 41 = .ok (.iload 4, 2) := by decide +kernel
theorem gd_M_sumUp_43 : decode F_M_sumUp.2.1 43 = .ok (.iaload, 1) := by decide +kernel
theorem gd_M_sumUp_44 : decode F_M_sumUp.2.1 44 = .ok (.ifCond .le 22, 3) := by decide +kernel
theorem gd_M_sumUp_47 : decode F_M_sumUp.2.1 47 = .ok (.iload_n 2, 1) := by decide +kernel
theorem gd_M_sumUp_48 : decode F_M_sumUp.2.1 48 = .ok (.ifCond .lt 14, 3) := by decide +kernel
theorem gd_M_sumUp_51 : decode F_M_sumUp.2.1 51 = .ok (.aload_n 0, 1) := by decide +kernel
theorem gd_M_sumUp_52 : decode F_M_sumUp.2.1 52 = .ok (.getfield 47, 3) := by decide +kernel
theorem gd_M_sumUp_55 : decode F_M_sumUp.2.1 55 = .ok (.iload 4, 2) := by decide +kernel
theorem gd_M_sumUp_57 : decode F_M_sumUp.2.1 57 = .ok (.iaload, 1) := by decide +kernel
theorem gd_M_sumUp_58 : decode F_M_sumUp.2.1 58 = .ok (.iload_n 2, 1) := by decide +kernel
theorem gd_M_sumUp_59 : decode F_M_sumUp.2.1 59 = .ok (.if_icmp .ne 7, 3) := by decide +kernel
theorem gd_M_sumUp_62 : decode F_M_sumUp.2.1 62 = .ok (.iconst 1, 1) := by decide +kernel
theorem gd_M_sumUp_63 : decode F_M_sumUp.2.1 63 = .ok (.goto 4, 3) := by decide +kernel
theorem gd_M_sumUp_66 : decode F_M_sumUp.2.1 66 = .ok (.iconst 0, 1) := by decide +kernel
theorem gd_M_sumUp_67 : decode F_M_sumUp.2.1 67 = .ok (.istore 5, 2) := by decide +kernel
theorem gd_M_sumUp_69 : decode F_M_sumUp.2.1 69 = .ok (.iconst 0, 1) := by decide +kernel
theorem gd_M_sumUp_70 : decode F_M_sumUp.2.1 70 = .ok (.istore 6, 2) := by decide +kernel
theorem gd_M_sumUp_72 : decode F_M_sumUp.2.1 72 = .ok (.iload 6, 2) := by decide +kernel
theorem gd_M_sumUp_74 : decode F_M_sumUp.2.1 74 = .ok (.bipush 6, 2) := by decide +kernel
theorem gd_M_sumUp_76 : decode F_M_sumUp.2.1 76 = .ok (.if_icmp .ge 43, 3) := by decide +kernel
theorem gd_M_sumUp_79 : decode F_M_sumUp.2.1 79 = .ok (.iload 5, 2) := by decide +kernel
theorem gd_M_sumUp_81 : decode F_M_sumUp.2.1 81 = .ok (.ifCond .eq 38, 3) := by decide +kernel
theorem gd_M_sumUp_84 : decode F_M_sumUp.2.1 84 = .ok (.aload_n 0, 1) := by decide +kernel
theorem gd_M_sumUp_85 : decode F_M_sumUp.2.1 85 = .ok (.getfield 90, 3) := by decide +kernel
theorem gd_M_sumUp_88 : decode F_M_sumUp.2.1 88 = .ok (.iload 6, 2) := by decide +kernel
theorem gd_M_sumUp_90 : decode F_M_sumUp.2.1 90 = .ok (.dup2, 1) := by decide +kernel
theorem gd_M_sumUp_91 : decode F_M_sumUp.2.1 91 = .ok (.laload, 1) := by decide +kernel
theorem gd_M_sumUp_92 : decode F_M_sumUp.2.1 92 = .ok (.aload_n 0, 1) := by decide +kernel
theorem gd_M_sumUp_93 : decode F_M_sumUp.2.1 93 = .ok (.getfield 26, 3) := by decide +kernel
theorem gd_M_sumUp_96 : decode F_M_sumUp.2.1 96 = .ok (.bipush 6, 2) := by decide +kernel
theorem gd_M_sumUp_98 : decode F_M_sumUp.2.1 98 = .ok (.aload_n 0, 1) := by decide +kernel
theorem gd_M_sumUp_99 : decode F_M_sumUp.2.1 99 = .ok (.getfield 44, 3) := by decide +kernel
theorem gd_M_sumUp_102 : decode F_M_sumUp.2.1 102 = .ok (.iload 4, 2) := by decide +kernel
theorem gd_M_sumUp_104 : decode F_M_sumUp.2.1 104 = .ok (.iaload, 1) := by decide +kernel
theorem gd_M_sumUp_105 : decode F_M_sumUp.2.1 105 = .ok (.imul, 1) := by decide +kernel
theorem gd_M_sumUp_106 : decode F_M_sumUp.2.1 106 = .ok (.iload 6, 2) := by decide +kernel
theorem gd_M_sumUp_108 : decode F_M_sumUp.2.1 108 = .ok (.iadd, 1) := by decide +kernel
theorem gd_M_sumUp_109 : decode F_M_sumUp.2.1 109 = .ok (.iaload, 1) := by decide +kernel
theorem gd_M_sumUp_110 : decode F_M_sumUp.2.1 110 = .ok (.i2l, 1) := by decide +kernel
theorem gd_M_sumUp_111 : decode F_M_sumUp.2.1 111 = .ok (.ladd, 1) := by decide +kernel
theorem gd_M_sumUp_112 : decode F_M_sumUp.2.1 112 = .ok (.lastore, 1) := by decide +kernel
theorem gd_M_sumUp_113 : decode F_M_sumUp.2.1 113 = .ok (.iinc 6 1, 3) := by decide +kernel
theorem gd_M_sumUp_116 : decode F_M_sumUp.2.1 116 = .ok (.goto (-44), 3) := by decide +kernel
theorem gd_M_sumUp_119 : decode F_M_sumUp.2.1 119 = .ok (.iinc 3 1, 3) := by decide +kernel
theorem gd_M_sumUp_122 : decode F_M_sumUp.2.1 122 = .ok (.goto (-99), 3) := by decide +kernel
theorem gd_M_sumUp_125 : decode F_M_sumUp.2.1 125 = .ok (.return_, 1) := by decide +kernel
theorem gd_M_takeAway_0 : decode F_M_takeAway.2.1 0 = .ok (.aload_n 0, 1) := by decide +kernel
theorem gd_M_takeAway_1 : decode F_M_takeAway.2.1 1 = .ok (.getfield 38, 3) := by decide +kernel
theorem gd_M_takeAway_4 : decode F_M_takeAway.2.1 4 = .ok (.iload_n 1, 1) := by decide +kernel
theorem gd_M_takeAway_5 : decode F_M_takeAway.2.1 5 = .ok (.iaload, 1) := by decide +kernel
theorem gd_M_takeAway_6 : decode F_M_takeAway.2.1 6 = .ok (.istore_n 2, 1) := by decide +kernel
theorem gd_M_takeAway_7 : decode F_M_takeAway.2.1 7 = .ok (.iload_n 2, 1) := by decide +kernel
theorem gd_M_takeAway_8 : decode F_M_takeAway.2.1 8 = .ok (.ifCond .ge 4, 3) := by decide +kernel
theorem gd_M_takeAway_11 : decode F_M_takeAway.2.1 11 = .ok (.return_, 1) := by decide +kernel
theorem gd_M_takeAway_12 : decode F_M_takeAway.2.1 12 = .ok (.aload_n 0, 1) := by decide +kernel
theorem gd_M_takeAway_13 : decode F_M_takeAway.2.1 13 = .ok (.iload_n 1, 1) := by decide +kernel
theorem gd_M_takeAway_14 : decode F_M_takeAway.2.1 14 = .ok (.invokevirtual 147, 3) := by decide +kernel
theorem gd_M_takeAway_17 : decode F_M_takeAway.2.1 17 = .ok (.iconst 0, 1) := by decide +kernel
theorem gd_M_takeAway_18 : decode F_M_takeAway.2.1 18 = .ok (.istore_n 3, 1) := by decide +kernel
theorem gd_M_takeAway_19 : decode F_M_takeAway.2.1 19 = .ok (.iload_n 3, 1) := by decide +kernel
theorem gd_M_takeAway_20 : decode F_M_takeAway.2.1 20 = .ok (.bipush 40, 2) := by decide +kernel
theorem gd_M_takeAway_22 : decode F_M_takeAway.2.1 22 = .ok (.if_icmp .ge 16, 3) := by decide +kernel
theorem gd_M_takeAway_25 : decode F_M_takeAway.2.1 25 = .ok (.aload_n 0, 1) := by decide +kernel
theorem gd_M_takeAway_26 : decode F_M_takeAway.2.1 26 = .ok (.iload_n 2, 1) := by decide +kernel
theorem gd_M_takeAway_27 : decode F_M_takeAway.2.1 27 = .ok (.iload_n 3, 1) := by decide +kernel
theorem gd_M_takeAway_28 : decode F_M_takeAway.2.1 28 = .ok (.iload_n 1, 1) := by decide +kernel
theorem gd_M_takeAway_29 : decode F_M_takeAway.2.1 29 = .ok (.invokevirtual 140, 3) := by decide +kernel
theorem gd_M_takeAway_32 : decode F_M_takeAway.2.1 32 = .ok (.iinc 3 1, 3) := by decide +kernel
theorem gd_M_takeAway_35 : decode F_M_takeAway.2.1 35 = .ok (.goto (-16), 3) := by decide +kernel
theorem gd_M_takeAway_38 : decode F_M_takeAway.2.1 38 = .ok (.aload_n 0, 1) := by decide +kernel
theorem gd_M_takeAway_39 : decode F_M_takeAway.2.1 39 = .ok (.iload_n 2, 1) := by decide +kernel
theorem gd_M_takeAway_40 : decode F_M_takeAway.2.1 40 = .ok (.invokevirtual 143, 3) := by decide +kernel
theorem gd_M_takeAway_43 : decode F_M_takeAway.2.1 43 = .ok (.return_, 1) := by decide +kernel
theorem gd_M_takeChange_0 : decode F_M_takeChange.2.1 0 = .ok (.sipush 2000, 3) := by decide +kernel
theorem gd_M_takeChange_3 : decode F_M_takeChange.2.1 3 = .ok (.iload_n 2, 1) := by decide +kernel
theorem gd_M_takeChange_4 : decode F_M_takeChange.2.1 4 = .ok (.imul, 1) := by decide +kernel
theorem gd_M_takeChange_5 : decode F_M_takeChange.2.1 5 = .ok (.istore 5, 2) := by decide +kernel
theorem gd_M_takeChange_7 : decode F_M_takeChange.2.1 7 = .ok (.iload 4, 2) := by decide +kernel
theorem gd_M_takeChange_9 : decode F_M_takeChange.2.1 9 = .ok (.ifCond .le 76, 3) := by decide +kernel
theorem gd_M_takeChange_12 : decode F_M_takeChange.2.1 12 = .ok (.aload_n 0, 1) := by decide +kernel
theorem gd_M_takeChange_13 : decode F_M_takeChange.2.1 13 = .ok (.getfield 66, 3) := by decide +kernel
theorem gd_M_takeChange_16 : decode F_M_takeChange.2.1 16 = .ok (.iload_n 2, 1) := by decide +kernel
theorem gd_M_takeChange_17 : decode F_M_takeChange.2.1 17 = .ok (.iaload, 1) := by decide +kernel
theorem gd_M_takeChange_18 : decode F_M_takeChange.2.1 18 = .ok (.ifCond .ne 25, 3) := by decide +kernel
theorem gd_M_takeChange_21 : decode F_M_takeChange.2.1 21 = .ok (.aload_n 0, 1) := by decide +kernel
theorem gd_M_takeChange_22 : decode F_M_takeChange.2.1 22 = .ok (.iload_n 1, 1) := by decide +kernel
theorem gd_M_takeChange_23 : decode F_M_takeChange.2.1 23 = .ok (.iload_n 3, 1) := by decide +kernel
theorem gd_M_takeChange_24 : decode F_M_takeChange.2.1 24 = .ok (.iload_n 2, 1) := by decide +kernel
theorem gd_M_takeChange_25 : decode F_M_takeChange.2.1 25 = .ok (.invokevirtual 131, 3) := by decide +kernel
theorem gd_M_takeChange_28 : decode F_M_takeChange.2.1 28 = .ok (.ifCond .eq 15, 3) := by decide +kernel
theorem gd_M_takeChange_31 : decode F_M_takeChange.2.1 31 = .ok (.aload_n 0, 1) := by decide +kernel
theorem gd_M_takeChange_32 : decode F_M_takeChange.2.1 32 = .ok (.iload_n 1, 1) := by decide +kernel
theorem gd_M_takeChange_33 : decode F_M_takeChange.2.1 33 = .ok (.iload_n 3, 1) := by decide +kernel
theorem gd_M_takeChange_34 : decode F_M_takeChange.2.1 34 = .ok (.iload 4, 2) := by decide +kernel
theorem gd_M_takeChange_36 : decode F_M_takeChange.2.1 36 = .ok (.iload_n 2, 1) := by decide +kernel
theorem gd_M_takeChange_37 : decode F_M_takeChange.2.1 37 = .ok (.invokevirtual 127, 3) := by decide +kernel
theorem gd_M_takeChange_40 : decode F_M_takeChange.2.1 40 = .ok (.goto 44, 3) := by decide +kernel
theorem gd_M_takeChange_43 : decode F_M_takeChange.2.1 43 = .ok (.aload_n 0, 1) := by decide +kernel
theorem gd_M_takeChange_44 : decode F_M_takeChange.2.1 44 = .ok (.getfield 69, 3) := by decide +kernel
theorem gd_M_takeChange_47 : decode F_M_takeChange.2.1 47 = .ok (.iload 5, 2) := by decide +kernel
theorem gd_M_takeChange_49 : decode F_M_takeChange.2.1 49 = .ok (.aload_n 0, 1) := by decide +kernel
theorem gd_M_takeChange_50 : decode F_M_takeChange.2.1 50 = .ok (.getfield 66, 3) := by decide +kernel
theorem gd_M_takeChange_53 : decode F_M_takeChange.2.1 53 = .ok (.iload_n 2, 1) := by decide +kernel
theorem gd_M_takeChange_54 : decode F_M_takeChange.2.1 54 = .ok (.iaload, 1) := by decide +kernel
theorem gd_M_takeChange_55 : decode F_M_takeChange.2.1 55 = .ok (.iadd, 1) := by decide +kernel
theorem gd_M_takeChange_56 : decode F_M_takeChange.2.1 56 = .ok (.iload_n 3, 1) := by decide +kernel
theorem gd_M_takeChange_57 : decode F_M_takeChange.2.1 57 = .ok (.iastore, 1) := by decide +kernel
theorem gd_M_takeChange_58 : decode F_M_takeChange.2.1 58 = .ok (.aload_n 0, 1) := by decide +kernel
theorem gd_M_takeChange_59 : decode F_M_takeChange.2.1 59 = .ok (.getfield 72, 3) := by decide +kernel
theorem gd_M_takeChange_62 : decode F_M_takeChange.2.1 62 = .ok (.iload 5, 2) := by decide +kernel
theorem gd_M_takeChange_64 : decode F_M_takeChange.2.1 64 = .ok (.aload_n 0, 1) := by decide +kernel
theorem gd_M_takeChange_65 : decode F_M_takeChange.2.1 65 = .ok (.getfield 66, 3) := by decide +kernel
theorem gd_M_takeChange_68 : decode F_M_takeChange.2.1 68 = .ok (.iload_n 2, 1) := by decide +kernel
theorem gd_M_takeChange_69 : decode F_M_takeChange.2.1 69 = .ok (.iaload, 1) := by decide +kernel
theorem gd_M_takeChange_70 : decode F_M_takeChange.2.1 70 = .ok (.iadd, 1) := by decide +kernel
theorem gd_M_takeChange_71 : decode F_M_takeChange.2.1 71 = .ok (.iload 4, 2) := by decide +kernel
theorem gd_M_takeChange_73 : decode F_M_takeChange.2.1 73 = .ok (.iastore, 1) := by decide +kernel
theorem gd_M_takeChange_74 : decode F_M_takeChange.2.1 74 = .ok (.aload_n 0, 1) := by decide +kernel
theorem gd_M_takeChange_75 : decode F_M_takeChange.2.1 75 = .ok (.getfield 66, 3) := by decide +kernel
theorem gd_M_takeChange_78 : decode F_M_takeChange.2.1 78 = .ok (.iload_n 2, 1) := by decide +kernel
theorem gd_M_takeChange_79 : decode F_M_takeChange.2.1 79 = .ok (.dup2, 1) := by decide +kernel
theorem gd_M_takeChange_80 : decode F_M_takeChange.2.1 80 = .ok (.iaload, 1) := by decide +kernel
theorem gd_M_takeChange_81 : decode F_M_takeChange.2.1 81 = .ok (.iconst 1, 1) := by decide +kernel
theorem gd_M_takeChange_82 : decode F_M_takeChange.2.1 82 = .ok (.iadd, 1) := by decide +kernel
theorem gd_M_takeChange_83 : decode F_M_takeChange.2.1 83 = .ok (.iastore, 1) := by decide +kernel
theorem gd_M_takeChange_84 : decode F_M_takeChange.2.1 84 = .ok (.return_, 1) := by decide +kernel
theorem gd_M_takeChange_85 : decode F_M_takeChange.2.1 85 = .ok (.iconst 0, 1) := by decide +kernel
theorem gd_M_takeChange_86 : decode F_M_takeChange.2.1 86 = .ok (.istore 6, 2) := by decide +kernel
theorem gd_M_takeChange_88 : decode F_M_takeChange.2.1 88 = .ok (.iload 5, 2) := by decide +kernel
theorem gd_M_takeChange_90 : decode F_M_takeChange.2.1 90 = .ok (.istore 7, 2) := by decide +kernel
theorem gd_M_takeChange_92 : decode F_M_takeChange.2.1 92 = .ok (.iload 7, 2) := by decide +kernel
theorem gd_M_takeChange_94 : decode F_M_takeChange.2.1 94 = .ok (.iload 5, 2) := by decide +kernel
theorem gd_M_takeChange_96 : decode F_M_takeChange.2.1 96 = .ok (.aload_n 0, 1) := by decide +kernel
theorem gd_M_takeChange_97 : decode F_M_takeChange.2.1 97 = .ok (.getfield 66, 3) := by decide +kernel
theorem gd_M_takeChange_100 : decode F_M_takeChange.2.1 100 = .ok (.iload_n 2, 1) := by decide +kernel
theorem gd_M_takeChange_101 : decode F_M_takeChange.2.1 101 = .ok (.iaload, 1) := by decide +kernel
theorem gd_M_takeChange_102 : decode F_M_takeChange.2.1 102 = .ok (.iadd, 1) := by decide +kernel
theorem gd_M_takeChange_103 : decode F_M_takeChange.2.1 103 = .ok (.if_icmp .ge 57, 3) := by decide +kernel
theorem gd_M_takeChange_106 : decode F_M_takeChange.2.1 106 = .ok (.aload_n 0, 1) := by decide +kernel
theorem gd_M_takeChange_107 : decode F_M_takeChange.2.1 107 = .ok (.getfield 69, 3) := by decide +kernel
theorem gd_M_takeChange_110 : decode F_M_takeChange.2.1 110 = .ok (.iload 7, 2) := by decide +kernel
theorem gd_M_takeChange_112 : decode F_M_takeChange.2.1 112 = .ok (.iaload, 1) := by decide +kernel
theorem gd_M_takeChange_113 : decode F_M_takeChange.2.1 113 = .ok (.iload_n 3, 1) := by decide +kernel
theorem gd_M_takeChange_114 : decode F_M_takeChange.2.1 114 = .ok (.if_icmp .eq 40, 3) := by decide +kernel
theorem gd_M_takeChange_117 : decode F_M_takeChange.2.1 117 = .ok (.aload_n 0, 1) := by decide +kernel
theorem gd_M_takeChange_118 : decode F_M_takeChange.2.1 118 = .ok (.getfield 69, 3) := by decide +kernel
theorem gd_M_takeChange_121 : decode F_M_takeChange.2.1 121 = .ok (.iload 5, 2) := by decide +kernel
theorem gd_M_takeChange_123 : decode F_M_takeChange.2.1 123 = .ok (.iload 6, 2) := by decide +kernel
theorem gd_M_takeChange_125 : decode F_M_takeChange.2.1 125 = .ok (.iadd, 1) := by decide +kernel
theorem gd_M_takeChange_126 : decode F_M_takeChange.2.1 126 = .ok (.aload_n 0, 1) := by decide +kernel
theorem gd_M_takeChange_127 : decode F_M_takeChange.2.1 127 = .ok (.getfield 69, 3) := by decide +kernel
theorem gd_M_takeChange_130 : decode F_M_takeChange.2.1 130 = .ok (.iload 7, 2) := by decide +kernel
theorem gd_M_takeChange_132 : decode F_M_takeChange.2.1 132 = .ok (.iaload, 1) := by decide +kernel
theorem gd_M_takeChange_133 : decode F_M_takeChange.2.1 133 = .ok (.iastore, 1) := by decide +kernel
theorem gd_M_takeChange_134 : decode F_M_takeChange.2.1 134 = .ok (.aload_n 0, 1) := by decide +kernel
theorem gd_M_takeChange_135 : decode F_M_takeChange.2.1 135 = .ok (.getfield 72, 3) := by decide +kernel
theorem gd_M_takeChange_138 : decode F_M_takeChange.2.1 138 = .ok (.iload 5, 2) := by decide +kernel
theorem gd_M_takeChange_140 : decode F_M_takeChange.2.1 140 = .ok (.iload 6, 2) := by decide +kernel
theorem gd_M_takeChange_142 : decode F_M_takeChange.2.1 142 = .ok (.iadd, 1) := by decide +kernel
theorem gd_M_takeChange_143 : decode F_M_takeChange.2.1 143 = .ok (.aload_n 0, 1) := by decide +kernel
theorem gd_M_takeChange_144 : decode F_M_takeChange.2.1 144 = .ok (.getfield 72, 3) := by decide +kernel
theorem gd_M_takeChange_147 : decode F_M_takeChange.2.1 147 = .ok (.iload 7, 2) := by decide +kernel
theorem gd_M_takeChange_149 : decode F_M_takeChange.2.1 149 = .ok (.iaload, 1) := by decide +kernel
theorem gd_M_takeChange_150 : decode F_M_takeChange.2.1 150 = .ok (.iastore, 1) := by decide +kernel
theorem gd_M_takeChange_151 : decode F_M_takeChange.2.1 151 = .ok (.iinc 6 1, 3) := by decide +kernel
theorem gd_M_takeChange_154 : decode F_M_takeChange.2.1 154 = .ok (.iinc 7 1, 3) := by decide +kernel
theorem gd_M_takeChange_157 : decode F_M_takeChange.2.1 157 = .ok (.goto (-65), 3) := by decide +kernel
theorem gd_M_takeChange_160 : decode F_M_takeChange.2.1 160 = .ok (.aload_n 0, 1) := by decide +kernel
theorem gd_M_takeChange_161 : decode F_M_takeChange.2.1 161 = .ok (.getfield 66, 3) := by decide +kernel
theorem gd_M_takeChange_164 : decode F_M_takeChange.2.1 164 = .ok (.iload_n 2, 1) := by decide +kernel
theorem gd_M_takeChange_165 : decode F_M_takeChange.2.1 165 = .ok (.iload 6, 2) := by decide +kernel
theorem gd_M_takeChange_167 : decode F_M_takeChange.2.1 167 = .ok (.iastore, 1) := by decide +kernel
theorem gd_M_takeChange_168 : decode F_M_takeChange.2.1 168 = .ok (.aload_n 0, 1) := by decide +kernel
theorem gd_M_takeChange_169 : decode F_M_takeChange.2.1 169 = .ok (.iload_n 1, 1) := by decide +kernel
theorem gd_M_takeChange_170 : decode F_M_takeChange.2.1 170 = .ok (.iload_n 3, 1) := by decide +kernel
theorem gd_M_takeChange_171 : decode F_M_takeChange.2.1 171 = .ok (.iload_n 2, 1) := by decide +kernel
theorem gd_M_takeChange_172 : decode F_M_takeChange.2.1 172 = .ok (.invokevirtual 140, 3) := by decide +kernel
theorem gd_M_takeChange_175 : decode F_M_takeChange.2.1 175 = .ok (.aload_n 0, 1) := by decide +kernel
theorem gd_M_takeChange_176 : decode F_M_takeChange.2.1 176 = .ok (.iload_n 1, 1) := by decide +kernel
theorem gd_M_takeChange_177 : decode F_M_takeChange.2.1 177 = .ok (.invokevirtual 143, 3) := by decide +kernel
theorem gd_M_takeChange_180 : decode F_M_takeChange.2.1 180 = .ok (.return_, 1) := by decide +kernel
theorem gd_M_takeOut_0 : decode F_M_takeOut.2.1 0 = .ok (.aload_n 0, 1) := by decide +kernel
theorem gd_M_takeOut_1 : decode F_M_takeOut.2.1 1 = .ok (.iload_n 1, 1) := by decide +kernel
theorem gd_M_takeOut_2 : decode F_M_takeOut.2.1 2 = .ok (.sipush 500, 3) := by decide +kernel
theorem gd_M_takeOut_5 : decode F_M_takeOut.2.1 5 = .ok (.invokevirtual 115, 3) := by decide +kernel
theorem gd_M_takeOut_8 : decode F_M_takeOut.2.1 8 = .ok (.aload_n 0, 1) := by decide +kernel
theorem gd_M_takeOut_9 : decode F_M_takeOut.2.1 9 = .ok (.dup, 1) := by decide +kernel
theorem gd_M_takeOut_10 : decode F_M_takeOut.2.1 10 = .ok (.getfield 112, 3) := by decide +kernel
theorem gd_M_takeOut_13 : decode F_M_takeOut.2.1 13 = .ok (.iconst 1, 1) := by decide +kernel
theorem gd_M_takeOut_14 : decode F_M_takeOut.2.1 14 = .ok (.isub, 1) := by decide +kernel
theorem gd_M_takeOut_15 : decode F_M_takeOut.2.1 15 = .ok (.putfield 112, 3) := by decide +kernel
theorem gd_M_takeOut_18 : decode F_M_takeOut.2.1 18 = .ok (.iload_n 1, 1) := by decide +kernel
theorem gd_M_takeOut_19 : decode F_M_takeOut.2.1 19 = .ok (.istore_n 2, 1) := by decide +kernel
theorem gd_M_takeOut_20 : decode F_M_takeOut.2.1 20 = .ok (.iload_n 2, 1) := by decide +kernel
theorem gd_M_takeOut_21 : decode F_M_takeOut.2.1 21 = .ok (.aload_n 0, 1) := by decide +kernel
theorem gd_M_takeOut_22 : decode F_M_takeOut.2.1 22 = .ok (.getfield 112, 3) := by decide +kernel
theorem gd_M_takeOut_25 : decode F_M_takeOut.2.1 25 = .ok (.if_icmp .ge 17, 3) := by decide +kernel
theorem gd_M_takeOut_28 : decode F_M_takeOut.2.1 28 = .ok (.aload_n 0, 1) := by decide +kernel
theorem gd_M_takeOut_29 : decode F_M_takeOut.2.1 29 = .ok (.iload_n 2, 1) := by decide +kernel
theorem gd_M_takeOut_30 : decode F_M_takeOut.2.1 30 = .ok (.iconst 1, 1) := by decide +kernel
theorem gd_M_takeOut_31 : decode F_M_takeOut.2.1 31 = .ok (.iadd, 1) := by decide +kernel
theorem gd_M_takeOut_32 : decode F_M_takeOut.2.1 32 = .ok (.iload_n 2, 1) := by decide +kernel
theorem gd_M_takeOut_33 : decode F_M_takeOut.2.1 33 = .ok (.invokevirtual 115, 3) := by decide +kernel
theorem gd_M_takeOut_36 : decode F_M_takeOut.2.1 36 = .ok (.iinc 2 1, 3) := by decide +kernel
theorem gd_M_takeOut_39 : decode F_M_takeOut.2.1 39 = .ok (.goto (-19), 3) := by decide +kernel
theorem gd_M_takeOut_42 : decode F_M_takeOut.2.1 42 = .ok (.return_, 1) := by decide +kernel
theorem gd_M_tell_0 : decode F_M_tell.2.1 0 = .ok (.aload_n 0, 1) := by decide +kernel
theorem gd_M_tell_1 : decode F_M_tell.2.1 1 = .ok (.getfield 57, 3) := by decide +kernel
theorem gd_M_tell_4 : decode F_M_tell.2.1 4 = .ok (.sipush 9000, 3) := by decide +kernel
theorem gd_M_tell_7 : decode F_M_tell.2.1 7 = .ok (.iload_n 1, 1) := by decide +kernel
theorem gd_M_tell_8 : decode F_M_tell.2.1 8 = .ok (.imul, 1) := by decide +kernel
theorem gd_M_tell_9 : decode F_M_tell.2.1 9 = .ok (.aload_n 0, 1) := by decide +kernel
theorem gd_M_tell_10 : decode F_M_tell.2.1 10 = .ok (.getfield 53, 3) := by decide +kernel
theorem gd_M_tell_13 : decode F_M_tell.2.1 13 = .ok (.iload_n 1, 1) := by decide +kernel
theorem gd_M_tell_14 : decode F_M_tell.2.1 14 = .ok (.iaload, 1) := by decide +kernel
theorem gd_M_tell_15 : decode F_M_tell.2.1 15 = .ok (.iadd, 1) := by decide +kernel
theorem gd_M_tell_16 : decode F_M_tell.2.1 16 = .ok (.iload_n 2, 1) := by decide +kernel
theorem gd_M_tell_17 : decode F_M_tell.2.1 17 = .ok (.iastore, 1) := by decide +kernel
theorem gd_M_tell_18 : decode F_M_tell.2.1 18 = .ok (.aload_n 0, 1) := by decide +kernel
theorem gd_M_tell_19 : decode F_M_tell.2.1 19 = .ok (.getfield 60, 3) := by decide +kernel
theorem gd_M_tell_22 : decode F_M_tell.2.1 22 = .ok (.sipush 9000, 3) := by decide +kernel
theorem gd_M_tell_25 : decode F_M_tell.2.1 25 = .ok (.iload_n 1, 1) := by decide +kernel
theorem gd_M_tell_26 : decode F_M_tell.2.1 26 = .ok (.imul, 1) := by decide +kernel
theorem gd_M_tell_27 : decode F_M_tell.2.1 27 = .ok (.aload_n 0, 1) := by decide +kernel
theorem gd_M_tell_28 : decode F_M_tell.2.1 28 = .ok (.getfield 53, 3) := by decide +kernel
theorem gd_M_tell_31 : decode F_M_tell.2.1 31 = .ok (.iload_n 1, 1) := by decide +kernel
theorem gd_M_tell_32 : decode F_M_tell.2.1 32 = .ok (.iaload, 1) := by decide +kernel
theorem gd_M_tell_33 : decode F_M_tell.2.1 33 = .ok (.iadd, 1) := by decide +kernel
theorem gd_M_tell_34 : decode F_M_tell.2.1 34 = .ok (.iload_n 3, 1) := by decide +kernel
theorem gd_M_tell_35 : decode F_M_tell.2.1 35 = .ok (.iastore, 1) := by decide +kernel
theorem gd_M_tell_36 : decode F_M_tell.2.1 36 = .ok (.aload_n 0, 1) := by decide +kernel
theorem gd_M_tell_37 : decode F_M_tell.2.1 37 = .ok (.getfield 53, 3) := by decide +kernel
theorem gd_M_tell_40 : decode F_M_tell.2.1 40 = .ok (.iload_n 1, 1) := by decide +kernel
theorem gd_M_tell_41 : decode F_M_tell.2.1 41 = .ok (.dup2, 1) := by decide +kernel
theorem gd_M_tell_42 : decode F_M_tell.2.1 42 = .ok (.iaload, 1) := by decide +kernel
theorem gd_M_tell_43 : decode F_M_tell.2.1 43 = .ok (.iconst 1, 1) := by decide +kernel
theorem gd_M_tell_44 : decode F_M_tell.2.1 44 = .ok (.iadd, 1) := by decide +kernel
theorem gd_M_tell_45 : decode F_M_tell.2.1 45 = .ok (.iastore, 1) := by decide +kernel
theorem gd_M_tell_46 : decode F_M_tell.2.1 46 = .ok (.aload_n 0, 1) := by decide +kernel
theorem gd_M_tell_47 : decode F_M_tell.2.1 47 = .ok (.iload_n 1, 1) := by decide +kernel
theorem gd_M_tell_48 : decode F_M_tell.2.1 48 = .ok (.aload_n 0, 1) := by decide +kernel
theorem gd_M_tell_49 : decode F_M_tell.2.1 49 = .ok (.getfield 53, 3) := by decide +kernel
theorem gd_M_tell_52 : decode F_M_tell.2.1 52 = .ok (.iload_n 1, 1) := by decide +kernel
theorem gd_M_tell_53 : decode F_M_tell.2.1 53 = .ok (.iaload, 1) := by decide +kernel
theorem gd_M_tell_54 : decode F_M_tell.2.1 54 = .ok (.invokevirtual 119, 3) := by decide +kernel
theorem gd_M_tell_57 : decode F_M_tell.2.1 57 = .ok (.istore 4, 2) := by decide +kernel
theorem gd_M_tell_59 : decode F_M_tell.2.1 59 = .ok (.return_, 1) := by decide +kernel
theorem gd_M_through_0 : decode F_M_through.2.1 0 = .ok (.aload_n 0, 1) := by decide +kernel
theorem gd_M_through_1 : decode F_M_through.2.1 1 = .ok (.iload_n 1, 1) := by decide +kernel
theorem gd_M_through_2 : decode F_M_through.2.1 2 = .ok (.invokestatic 150, 3) := by decide +kernel
theorem gd_M_through_5 : decode F_M_through.2.1 5 = .ok (.ifCond .eq 14, 3) := by decide +kernel
theorem gd_M_through_8 : decode F_M_through.2.1 8 = .ok (.iload_n 2, 1) := by decide +kernel
theorem gd_M_through_9 : decode F_M_through.2.1 9 = .ok (.invokestatic 108, 3) := by decide +kernel
theorem gd_M_through_12 : decode F_M_through.2.1 12 = .ok (.ifCond .eq 7, 3) := by decide +kernel
theorem gd_M_through_15 : decode F_M_through.2.1 15 = .ok (.iconst 0, 1) := by decide +kernel
theorem gd_M_through_16 : decode F_M_through.2.1 16 = .ok (.goto 4, 3) := by decide +kernel
theorem gd_M_through_19 : decode F_M_through.2.1 19 = .ok (.iconst 1, 1) := by decide +kernel
theorem gd_M_through_20 : decode F_M_through.2.1 20 = .ok (.putfield 100, 3) := by decide +kernel
theorem gd_M_through_23 : decode F_M_through.2.1 23 = .ok (.aload_n 0, 1) := by decide +kernel
theorem gd_M_through_24 : decode F_M_through.2.1 24 = .ok (.getfield 100, 3) := by decide +kernel
theorem gd_M_through_27 : decode F_M_through.2.1 27 = .ok (.ifCond .le 7, 3) := by decide +kernel
theorem gd_M_through_30 : decode F_M_through.2.1 30 = .ok (.iconst 0, 1) := by decide +kernel
theorem gd_M_through_31 : decode F_M_through.2.1 31 = .ok (.goto 14, 3) := by decide +kernel
theorem gd_M_through_34 : decode F_M_through.2.1 34 = .ok (.aload_n 0, 1) := by decide +kernel
theorem gd_M_through_35 : decode F_M_through.2.1 35 = .ok (.getfield 47, 3) := by decide +kernel
theorem gd_M_through_38 : decode F_M_through.2.1 38 = .ok (.bipush 40, 2) := by decide +kernel
theorem gd_M_through_40 : decode F_M_through.2.1 40 = .ok (.iload_n 1, 1) := by decide +kernel
theorem gd_M_through_41 : decode F_M_through.2.1 41 = .ok (.imul, 1) := by decide +kernel
theorem gd_M_through_42 : decode F_M_through.2.1 42 = .ok (.iload_n 2, 1) := by decide +kernel
theorem gd_M_through_43 : decode F_M_through.2.1 43 = .ok (.iadd, 1) := by decide +kernel
theorem gd_M_through_44 : decode F_M_through.2.1 44 = .ok (.iaload, 1) := by decide +kernel
theorem gd_M_through_45 : decode F_M_through.2.1 45 = .ok (.ireturn, 1) := by decide +kernel
theorem gd_M_thrown_0 : decode F_M_thrown.2.1 0 = .ok (.aload_n 0, 1) := by decide +kernel
theorem gd_M_thrown_1 : decode F_M_thrown.2.1 1 = .ok (.getfield 100, 3) := by decide +kernel
theorem gd_M_thrown_4 : decode F_M_thrown.2.1 4 = .ok (.ireturn, 1) := by decide +kernel
theorem gd_M_tryAll_0 : decode F_M_tryAll.2.1 0 = .ok (.iconst 1, 1) := by decide +kernel
theorem gd_M_tryAll_1 : decode F_M_tryAll.2.1 1 = .ok (.istore_n 2, 1) := by decide +kernel
theorem gd_M_tryAll_2 : decode F_M_tryAll.2.1 2 = .ok (.iload_n 2, 1) := by decide +kernel
theorem gd_M_tryAll_3 : decode F_M_tryAll.2.1 3 = .ok (.ifCond .eq 85, 3) := by decide +kernel
theorem gd_M_tryAll_6 : decode F_M_tryAll.2.1 6 = .ok (.iconst 0, 1) := by decide +kernel
theorem gd_M_tryAll_7 : decode F_M_tryAll.2.1 7 = .ok (.istore_n 2, 1) := by decide +kernel
theorem gd_M_tryAll_8 : decode F_M_tryAll.2.1 8 = .ok (.iconst 0, 1) := by decide +kernel
theorem gd_M_tryAll_9 : decode F_M_tryAll.2.1 9 = .ok (.istore_n 3, 1) := by decide +kernel
theorem gd_M_tryAll_10 : decode F_M_tryAll.2.1 10 = .ok (.iload_n 3, 1) := by decide +kernel
theorem gd_M_tryAll_11 : decode F_M_tryAll.2.1 11 = .ok (.bipush 40, 2) := by decide +kernel
theorem gd_M_tryAll_13 : decode F_M_tryAll.2.1 13 = .ok (.if_icmp .ge 34, 3) := by decide +kernel
theorem gd_M_tryAll_16 : decode F_M_tryAll.2.1 16 = .ok (.aload_n 0, 1) := by decide +kernel
theorem gd_M_tryAll_17 : decode F_M_tryAll.2.1 17 = .ok (.getfield 50, 3) := by decide +kernel
theorem gd_M_tryAll_20 : decode F_M_tryAll.2.1 20 = .ok (.bipush 40, 2) := by decide +kernel
theorem gd_M_tryAll_22 : decode F_M_tryAll.2.1 22 = .ok (.iload_n 1, 1) := by decide +kernel
theorem gd_M_tryAll_23 : decode F_M_tryAll.2.1 23 = .ok (.imul, 1) := by decide +kernel
theorem gd_M_tryAll_24 : decode F_M_tryAll.2.1 24 = .ok (.iload_n 3, 1) := by decide +kernel
theorem gd_M_tryAll_25 : decode F_M_tryAll.2.1 25 = .ok (.iadd, 1) := by decide +kernel
theorem gd_M_tryAll_26 : decode F_M_tryAll.2.1 26 = .ok (.baload, 1) := by decide +kernel
theorem gd_M_tryAll_27 : decode F_M_tryAll.2.1 27 = .ok (.ifCond .eq 14, 3) := by decide +kernel
theorem gd_M_tryAll_30 : decode F_M_tryAll.2.1 30 = .ok (.aload_n 0, 1) := by decide +kernel
theorem gd_M_tryAll_31 : decode F_M_tryAll.2.1 31 = .ok (.iload_n 1, 1) := by decide +kernel
theorem gd_M_tryAll_32 : decode F_M_tryAll.2.1 32 = .ok (.iload_n 3, 1) := by decide +kernel
theorem gd_M_tryAll_33 : decode F_M_tryAll.2.1 33 = .ok (.invokevirtual 134, 3) := by decide +kernel
theorem gd_M_tryAll_36 : decode F_M_tryAll.2.1 36 = .ok (.ifCond .eq 5, 3) := by decide +kernel
theorem gd_M_tryAll_39 : decode F_M_tryAll.2.1 39 = .ok (.iconst 1, 1) := by decide +kernel
theorem gd_M_tryAll_40 : decode F_M_tryAll.2.1 40 = .ok (.istore_n 2, 1) := by decide +kernel
theorem gd_M_tryAll_41 : decode F_M_tryAll.2.1 41 = .ok (.iinc 3 1, 3) := by decide +kernel
theorem gd_M_tryAll_44 : decode F_M_tryAll.2.1 44 = .ok (.goto (-34), 3) := by decide +kernel
theorem gd_M_tryAll_47 : decode F_M_tryAll.2.1 47 = .ok (.iconst 0, 1) := by decide +kernel
theorem gd_M_tryAll_48 : decode F_M_tryAll.2.1 48 = .ok (.istore_n 3, 1) := by decide +kernel
theorem gd_M_tryAll_49 : decode F_M_tryAll.2.1 49 = .ok (.iload_n 3, 1) := by decide +kernel
theorem gd_M_tryAll_50 : decode F_M_tryAll.2.1 50 = .ok (.bipush 12, 2) := by decide +kernel
theorem gd_M_tryAll_52 : decode F_M_tryAll.2.1 52 = .ok (.if_icmp .ge 33, 3) := by decide +kernel
theorem gd_M_tryAll_55 : decode F_M_tryAll.2.1 55 = .ok (.aload_n 0, 1) := by decide +kernel
theorem gd_M_tryAll_56 : decode F_M_tryAll.2.1 56 = .ok (.getfield 38, 3) := by decide +kernel
theorem gd_M_tryAll_59 : decode F_M_tryAll.2.1 59 = .ok (.iload_n 3, 1) := by decide +kernel
theorem gd_M_tryAll_60 : decode F_M_tryAll.2.1 60 = .ok (.iaload, 1) := by decide +kernel
theorem gd_M_tryAll_61 : decode F_M_tryAll.2.1 61 = .ok (.iload_n 1, 1) := by decide +kernel
theorem gd_M_tryAll_62 : decode F_M_tryAll.2.1 62 = .ok (.if_icmp .ne 17, 3) := by decide +kernel
theorem gd_M_tryAll_65 : decode F_M_tryAll.2.1 65 = .ok (.aload_n 0, 1) := by decide +kernel
theorem gd_M_tryAll_66 : decode F_M_tryAll.2.1 66 = .ok (.iload_n 1, 1) := by decide +kernel
theorem gd_M_tryAll_67 : decode F_M_tryAll.2.1 67 = .ok (.iload_n 3, 1) := by decide +kernel
theorem gd_M_tryAll_68 : decode F_M_tryAll.2.1 68 = .ok (.invokevirtual 137, 3) := by decide +kernel
theorem gd_M_tryAll_71 : decode F_M_tryAll.2.1 71 = .ok (.ifCond .eq 8, 3) := by decide +kernel
theorem gd_M_tryAll_74 : decode F_M_tryAll.2.1 74 = .ok (.iconst 1, 1) := by decide +kernel
theorem gd_M_tryAll_75 : decode F_M_tryAll.2.1 75 = .ok (.istore_n 2, 1) := by decide +kernel
theorem gd_M_tryAll_76 : decode F_M_tryAll.2.1 76 = .ok (.goto (-21), 3) := by decide +kernel
theorem gd_M_tryAll_79 : decode F_M_tryAll.2.1 79 = .ok (.iinc 3 1, 3) := by decide +kernel
theorem gd_M_tryAll_82 : decode F_M_tryAll.2.1 82 = .ok (.goto (-33), 3) := by decide +kernel
theorem gd_M_tryAll_85 : decode F_M_tryAll.2.1 85 = .ok (.goto (-83), 3) := by decide +kernel
theorem gd_M_tryAll_88 : decode F_M_tryAll.2.1 88 = .ok (.return_, 1) := by decide +kernel
theorem gd_M_twin_0 : decode F_M_twin.2.1 0 = .ok (.aload_n 0, 1) := by decide +kernel
theorem gd_M_twin_1 : decode F_M_twin.2.1 1 = .ok (.aload_n 0, 1) := by decide +kernel
theorem gd_M_twin_2 : decode F_M_twin.2.1 2 = .ok (.iload_n 1, 1) := by decide +kernel
theorem gd_M_twin_3 : decode F_M_twin.2.1 3 = .ok (.invokevirtual 176, 3) := by decide +kernel
theorem gd_M_twin_6 : decode F_M_twin.2.1 6 = .ok (.ifCond .ne 7, 3) := by decide +kernel
theorem gd_M_twin_9 : decode F_M_twin.2.1 9 = .ok (.iconst 1, 1) := by decide +kernel
theorem gd_M_twin_10 : decode F_M_twin.2.1 10 = .ok (.goto 18, 3) := by decide +kernel
theorem gd_M_twin_13 : decode F_M_twin.2.1 13 = .ok (.aload_n 0, 1) := by decide +kernel
theorem gd_M_twin_14 : decode F_M_twin.2.1 14 = .ok (.getfield 112, 3) := by decide +kernel
theorem gd_M_twin_17 : decode F_M_twin.2.1 17 = .ok (.sipush 500, 3) := by decide +kernel
theorem gd_M_twin_20 : decode F_M_twin.2.1 20 = .ok (.if_icmp .ne 7, 3) := by decide +kernel
theorem gd_M_twin_23 : decode F_M_twin.2.1 23 = .ok (.iconst 2, 1) := by decide +kernel
theorem gd_M_twin_24 : decode F_M_twin.2.1 24 = .ok (.goto 4, 3) := by decide +kernel
theorem gd_M_twin_27 : decode F_M_twin.2.1 27 = .ok (.iconst 0, 1) := by decide +kernel
theorem gd_M_twin_28 : decode F_M_twin.2.1 28 = .ok (.putfield 100, 3) := by decide +kernel
theorem gd_M_twin_31 : decode F_M_twin.2.1 31 = .ok (.aload_n 0, 1) := by decide +kernel
theorem gd_M_twin_32 : decode F_M_twin.2.1 32 = .ok (.getfield 100, 3) := by decide +kernel
theorem gd_M_twin_35 : decode F_M_twin.2.1 35 = .ok (.ifCond .le 5, 3) := by decide +kernel
theorem gd_M_twin_38 : decode F_M_twin.2.1 38 = .ok (.iconst 0, 1) := by decide +kernel
theorem gd_M_twin_39 : decode F_M_twin.2.1 39 = .ok (.ireturn, 1) := by decide +kernel
theorem gd_M_twin_40 : decode F_M_twin.2.1 40 = .ok (.aload_n 0, 1) := by decide +kernel
theorem gd_M_twin_41 : decode F_M_twin.2.1 41 = .ok (.iload_n 1, 1) := by decide +kernel
theorem gd_M_twin_42 : decode F_M_twin.2.1 42 = .ok (.aload_n 0, 1) := by decide +kernel
theorem gd_M_twin_43 : decode F_M_twin.2.1 43 = .ok (.getfield 112, 3) := by decide +kernel
theorem gd_M_twin_46 : decode F_M_twin.2.1 46 = .ok (.invokevirtual 115, 3) := by decide +kernel
theorem gd_M_twin_49 : decode F_M_twin.2.1 49 = .ok (.aload_n 0, 1) := by decide +kernel
theorem gd_M_twin_50 : decode F_M_twin.2.1 50 = .ok (.dup, 1) := by decide +kernel
theorem gd_M_twin_51 : decode F_M_twin.2.1 51 = .ok (.getfield 112, 3) := by decide +kernel
theorem gd_M_twin_54 : decode F_M_twin.2.1 54 = .ok (.iconst 1, 1) := by decide +kernel
theorem gd_M_twin_55 : decode F_M_twin.2.1 55 = .ok (.iadd, 1) := by decide +kernel
theorem gd_M_twin_56 : decode F_M_twin.2.1 56 = .ok (.putfield 112, 3) := by decide +kernel
theorem gd_M_twin_59 : decode F_M_twin.2.1 59 = .ok (.aload_n 0, 1) := by decide +kernel
theorem gd_M_twin_60 : decode F_M_twin.2.1 60 = .ok (.getfield 112, 3) := by decide +kernel
theorem gd_M_twin_63 : decode F_M_twin.2.1 63 = .ok (.ireturn, 1) := by decide +kernel
theorem gd_M_unset_0 : decode F_M_unset.2.1 0 = .ok (.aload_n 0, 1) := by decide +kernel
theorem gd_M_unset_1 : decode F_M_unset.2.1 1 = .ok (.getfield 44, 3) := by decide +kernel
theorem gd_M_unset_4 : decode F_M_unset.2.1 4 = .ok (.bipush 40, 2) := by decide +kernel
theorem gd_M_unset_6 : decode F_M_unset.2.1 6 = .ok (.iload_n 1, 1) := by decide +kernel
theorem gd_M_unset_7 : decode F_M_unset.2.1 7 = .ok (.imul, 1) := by decide +kernel
theorem gd_M_unset_8 : decode F_M_unset.2.1 8 = .ok (.iload_n 2, 1) := by decide +kernel
theorem gd_M_unset_9 : decode F_M_unset.2.1 9 = .ok (.iadd, 1) := by decide +kernel
theorem gd_M_unset_10 : decode F_M_unset.2.1 10 = .ok (.iaload, 1) := by decide +kernel
theorem gd_M_unset_11 : decode F_M_unset.2.1 11 = .ok (.ifCond .le 26, 3) := by decide +kernel
theorem gd_M_unset_14 : decode F_M_unset.2.1 14 = .ok (.aload_n 0, 1) := by decide +kernel
theorem gd_M_unset_15 : decode F_M_unset.2.1 15 = .ok (.getfield 47, 3) := by decide +kernel
theorem gd_M_unset_18 : decode F_M_unset.2.1 18 = .ok (.bipush 40, 2) := by decide +kernel
theorem gd_M_unset_20 : decode F_M_unset.2.1 20 = .ok (.iload_n 1, 1) := by decide +kernel
theorem gd_M_unset_21 : decode F_M_unset.2.1 21 = .ok (.imul, 1) := by decide +kernel
theorem gd_M_unset_22 : decode F_M_unset.2.1 22 = .ok (.iload_n 2, 1) := by decide +kernel
theorem gd_M_unset_23 : decode F_M_unset.2.1 23 = .ok (.iadd, 1) := by decide +kernel
theorem gd_M_unset_24 : decode F_M_unset.2.1 24 = .ok (.iaload, 1) := by decide +kernel
theorem gd_M_unset_25 : decode F_M_unset.2.1 25 = .ok (.iload_n 3, 1) := by decide +kernel
theorem gd_M_unset_26 : decode F_M_unset.2.1 26 = .ok (.if_icmp .ne 11, 3) := by decide +kernel
theorem gd_M_unset_29 : decode F_M_unset.2.1 29 = .ok (.aload_n 0, 1) := by decide +kernel
theorem gd_M_unset_30 : decode F_M_unset.2.1 30 = .ok (.iload_n 1, 1) := by decide +kernel
theorem gd_M_unset_31 : decode F_M_unset.2.1 31 = .ok (.iload_n 2, 1) := by decide +kernel
theorem gd_M_unset_32 : decode F_M_unset.2.1 32 = .ok (.iconst 0, 1) := by decide +kernel
theorem gd_M_unset_33 : decode F_M_unset.2.1 33 = .ok (.iconst (-1), 1) := by decide +kernel
theorem gd_M_unset_34 : decode F_M_unset.2.1 34 = .ok (.invokevirtual 127, 3) := by decide +kernel
theorem gd_M_unset_37 : decode F_M_unset.2.1 37 = .ok (.return_, 1) := by decide +kernel
theorem gd_M_version_0 : decode F_M_version.2.1 0 = .ok (.aload_n 0, 1) := by decide +kernel
theorem gd_M_version_1 : decode F_M_version.2.1 1 = .ok (.aload_n 0, 1) := by decide +kernel
theorem gd_M_version_2 : decode F_M_version.2.1 2 = .ok (.iload_n 1, 1) := by decide +kernel
theorem gd_M_version_3 : decode F_M_version.2.1 3 = .ok (.invokevirtual 154, 3) := by decide +kernel
theorem gd_M_version_6 : decode F_M_version.2.1 6 = .ok (.ifCond .ne 7, 3) := by decide +kernel
theorem gd_M_version_9 : decode F_M_version.2.1 9 = .ok (.iconst 1, 1) := by decide +kernel
theorem gd_M_version_10 : decode F_M_version.2.1 10 = .ok (.goto 4, 3) := by decide +kernel
theorem gd_M_version_13 : decode F_M_version.2.1 13 = .ok (.iconst 0, 1) := by decide +kernel
theorem gd_M_version_14 : decode F_M_version.2.1 14 = .ok (.putfield 100, 3) := by decide +kernel
theorem gd_M_version_17 : decode F_M_version.2.1 17 = .ok (.aload_n 0, 1) := by decide +kernel
theorem gd_M_version_18 : decode F_M_version.2.1 18 = .ok (.getfield 100, 3) := by decide +kernel
theorem gd_M_version_21 : decode F_M_version.2.1 21 = .ok (.ifCond .ne 62, 3) := by decide +kernel
theorem gd_M_version_24 : decode F_M_version.2.1 24 = .ok (.aload_n 0, 1) := by decide +kernel
theorem gd_M_version_25 : decode F_M_version.2.1 25 = .ok (.iload_n 2, 1) := by decide +kernel
theorem gd_M_version_26 : decode F_M_version.2.1 26 = .ok (.aload_n 0, 1) := by decide +kernel
theorem gd_M_version_27 : decode F_M_version.2.1 27 = .ok (.getfield 23, 3) := by decide +kernel
theorem gd_M_version_30 : decode F_M_version.2.1 30 = .ok (.aload_n 0, 1) := by decide +kernel
theorem gd_M_version_31 : decode F_M_version.2.1 31 = .ok (.getfield 20, 3) := by decide +kernel
theorem gd_M_version_34 : decode F_M_version.2.1 34 = .ok (.iload_n 1, 1) := by decide +kernel
theorem gd_M_version_35 : decode F_M_version.2.1 35 = .ok (.iaload, 1) := by decide +kernel
theorem gd_M_version_36 : decode F_M_version.2.1 36 = .ok (.iaload, 1) := by decide +kernel
theorem gd_M_version_37 : decode F_M_version.2.1 37 = .ok (.if_icmp .le 24, 3) := by decide +kernel
theorem gd_M_version_40 : decode F_M_version.2.1 40 = .ok (.iload_n 3, 1) := by decide +kernel
theorem gd_M_version_41 : decode F_M_version.2.1 41 = .ok (.iconst 0, 1) := by decide +kernel
theorem gd_M_version_42 : decode F_M_version.2.1 42 = .ok (.ldc 153, 2) := by decide +kernel
theorem gd_M_version_44 : decode F_M_version.2.1 44 = .ok (.invokestatic 104, 3) := by decide +kernel
theorem gd_M_version_47 : decode F_M_version.2.1 47 = .ok (.ifCond .eq 14, 3) := by decide +kernel
theorem gd_M_version_50 : decode F_M_version.2.1 50 = .ok (.iload 4, 2) := by decide +kernel
theorem gd_M_version_52 : decode F_M_version.2.1 52 = .ok (.iconst 0, 1) := by decide +kernel
theorem gd_M_version_53 : decode F_M_version.2.1 53 = .ok (.ldc 153, 2) := by decide +kernel
theorem gd_M_version_55 : decode F_M_version.2.1 55 = .ok (.invokestatic 104, 3) := by decide +kernel
theorem gd_M_version_58 : decode F_M_version.2.1 58 = .ok (.ifCond .ne 7, 3) := by decide +kernel
theorem gd_M_version_61 : decode F_M_version.2.1 61 = .ok (.iconst 2, 1) := by decide +kernel
theorem gd_M_version_62 : decode F_M_version.2.1 62 = .ok (.goto 18, 3) := by decide +kernel
theorem gd_M_version_65 : decode F_M_version.2.1 65 = .ok (.aload_n 0, 1) := by decide +kernel
theorem gd_M_version_66 : decode F_M_version.2.1 66 = .ok (.getfield 157, 3) := by decide +kernel
theorem gd_M_version_69 : decode F_M_version.2.1 69 = .ok (.sipush 300, 3) := by decide +kernel
theorem gd_M_version_72 : decode F_M_version.2.1 72 = .ok (.if_icmp .ne 7, 3) := by decide +kernel
theorem gd_M_version_75 : decode F_M_version.2.1 75 = .ok (.iconst 3, 1) := by decide +kernel
theorem gd_M_version_76 : decode F_M_version.2.1 76 = .ok (.goto 4, 3) := by decide +kernel
theorem gd_M_version_79 : decode F_M_version.2.1 79 = .ok (.iconst 0, 1) := by decide +kernel
theorem gd_M_version_80 : decode F_M_version.2.1 80 = .ok (.putfield 100, 3) := by decide +kernel
theorem gd_M_version_83 : decode F_M_version.2.1 83 = .ok (.aload_n 0, 1) := by decide +kernel
theorem gd_M_version_84 : decode F_M_version.2.1 84 = .ok (.getfield 100, 3) := by decide +kernel
theorem gd_M_version_87 : decode F_M_version.2.1 87 = .ok (.ifCond .le 5, 3) := by decide +kernel
theorem gd_M_version_90 : decode F_M_version.2.1 90 = .ok (.iconst 0, 1) := by decide +kernel
theorem gd_M_version_91 : decode F_M_version.2.1 91 = .ok (.ireturn, 1) := by decide +kernel
theorem gd_M_version_92 : decode F_M_version.2.1 92 = .ok (.aload_n 0, 1) := by decide +kernel
theorem gd_M_version_93 : decode F_M_version.2.1 93 = .ok (.dup, 1) := by decide +kernel
theorem gd_M_version_94 : decode F_M_version.2.1 94 = .ok (.getfield 157, 3) := by decide +kernel
theorem gd_M_version_97 : decode F_M_version.2.1 97 = .ok (.iconst 1, 1) := by decide +kernel
theorem gd_M_version_98 : decode F_M_version.2.1 98 = .ok (.iadd, 1) := by decide +kernel
theorem gd_M_version_99 : decode F_M_version.2.1 99 = .ok (.putfield 157, 3) := by decide +kernel
theorem gd_M_version_102 : decode F_M_version.2.1 102 = .ok (.aload_n 0, 1) := by decide +kernel
theorem gd_M_version_103 : decode F_M_version.2.1 103 = .ok (.getfield 20, 3) := by decide +kernel
theorem gd_M_version_106 : decode F_M_version.2.1 106 = .ok (.iload_n 1, 1) := by decide +kernel
theorem gd_M_version_107 : decode F_M_version.2.1 107 = .ok (.iaload, 1) := by decide +kernel
theorem gd_M_version_108 : decode F_M_version.2.1 108 = .ok (.istore 5, 2) := by decide +kernel
theorem gd_M_version_110 : decode F_M_version.2.1 110 = .ok (.iload_n 3, 1) := by decide +kernel
theorem gd_M_version_111 : decode F_M_version.2.1 111 = .ok (.i2l, 1) := by decide +kernel
theorem gd_M_version_112 : decode F_M_version.2.1 112 = .ok (.lstore 6, 2) := by decide +kernel
theorem gd_M_version_114 : decode F_M_version.2.1 114 = .ok (.iconst 0, 1) := by decide +kernel
theorem gd_M_version_115 : decode F_M_version.2.1 115 = .ok (.istore 8, 2) := by decide +kernel
theorem gd_M_version_117 : decode F_M_version.2.1 117 = .ok (.iconst 0, 1) := by decide +kernel
theorem gd_M_version_118 : decode F_M_version.2.1 118 = .ok (.istore 9, 2) := by decide +kernel
theorem gd_M_version_120 : decode F_M_version.2.1 120 = .ok (.iload 9, 2) := by decide +kernel
theorem gd_M_version_122 : decode F_M_version.2.1 122 = .ok (.bipush 6, 2) := by decide +kernel
theorem gd_M_version_124 : decode F_M_version.2.1 124 = .ok (.if_icmp .ge 92, 3) := by decide +kernel
theorem gd_M_version_127 : decode F_M_version.2.1 127 = .ok (.aload_n 0, 1) := by decide +kernel
theorem gd_M_version_128 : decode F_M_version.2.1 128 = .ok (.getfield 26, 3) := by decide +kernel
theorem gd_M_version_131 : decode F_M_version.2.1 131 = .ok (.bipush 6, 2) := by decide +kernel
theorem gd_M_version_133 : decode F_M_version.2.1 133 = .ok (.aload_n 0, 1) := by decide +kernel
theorem gd_M_version_134 : decode F_M_version.2.1 134 = .ok (.getfield 157, 3) := by decide +kernel
theorem gd_M_version_137 : decode F_M_version.2.1 137 = .ok (.imul, 1) := by decide +kernel
theorem gd_M_version_138 : decode F_M_version.2.1 138 = .ok (.iload 9, 2) := by decide +kernel
theorem gd_M_version_140 : decode F_M_version.2.1 140 = .ok (.iadd, 1) := by decide +kernel
theorem gd_M_version_141 : decode F_M_version.2.1 141 = .ok (.aload_n 0, 1) := by decide +kernel
theorem gd_M_version_142 : decode F_M_version.2.1 142 = .ok (.getfield 32, 3) := by decide +kernel
theorem gd_M_version_145 : decode F_M_version.2.1 145 = .ok (.iload 9, 2) := by decide +kernel
theorem gd_M_version_147 : decode F_M_version.2.1 147 = .ok (.iaload, 1) := by decide +kernel
theorem gd_M_version_148 : decode F_M_version.2.1 148 = .ok (.iastore, 1) := by decide +kernel
theorem gd_M_version_149 : decode F_M_version.2.1 149 = .ok (.iload 8, 2) := by decide +kernel
theorem gd_M_version_151 : decode F_M_version.2.1 151 = .ok (.ifCond .ne 31, 3) := by decide +kernel
theorem gd_M_version_154 : decode F_M_version.2.1 154 = .ok (.iload 5, 2) := by decide +kernel
theorem gd_M_version_156 : decode F_M_version.2.1 156 = .ok (.ifCond .le 30, 3) := by decide +kernel
theorem gd_M_version_159 : decode F_M_version.2.1 159 = .ok (.aload_n 0, 1) := by decide +kernel
theorem gd_M_version_160 : decode F_M_version.2.1 160 = .ok (.getfield 32, 3) := by decide +kernel
theorem gd_M_version_163 : decode F_M_version.2.1 163 = .ok (.iload 9, 2) := by decide +kernel
theorem gd_M_version_165 : decode F_M_version.2.1 165 = .ok (.iaload, 1) := by decide +kernel
theorem gd_M_version_166 : decode F_M_version.2.1 166 = .ok (.aload_n 0, 1) := by decide +kernel
theorem gd_M_version_167 : decode F_M_version.2.1 167 = .ok (.getfield 26, 3) := by decide +kernel
theorem gd_M_version_170 : decode F_M_version.2.1 170 = .ok (.bipush 6, 2) := by decide +kernel
theorem gd_M_version_172 : decode F_M_version.2.1 172 = .ok (.iload 5, 2) := by decide +kernel
theorem gd_M_version_174 : decode F_M_version.2.1 174 = .ok (.imul, 1) := by decide +kernel
theorem gd_M_version_175 : decode F_M_version.2.1 175 = .ok (.iload 9, 2) := by decide +kernel
theorem gd_M_version_177 : decode F_M_version.2.1 177 = .ok (.iadd, 1) := by decide +kernel
theorem gd_M_version_178 : decode F_M_version.2.1 178 = .ok (.iaload, 1) := by decide +kernel
theorem gd_M_version_179 : decode F_M_version.2.1 179 = .ok (.if_icmp .ge 7, 3) := by decide +kernel
theorem gd_M_version_182 : decode F_M_version.2.1 182 = .ok (.iconst 1, 1) := by decide +kernel
theorem gd_M_version_183 : decode F_M_version.2.1 183 = .ok (.goto 4, 3) := by decide +kernel
theorem gd_M_version_186 : decode F_M_version.2.1 186 = .ok (.iconst 0, 1) := by decide +kernel
theorem gd_M_version_187 : decode F_M_version.2.1 187 = .ok (.istore 8, 2) := by decide +kernel
theorem gd_M_version_189 : decode F_M_version.2.1 189 = .ok (.lload 6, 2) := by decide +kernel
theorem gd_M_version_191 : decode F_M_version.2.1 191 = .ok (.aload_n 0, 1) := by decide +kernel
theorem gd_M_version_192 : decode F_M_version.2.1 192 = .ok (.getfield 32, 3) := by decide +kernel
theorem gd_M_version_195 : decode F_M_version.2.1 195 = .ok (.iload 9, 2) := by decide +kernel
theorem gd_M_version_197 : decode F_M_version.2.1 197 = .ok (.iaload, 1) := by decide +kernel
theorem gd_M_version_198 : decode F_M_version.2.1 198 = .ok (.i2l, 1) := by decide +kernel
theorem gd_M_version_199 : decode F_M_version.2.1 199 = .ok (.ladd, 1) := by decide +kernel
theorem gd_M_version_200 : decode F_M_version.2.1 200 = .ok (.lstore 6, 2) := by decide +kernel
theorem gd_M_version_202 : decode F_M_version.2.1 202 = .ok (.aload_n 0, 1) := by decide +kernel
theorem gd_M_version_203 : decode F_M_version.2.1 203 = .ok (.getfield 32, 3) := by decide +kernel
theorem gd_M_version_206 : decode F_M_version.2.1 206 = .ok (.iload 9, 2) := by decide +kernel
theorem gd_M_version_208 : decode F_M_version.2.1 208 = .ok (.iconst 0, 1) := by decide +kernel
theorem gd_M_version_209 : decode F_M_version.2.1 209 = .ok (.iastore, 1) := by decide +kernel
theorem gd_M_version_210 : decode F_M_version.2.1 210 = .ok (.iinc 9 1, 3) := by decide +kernel
theorem gd_M_version_213 : decode F_M_version.2.1 213 = .ok (.goto (-93), 3) := by decide +kernel
theorem gd_M_version_216 : decode F_M_version.2.1 216 = .ok (.aload_n 0, 1) := by decide +kernel
theorem gd_M_version_217 : decode F_M_version.2.1 217 = .ok (.getfield 23, 3) := by decide +kernel
theorem gd_M_version_220 : decode F_M_version.2.1 220 = .ok (.aload_n 0, 1) := by decide +kernel
theorem gd_M_version_221 : decode F_M_version.2.1 221 = .ok (.getfield 157, 3) := by decide +kernel
theorem gd_M_version_224 : decode F_M_version.2.1 224 = .ok (.iload_n 2, 1) := by decide +kernel
theorem gd_M_version_225 : decode F_M_version.2.1 225 = .ok (.iastore, 1) := by decide +kernel
theorem gd_M_version_226 : decode F_M_version.2.1 226 = .ok (.aload_n 0, 1) := by decide +kernel
theorem gd_M_version_227 : decode F_M_version.2.1 227 = .ok (.getfield 29, 3) := by decide +kernel
theorem gd_M_version_230 : decode F_M_version.2.1 230 = .ok (.aload_n 0, 1) := by decide +kernel
theorem gd_M_version_231 : decode F_M_version.2.1 231 = .ok (.getfield 157, 3) := by decide +kernel
theorem gd_M_version_234 : decode F_M_version.2.1 234 = .ok (.iload 4, 2) := by decide +kernel
theorem gd_M_version_236 : decode F_M_version.2.1 236 = .ok (.aload_n 0, 1) := by decide +kernel
theorem gd_M_version_237 : decode F_M_version.2.1 237 = .ok (.getfield 17, 3) := by decide +kernel
theorem gd_M_version_240 : decode F_M_version.2.1 240 = .ok (.iload_n 1, 1) := by decide +kernel
theorem gd_M_version_241 : decode F_M_version.2.1 241 = .ok (.iaload, 1) := by decide +kernel
theorem gd_M_version_242 : decode F_M_version.2.1 242 = .ok (.if_icmp .le 7, 3) := by decide +kernel
theorem gd_M_version_245 : decode F_M_version.2.1 245 = .ok (.iconst 1, 1) := by decide +kernel
theorem gd_M_version_246 : decode F_M_version.2.1 246 = .ok (.goto 4, 3) := by decide +kernel
theorem gd_M_version_249 : decode F_M_version.2.1 249 = .ok (.iconst 0, 1) := by decide +kernel
theorem gd_M_version_250 : decode F_M_version.2.1 250 = .ok (.iload 8, 2) := by decide +kernel
theorem gd_M_version_252 : decode F_M_version.2.1 252 = .ok (.ifCond .eq 7, 3) := by decide +kernel
theorem gd_M_version_255 : decode F_M_version.2.1 255 = .ok (.iconst 2, 1) := by decide +kernel
theorem gd_M_version_256 : decode F_M_version.2.1 256 = .ok (.goto 4, 3) := by decide +kernel
theorem gd_M_version_259 : decode F_M_version.2.1 259 = .ok (.iconst 0, 1) := by decide +kernel
theorem gd_M_version_260 : decode F_M_version.2.1 260 = .ok (.iadd, 1) := by decide +kernel
theorem gd_M_version_261 : decode F_M_version.2.1 261 = .ok (.lload 6, 2) := by decide +kernel
theorem gd_M_version_263 : decode F_M_version.2.1 263 = .ok (.iload 4, 2) := by decide +kernel
theorem gd_M_version_265 : decode F_M_version.2.1 265 = .ok (.i2l, 1) := by decide +kernel
theorem gd_M_version_266 : decode F_M_version.2.1 266 = .ok (.lcmp, 1) := by decide +kernel
theorem gd_M_version_267 : decode F_M_version.2.1 267 = .ok (.ifCond .le 7, 3) := by decide +kernel
theorem gd_M_version_270 : decode F_M_version.2.1 270 = .ok (.iconst 4, 1) := by decide +kernel
theorem gd_M_version_271 : decode F_M_version.2.1 271 = .ok (.goto 4, 3) := by decide +kernel
theorem gd_M_version_274 : decode F_M_version.2.1 274 = .ok (.iconst 0, 1) := by decide +kernel
theorem gd_M_version_275 : decode F_M_version.2.1 275 = .ok (.iadd, 1) := by decide +kernel
theorem gd_M_version_276 : decode F_M_version.2.1 276 = .ok (.iastore, 1) := by decide +kernel
theorem gd_M_version_277 : decode F_M_version.2.1 277 = .ok (.aload_n 0, 1) := by decide +kernel
theorem gd_M_version_278 : decode F_M_version.2.1 278 = .ok (.getfield 20, 3) := by decide +kernel
theorem gd_M_version_281 : decode F_M_version.2.1 281 = .ok (.iload_n 1, 1) := by decide +kernel
theorem gd_M_version_282 : decode F_M_version.2.1 282 = .ok (.aload_n 0, 1) := by decide +kernel
theorem gd_M_version_283 : decode F_M_version.2.1 283 = .ok (.getfield 157, 3) := by decide +kernel
theorem gd_M_version_286 : decode F_M_version.2.1 286 = .ok (.iastore, 1) := by decide +kernel
theorem gd_M_version_287 : decode F_M_version.2.1 287 = .ok (.aload_n 0, 1) := by decide +kernel
theorem gd_M_version_288 : decode F_M_version.2.1 288 = .ok (.getfield 29, 3) := by decide +kernel
theorem gd_M_version_291 : decode F_M_version.2.1 291 = .ok (.aload_n 0, 1) := by decide +kernel
theorem gd_M_version_292 : decode F_M_version.2.1 292 = .ok (.getfield 157, 3) := by decide +kernel
theorem gd_M_version_295 : decode F_M_version.2.1 295 = .ok (.iaload, 1) := by decide +kernel
theorem gd_M_version_296 : decode F_M_version.2.1 296 = .ok (.istore 9, 2) := by decide +kernel
theorem gd_M_version_298 : decode F_M_version.2.1 298 = .ok (.aload_n 0, 1) := by decide +kernel
theorem gd_M_version_299 : decode F_M_version.2.1 299 = .ok (.getfield 35, 3) := by decide +kernel
theorem gd_M_version_302 : decode F_M_version.2.1 302 = .ok (.aload_n 0, 1) := by decide +kernel
theorem gd_M_version_303 : decode F_M_version.2.1 303 = .ok (.getfield 13, 3) := by decide +kernel
theorem gd_M_version_306 : decode F_M_version.2.1 306 = .ok (.iload_n 1, 1) := by decide +kernel
theorem gd_M_version_307 : decode F_M_version.2.1 307 = .ok (.iaload, 1) := by decide +kernel
theorem gd_M_version_308 : decode F_M_version.2.1 308 = .ok (.baload, 1) := by decide +kernel
theorem gd_M_version_309 : decode F_M_version.2.1 309 = .ok (.ifCond .eq 21, 3) := by decide +kernel
theorem gd_M_version_312 : decode F_M_version.2.1 312 = .ok (.aload_n 0, 1) := by decide +kernel
theorem gd_M_version_313 : decode F_M_version.2.1 313 = .ok (.aload_n 0, 1) := by decide +kernel
theorem gd_M_version_314 : decode F_M_version.2.1 314 = .ok (.getfield 13, 3) := by decide +kernel
theorem gd_M_version_317 : decode F_M_version.2.1 317 = .ok (.iload_n 1, 1) := by decide +kernel
theorem gd_M_version_318 : decode F_M_version.2.1 318 = .ok (.iaload, 1) := by decide +kernel
theorem gd_M_version_319 : decode F_M_version.2.1 319 = .ok (.iload_n 1, 1) := by decide +kernel
theorem gd_M_version_320 : decode F_M_version.2.1 320 = .ok (.invokevirtual 134, 3) := by decide +kernel
theorem gd_M_version_323 : decode F_M_version.2.1 323 = .ok (.ifCond .eq 7, 3) := by decide +kernel
theorem gd_M_version_326 : decode F_M_version.2.1 326 = .ok (.iconst 1, 1) := by decide +kernel
theorem gd_M_version_327 : decode F_M_version.2.1 327 = .ok (.goto 4, 3) := by decide +kernel
theorem gd_M_version_330 : decode F_M_version.2.1 330 = .ok (.iconst 0, 1) := by decide +kernel
theorem gd_M_version_331 : decode F_M_version.2.1 331 = .ok (.istore 10, 2) := by decide +kernel
theorem gd_M_version_333 : decode F_M_version.2.1 333 = .ok (.iload 9, 2) := by decide +kernel
theorem gd_M_version_335 : decode F_M_version.2.1 335 = .ok (.ireturn, 1) := by decide +kernel
theorem gd_M_votes_0 : decode F_M_votes.2.1 0 = .ok (.aload_n 0, 1) := by decide +kernel
theorem gd_M_votes_1 : decode F_M_votes.2.1 1 = .ok (.iload_n 1, 1) := by decide +kernel
theorem gd_M_votes_2 : decode F_M_votes.2.1 2 = .ok (.iconst 0, 1) := by decide +kernel
theorem gd_M_votes_3 : decode F_M_votes.2.1 3 = .ok (.iconst 5, 1) := by decide +kernel
theorem gd_M_votes_4 : decode F_M_votes.2.1 4 = .ok (.invokestatic 104, 3) := by decide +kernel
theorem gd_M_votes_7 : decode F_M_votes.2.1 7 = .ok (.ifCond .ne 7, 3) := by decide +kernel
theorem gd_M_votes_10 : decode F_M_votes.2.1 10 = .ok (.iconst 1, 1) := by decide +kernel
theorem gd_M_votes_11 : decode F_M_votes.2.1 11 = .ok (.goto 18, 3) := by decide +kernel
theorem gd_M_votes_14 : decode F_M_votes.2.1 14 = .ok (.iload_n 2, 1) := by decide +kernel
theorem gd_M_votes_15 : decode F_M_votes.2.1 15 = .ok (.iconst 0, 1) := by decide +kernel
theorem gd_M_votes_16 : decode F_M_votes.2.1 16 = .ok (.ldc 153, 2) := by decide +kernel
theorem gd_M_votes_18 : decode F_M_votes.2.1 18 = .ok (.invokestatic 104, 3) := by decide +kernel
theorem gd_M_votes_21 : decode F_M_votes.2.1 21 = .ok (.ifCond .ne 7, 3) := by decide +kernel
theorem gd_M_votes_24 : decode F_M_votes.2.1 24 = .ok (.iconst 2, 1) := by decide +kernel
theorem gd_M_votes_25 : decode F_M_votes.2.1 25 = .ok (.goto 4, 3) := by decide +kernel
theorem gd_M_votes_28 : decode F_M_votes.2.1 28 = .ok (.iconst 0, 1) := by decide +kernel
theorem gd_M_votes_29 : decode F_M_votes.2.1 29 = .ok (.putfield 100, 3) := by decide +kernel
theorem gd_M_votes_32 : decode F_M_votes.2.1 32 = .ok (.aload_n 0, 1) := by decide +kernel
theorem gd_M_votes_33 : decode F_M_votes.2.1 33 = .ok (.getfield 100, 3) := by decide +kernel
theorem gd_M_votes_36 : decode F_M_votes.2.1 36 = .ok (.ifCond .le 5, 3) := by decide +kernel
theorem gd_M_votes_39 : decode F_M_votes.2.1 39 = .ok (.iconst 0, 1) := by decide +kernel
theorem gd_M_votes_40 : decode F_M_votes.2.1 40 = .ok (.ireturn, 1) := by decide +kernel
theorem gd_M_votes_41 : decode F_M_votes.2.1 41 = .ok (.aload_n 0, 1) := by decide +kernel
theorem gd_M_votes_42 : decode F_M_votes.2.1 42 = .ok (.getfield 32, 3) := by decide +kernel
theorem gd_M_votes_45 : decode F_M_votes.2.1 45 = .ok (.iload_n 1, 1) := by decide +kernel
theorem gd_M_votes_46 : decode F_M_votes.2.1 46 = .ok (.iaload, 1) := by decide +kernel
theorem gd_M_votes_47 : decode F_M_votes.2.1 47 = .ok (.istore_n 3, 1) := by decide +kernel
theorem gd_M_votes_48 : decode F_M_votes.2.1 48 = .ok (.aload_n 0, 1) := by decide +kernel
theorem gd_M_votes_49 : decode F_M_votes.2.1 49 = .ok (.getfield 32, 3) := by decide +kernel
theorem gd_M_votes_52 : decode F_M_votes.2.1 52 = .ok (.iload_n 1, 1) := by decide +kernel
theorem gd_M_votes_53 : decode F_M_votes.2.1 53 = .ok (.iload_n 2, 1) := by decide +kernel
theorem gd_M_votes_54 : decode F_M_votes.2.1 54 = .ok (.iastore, 1) := by decide +kernel
theorem gd_M_votes_55 : decode F_M_votes.2.1 55 = .ok (.iload_n 3, 1) := by decide +kernel
theorem gd_M_votes_56 : decode F_M_votes.2.1 56 = .ok (.ireturn, 1) := by decide +kernel
theorem gd_M_waitsAt_0 : decode F_M_waitsAt.2.1 0 = .ok (.iconst 0, 1) := by decide +kernel
theorem gd_M_waitsAt_1 : decode F_M_waitsAt.2.1 1 = .ok (.istore_n 2, 1) := by decide +kernel
theorem gd_M_waitsAt_2 : decode F_M_waitsAt.2.1 2 = .ok (.iconst 0, 1) := by decide +kernel
theorem gd_M_waitsAt_3 : decode F_M_waitsAt.2.1 3 = .ok (.istore_n 3, 1) := by decide +kernel
theorem gd_M_waitsAt_4 : decode F_M_waitsAt.2.1 4 = .ok (.iload_n 3, 1) := by decide +kernel
theorem gd_M_waitsAt_5 : decode F_M_waitsAt.2.1 5 = .ok (.bipush 40, 2) := by decide +kernel
theorem gd_M_waitsAt_7 : decode F_M_waitsAt.2.1 7 = .ok (.if_icmp .ge 31, 3) := by decide +kernel
theorem gd_M_waitsAt_10 : decode F_M_waitsAt.2.1 10 = .ok (.iload_n 2, 1) := by decide +kernel
theorem gd_M_waitsAt_11 : decode F_M_waitsAt.2.1 11 = .ok (.aload_n 0, 1) := by decide +kernel
theorem gd_M_waitsAt_12 : decode F_M_waitsAt.2.1 12 = .ok (.getfield 50, 3) := by decide +kernel
theorem gd_M_waitsAt_15 : decode F_M_waitsAt.2.1 15 = .ok (.bipush 40, 2) := by decide +kernel
theorem gd_M_waitsAt_17 : decode F_M_waitsAt.2.1 17 = .ok (.iload_n 1, 1) := by decide +kernel
theorem gd_M_waitsAt_18 : decode F_M_waitsAt.2.1 18 = .ok (.imul, 1) := by decide +kernel
theorem gd_M_waitsAt_19 : decode F_M_waitsAt.2.1 19 = .ok (.iload_n 3, 1) := by decide +kernel
theorem gd_M_waitsAt_20 : decode F_M_waitsAt.2.1 20 = .ok (.iadd, 1) := by decide +kernel
theorem gd_M_waitsAt_21 : decode F_M_waitsAt.2.1 21 = .ok (.baload, 1) := by decide +kernel
theorem gd_M_waitsAt_22 : decode F_M_waitsAt.2.1 22 = .ok (.ifCond .eq 7, 3) := by decide +kernel
theorem gd_M_waitsAt_25 : decode F_M_waitsAt.2.1 25 = .ok (.iconst 1, 1) := by decide +kernel
theorem gd_M_waitsAt_26 : decode F_M_waitsAt.2.1 26 = .ok (.goto 4, 3) := by decide +kernel
theorem gd_M_waitsAt_29 : decode F_M_waitsAt.2.1 29 = .ok (.iconst 0, 1) := by decide +kernel
theorem gd_M_waitsAt_30 : decode F_M_waitsAt.2.1 30 = .ok (.iadd, 1) := by decide +kernel
theorem gd_M_waitsAt_31 : decode F_M_waitsAt.2.1 31 = .ok (.istore_n 2, 1) := by decide +kernel
theorem gd_M_waitsAt_32 : decode F_M_waitsAt.2.1 32 = .ok (.iinc 3 1, 3) := by decide +kernel
theorem gd_M_waitsAt_35 : decode F_M_waitsAt.2.1 35 = .ok (.goto (-31), 3) := by decide +kernel
theorem gd_M_waitsAt_38 : decode F_M_waitsAt.2.1 38 = .ok (.iconst 0, 1) := by decide +kernel
theorem gd_M_waitsAt_39 : decode F_M_waitsAt.2.1 39 = .ok (.istore_n 3, 1) := by decide +kernel
theorem gd_M_waitsAt_40 : decode F_M_waitsAt.2.1 40 = .ok (.iload_n 3, 1) := by decide +kernel
theorem gd_M_waitsAt_41 : decode F_M_waitsAt.2.1 41 = .ok (.bipush 12, 2) := by decide +kernel
theorem gd_M_waitsAt_43 : decode F_M_waitsAt.2.1 43 = .ok (.if_icmp .ge 32, 3) := by decide +kernel
theorem gd_M_waitsAt_46 : decode F_M_waitsAt.2.1 46 = .ok (.iload_n 2, 1) := by decide +kernel
theorem gd_M_waitsAt_47 : decode F_M_waitsAt.2.1 47 = .ok (.aload_n 0, 1) := by decide +kernel
theorem gd_M_waitsAt_48 : decode F_M_waitsAt.2.1 48 = .ok (.getfield 38, 3) := by decide +kernel
theorem gd_M_waitsAt_51 : decode F_M_waitsAt.2.1 51 = .ok (.iload_n 3, 1) := by decide +kernel
theorem gd_M_waitsAt_52 : decode F_M_waitsAt.2.1 52 = .ok (.iaload, 1) := by decide +kernel
theorem gd_M_waitsAt_53 : decode F_M_waitsAt.2.1 53 = .ok (.iload_n 1, 1) := by decide +kernel
theorem gd_M_waitsAt_54 : decode F_M_waitsAt.2.1 54 = .ok (.if_icmp .ne 12, 3) := by decide +kernel
theorem gd_M_waitsAt_57 : decode F_M_waitsAt.2.1 57 = .ok (.aload_n 0, 1) := by decide +kernel
theorem gd_M_waitsAt_58 : decode F_M_waitsAt.2.1 58 = .ok (.getfield 66, 3) := by decide +kernel
theorem gd_M_waitsAt_61 : decode F_M_waitsAt.2.1 61 = .ok (.iload_n 3, 1) := by decide +kernel
theorem gd_M_waitsAt_62 : decode F_M_waitsAt.2.1 62 = .ok (.iaload, 1) := by decide +kernel
theorem gd_M_waitsAt_63 : decode F_M_waitsAt.2.1 63 = .ok (.goto 4, 3) := by decide +kernel
theorem gd_M_waitsAt_66 : decode F_M_waitsAt.2.1 66 = .ok (.iconst 0, 1) := by decide +kernel
theorem gd_M_waitsAt_67 : decode F_M_waitsAt.2.1 67 = .ok (.iadd, 1) := by decide +kernel
theorem gd_M_waitsAt_68 : decode F_M_waitsAt.2.1 68 = .ok (.istore_n 2, 1) := by decide +kernel
theorem gd_M_waitsAt_69 : decode F_M_waitsAt.2.1 69 = .ok (.iinc 3 1, 3) := by decide +kernel
theorem gd_M_waitsAt_72 : decode F_M_waitsAt.2.1 72 = .ok (.goto (-32), 3) := by decide +kernel
theorem gd_M_waitsAt_75 : decode F_M_waitsAt.2.1 75 = .ok (.iload_n 2, 1) := by decide +kernel
theorem gd_M_waitsAt_76 : decode F_M_waitsAt.2.1 76 = .ok (.ireturn, 1) := by decide +kernel
