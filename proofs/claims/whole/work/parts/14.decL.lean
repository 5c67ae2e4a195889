/-! Printed by wip/whole/print_names.py: decode rows -/
theorem gd_L_deliver_0 : decode F_L_deliver.2.1 0 = .ok (.aload_n 2, 1) := by decide +kernel
theorem gd_L_deliver_1 : decode F_L_deliver.2.1 1 = .ok (.iconst 0, 1) := by decide +kernel
theorem gd_L_deliver_2 : decode F_L_deliver.2.1 2 = .ok (.aload_n 0, 1) := by decide +kernel
theorem gd_L_deliver_3 : decode F_L_deliver.2.1 3 = .ok (.iload_n 1, 1) := by decide +kernel
theorem gd_L_deliver_4 : decode F_L_deliver.2.1 4 = .ok (.invokevirtual 43, 3) := by decide +kernel
theorem gd_L_deliver_7 : decode F_L_deliver.2.1 7 = .ok (.ifCond .eq 7, 3) := by decide +kernel
theorem gd_L_deliver_10 : decode F_L_deliver.2.1 10 = .ok (.lconst 1, 1) := by decide +kernel
theorem gd_L_deliver_11 : decode F_L_deliver.2.1 11 = .ok (.goto 4, 3) := by decide +kernel
theorem gd_L_deliver_14 : decode F_L_deliver.2.1 14 = .ok (.lconst 0, 1) := by decide +kernel
theorem gd_L_deliver_15 : decode F_L_deliver.2.1 15 = .ok (.lastore, 1) := by decide +kernel
theorem gd_L_deliver_16 : decode F_L_deliver.2.1 16 = .ok (.goto 6, 3) := by decide +kernel
theorem gd_L_deliver_19 : decode F_L_deliver.2.1 19 = .ok (.astore_n 3, 1) := by decide +kernel
theorem gd_L_deliver_20 : decode F_L_deliver.2.1 20 = .ok (.iconst 1, 1) := by decide +kernel
theorem gd_L_deliver_21 : decode F_L_deliver.2.1 21 = .ok (.ireturn, 1) := by decide +kernel
theorem gd_L_deliver_22 : decode F_L_deliver.2.1 22 = .ok (.iconst 0, 1) := by decide +kernel
theorem gd_L_deliver_23 : decode F_L_deliver.2.1 23 = .ok (.ireturn, 1) := by decide +kernel
theorem gd_L_drop_0 : decode F_L_drop.2.1 0 = .ok (.aload_n 2, 1) := by decide +kernel
theorem gd_L_drop_1 : decode F_L_drop.2.1 1 = .ok (.iconst 0, 1) := by decide +kernel
theorem gd_L_drop_2 : decode F_L_drop.2.1 2 = .ok (.aload_n 0, 1) := by decide +kernel
theorem gd_L_drop_3 : decode F_L_drop.2.1 3 = .ok (.iload_n 1, 1) := by decide +kernel
theorem gd_L_drop_4 : decode F_L_drop.2.1 4 = .ok (.invokevirtual 47, 3) := by decide +kernel
theorem gd_L_drop_7 : decode F_L_drop.2.1 7 = .ok (.i2l, 1) := by decide +kernel
theorem gd_L_drop_8 : decode F_L_drop.2.1 8 = .ok (.lastore, 1) := by decide +kernel
theorem gd_L_drop_9 : decode F_L_drop.2.1 9 = .ok (.goto 6, 3) := by decide +kernel
theorem gd_L_drop_12 : decode F_L_drop.2.1 12 = .ok (.astore_n 3, 1) := by decide +kernel
theorem gd_L_drop_13 : decode F_L_drop.2.1 13 = .ok (.iconst 1, 1) := by decide +kernel
theorem gd_L_drop_14 : decode F_L_drop.2.1 14 = .ok (.ireturn, 1) := by decide +kernel
theorem gd_L_drop_15 : decode F_L_drop.2.1 15 = .ok (.iconst 0, 1) := by decide +kernel
theorem gd_L_drop_16 : decode F_L_drop.2.1 16 = .ok (.ireturn, 1) := by decide +kernel
theorem gd_L_fail_0 : decode F_L_fail.2.1 0 = .ok (.aload_n 2, 1) := by decide +kernel
theorem gd_L_fail_1 : decode F_L_fail.2.1 1 = .ok (.iconst 0, 1) := by decide +kernel
theorem gd_L_fail_2 : decode F_L_fail.2.1 2 = .ok (.aload_n 0, 1) := by decide +kernel
theorem gd_L_fail_3 : decode F_L_fail.2.1 3 = .ok (.iload_n 1, 1) := by decide +kernel
theorem gd_L_fail_4 : decode F_L_fail.2.1 4 = .ok (.invokevirtual 32, 3) := by decide +kernel
theorem gd_L_fail_7 : decode F_L_fail.2.1 7 = .ok (.i2l, 1) := by decide +kernel
theorem gd_L_fail_8 : decode F_L_fail.2.1 8 = .ok (.lastore, 1) := by decide +kernel
theorem gd_L_fail_9 : decode F_L_fail.2.1 9 = .ok (.goto 12, 3) := by decide +kernel
theorem gd_L_fail_12 : decode F_L_fail.2.1 12 = .ok (.astore_n 3, 1) := by decide +kernel
theorem gd_L_fail_13 : decode F_L_fail.2.1 13 = .ok (.iconst 1, 1) := by decide +kernel
theorem gd_L_fail_14 : decode F_L_fail.2.1 14 = .ok (.ireturn, 1) := by decide +kernel
theorem gd_L_fail_15 : decode F_L_fail.2.1 15 = .ok (.astore_n 3, 1) := by decide +kernel
theorem gd_L_fail_16 : decode F_L_fail.2.1 16 = .ok (.iconst 2, 1) := by decide +kernel
theorem gd_L_fail_17 : decode F_L_fail.2.1 17 = .ok (.ireturn, 1) := by decide +kernel
theorem gd_L_fail_18 : decode F_L_fail.2.1 18 = .ok (.astore_n 3, 1) := by decide +kernel
theorem gd_L_fail_19 : decode F_L_fail.2.1 19 = .ok (.iconst 3, 1) := by decide +kernel
theorem gd_L_fail_20 : decode F_L_fail.2.1 20 = .ok (.ireturn, 1) := by decide +kernel
theorem gd_L_fail_21 : decode F_L_fail.2.1 21 = .ok (.iconst 0, 1) := by decide +kernel
theorem gd_L_fail_22 : decode F_L_fail.2.1 22 = .ok (.ireturn, 1) := by decide +kernel
theorem gd_L_hang_0 : decode F_L_hang.2.1 0 = .ok (.aload_n 3, 1) := by decide +kernel
theorem gd_L_hang_1 : decode F_L_hang.2.1 1 = .ok (.iconst 0, 1) := by decide +kernel
theorem gd_L_hang_2 : decode F_L_hang.2.1 2 = .ok (.aload_n 0, 1) := by decide +kernel
theorem gd_L_hang_3 : decode F_L_hang.2.1 3 = .ok (.iload_n 1, 1) := by decide +kernel
theorem gd_L_hang_4 : decode F_L_hang.2.1 4 = .ok (.iload_n 2, 1) := by decide +kernel
theorem gd_L_hang_5 : decode F_L_hang.2.1 5 = .ok (.invokevirtual 29, 3) := by decide +kernel
theorem gd_L_hang_8 : decode F_L_hang.2.1 8 = .ok (.i2l, 1) := by decide +kernel
theorem gd_L_hang_9 : decode F_L_hang.2.1 9 = .ok (.lastore, 1) := by decide +kernel
theorem gd_L_hang_10 : decode F_L_hang.2.1 10 = .ok (.goto 19, 3) := by decide +kernel
theorem gd_L_hang_13 : decode F_L_hang.2.1 13 = .ok (.astore 4, 2) := by decide +kernel
theorem gd_L_hang_15 : decode F_L_hang.2.1 15 = .ok (.iconst 1, 1) := by decide +kernel
theorem gd_L_hang_16 : decode F_L_hang.2.1 16 = .ok (.ireturn, 1) := by decide +kernel
theorem gd_L_hang_17 : decode F_L_hang.2.1 17 = .ok (.astore 4, 2) := by decide +kernel
theorem gd_L_hang_19 : decode F_L_hang.2.1 19 = .ok (.iconst 2, 1) := by decide +kernel
theorem gd_L_hang_20 : decode F_L_hang.2.1 20 = .ok (.ireturn, 1) := by decide +kernel
theorem gd_L_hang_21 : decode F_L_hang.2.1 21 = .ok (.astore 4, 2) := by decide +kernel
theorem gd_L_hang_23 : decode F_L_hang.2.1 23 = .ok (.iconst 3, 1) := by decide +kernel
theorem gd_L_hang_24 : decode F_L_hang.2.1 24 = .ok (.ireturn, 1) := by decide +kernel
theorem gd_L_hang_25 : decode F_L_hang.2.1 25 = .ok (.astore 4, 2) := by decide +kernel
theorem gd_L_hang_27 : decode F_L_hang.2.1 27 = .ok (.iconst 4, 1) := by decide +kernel
theorem gd_L_hang_28 : decode F_L_hang.2.1 28 = .ok (.ireturn, 1) := by decide +kernel
theorem gd_L_hang_29 : decode F_L_hang.2.1 29 = .ok (.iconst 0, 1) := by decide +kernel
theorem gd_L_hang_30 : decode F_L_hang.2.1 30 = .ok (.ireturn, 1) := by decide +kernel
theorem gd_L_held_0 : decode F_L_held.2.1 0 = .ok (.aload 4, 2) := by decide +kernel
theorem gd_L_held_2 : decode F_L_held.2.1 2 = .ok (.iconst 0, 1) := by decide +kernel
theorem gd_L_held_3 : decode F_L_held.2.1 3 = .ok (.aload_n 0, 1) := by decide +kernel
theorem gd_L_held_4 : decode F_L_held.2.1 4 = .ok (.iload_n 1, 1) := by decide +kernel
theorem gd_L_held_5 : decode F_L_held.2.1 5 = .ok (.iload_n 2, 1) := by decide +kernel
theorem gd_L_held_6 : decode F_L_held.2.1 6 = .ok (.iload_n 3, 1) := by decide +kernel
theorem gd_L_held_7 : decode F_L_held.2.1 7 = .ok (.invokevirtual 69, 3) := by decide +kernel
theorem gd_L_held_10 : decode F_L_held.2.1 10 = .ok (.lastore, 1) := by decide +kernel
theorem gd_L_held_11 : decode F_L_held.2.1 11 = .ok (.goto 7, 3) := by decide +kernel
theorem gd_L_held_14 : decode F_L_held.2.1 14 = .ok (.astore 5, 2) := by decide +kernel
theorem gd_L_held_16 : decode F_L_held.2.1 16 = .ok (.iconst 1, 1) := by decide +kernel
theorem gd_L_held_17 : decode F_L_held.2.1 17 = .ok (.ireturn, 1) := by decide +kernel
theorem gd_L_held_18 : decode F_L_held.2.1 18 = .ok (.iconst 0, 1) := by decide +kernel
theorem gd_L_held_19 : decode F_L_held.2.1 19 = .ok (.ireturn, 1) := by decide +kernel
theorem gd_L_included_0 : decode F_L_included.2.1 0 = .ok (.aload_n 3, 1) := by decide +kernel
theorem gd_L_included_1 : decode F_L_included.2.1 1 = .ok (.iconst 0, 1) := by decide +kernel
theorem gd_L_included_2 : decode F_L_included.2.1 2 = .ok (.aload_n 0, 1) := by decide +kernel
theorem gd_L_included_3 : decode F_L_included.2.1 3 = .ok (.iload_n 1, 1) := by decide +kernel
theorem gd_L_included_4 : decode F_L_included.2.1 4 = .ok (.iload_n 2, 1) := by decide +kernel
theorem gd_L_included_5 : decode F_L_included.2.1 5 = .ok (.invokevirtual 63, 3) := by decide +kernel
theorem gd_L_included_8 : decode F_L_included.2.1 8 = .ok (.i2l, 1) := by decide +kernel
theorem gd_L_included_9 : decode F_L_included.2.1 9 = .ok (.lastore, 1) := by decide +kernel
theorem gd_L_included_10 : decode F_L_included.2.1 10 = .ok (.goto 7, 3) := by decide +kernel
theorem gd_L_included_13 : decode F_L_included.2.1 13 = .ok (.astore 4, 2) := by decide +kernel
theorem gd_L_included_15 : decode F_L_included.2.1 15 = .ok (.iconst 1, 1) := by decide +kernel
theorem gd_L_included_16 : decode F_L_included.2.1 16 = .ok (.ireturn, 1) := by decide +kernel
theorem gd_L_included_17 : decode F_L_included.2.1 17 = .ok (.iconst 0, 1) := by decide +kernel
theorem gd_L_included_18 : decode F_L_included.2.1 18 = .ok (.ireturn, 1) := by decide +kernel
theorem gd_L_letter_0 : decode F_L_letter.2.1 0 = .ok (.aload_n 3, 1) := by decide +kernel
theorem gd_L_letter_1 : decode F_L_letter.2.1 1 = .ok (.iconst 0, 1) := by decide +kernel
theorem gd_L_letter_2 : decode F_L_letter.2.1 2 = .ok (.aload_n 0, 1) := by decide +kernel
theorem gd_L_letter_3 : decode F_L_letter.2.1 3 = .ok (.iload_n 1, 1) := by decide +kernel
theorem gd_L_letter_4 : decode F_L_letter.2.1 4 = .ok (.iload_n 2, 1) := by decide +kernel
theorem gd_L_letter_5 : decode F_L_letter.2.1 5 = .ok (.invokevirtual 56, 3) := by decide +kernel
theorem gd_L_letter_8 : decode F_L_letter.2.1 8 = .ok (.i2l, 1) := by decide +kernel
theorem gd_L_letter_9 : decode F_L_letter.2.1 9 = .ok (.lastore, 1) := by decide +kernel
theorem gd_L_letter_10 : decode F_L_letter.2.1 10 = .ok (.goto 11, 3) := by decide +kernel
theorem gd_L_letter_13 : decode F_L_letter.2.1 13 = .ok (.astore 4, 2) := by decide +kernel
theorem gd_L_letter_15 : decode F_L_letter.2.1 15 = .ok (.iconst 1, 1) := by decide +kernel
theorem gd_L_letter_16 : decode F_L_letter.2.1 16 = .ok (.ireturn, 1) := by decide +kernel
theorem gd_L_letter_17 : decode F_L_letter.2.1 17 = .ok (.astore 4, 2) := by decide +kernel
theorem gd_L_letter_19 : decode F_L_letter.2.1 19 = .ok (.iconst 2, 1) := by decide +kernel
theorem gd_L_letter_20 : decode F_L_letter.2.1 20 = .ok (.ireturn, 1) := by decide +kernel
theorem gd_L_letter_21 : decode F_L_letter.2.1 21 = .ok (.iconst 0, 1) := by decide +kernel
theorem gd_L_letter_22 : decode F_L_letter.2.1 22 = .ok (.ireturn, 1) := by decide +kernel
theorem gd_L_marked_0 : decode F_L_marked.2.1 0 = .ok (.aload_n 2, 1) := by decide +kernel
theorem gd_L_marked_1 : decode F_L_marked.2.1 1 = .ok (.iconst 0, 1) := by decide +kernel
theorem gd_L_marked_2 : decode F_L_marked.2.1 2 = .ok (.aload_n 0, 1) := by decide +kernel
theorem gd_L_marked_3 : decode F_L_marked.2.1 3 = .ok (.iload_n 1, 1) := by decide +kernel
theorem gd_L_marked_4 : decode F_L_marked.2.1 4 = .ok (.invokevirtual 73, 3) := by decide +kernel
theorem gd_L_marked_7 : decode F_L_marked.2.1 7 = .ok (.i2l, 1) := by decide +kernel
theorem gd_L_marked_8 : decode F_L_marked.2.1 8 = .ok (.lastore, 1) := by decide +kernel
theorem gd_L_marked_9 : decode F_L_marked.2.1 9 = .ok (.goto 6, 3) := by decide +kernel
theorem gd_L_marked_12 : decode F_L_marked.2.1 12 = .ok (.astore_n 3, 1) := by decide +kernel
theorem gd_L_marked_13 : decode F_L_marked.2.1 13 = .ok (.iconst 1, 1) := by decide +kernel
theorem gd_L_marked_14 : decode F_L_marked.2.1 14 = .ok (.ireturn, 1) := by decide +kernel
theorem gd_L_marked_15 : decode F_L_marked.2.1 15 = .ok (.iconst 0, 1) := by decide +kernel
theorem gd_L_marked_16 : decode F_L_marked.2.1 16 = .ok (.ireturn, 1) := by decide +kernel
theorem gd_L_move_0 : decode F_L_move.2.1 0 = .ok (.aload_n 3, 1) := by decide +kernel
theorem gd_L_move_1 : decode F_L_move.2.1 1 = .ok (.iconst 0, 1) := by decide +kernel
theorem gd_L_move_2 : decode F_L_move.2.1 2 = .ok (.aload_n 0, 1) := by decide +kernel
theorem gd_L_move_3 : decode F_L_move.2.1 3 = .ok (.iload_n 1, 1) := by decide +kernel
theorem gd_L_move_4 : decode F_L_move.2.1 4 = .ok (.iload_n 2, 1) := by decide +kernel
theorem gd_L_move_5 : decode F_L_move.2.1 5 = .ok (.invokevirtual 39, 3) := by decide +kernel
theorem gd_L_move_8 : decode F_L_move.2.1 8 = .ok (.ifCond .eq 7, 3) := by decide +kernel
theorem gd_L_move_11 : decode F_L_move.2.1 11 = .ok (.lconst 1, 1) := by decide +kernel
theorem gd_L_move_12 : decode F_L_move.2.1 12 = .ok (.goto 4, 3) := by decide +kernel
theorem gd_L_move_15 : decode F_L_move.2.1 15 = .ok (.lconst 0, 1) := by decide +kernel
theorem gd_L_move_16 : decode F_L_move.2.1 16 = .ok (.lastore, 1) := by decide +kernel
theorem gd_L_move_17 : decode F_L_move.2.1 17 = .ok (.goto 11, 3) := by decide +kernel
theorem gd_L_move_20 : decode F_L_move.2.1 20 = .ok (.astore 4, 2) := by decide +kernel
theorem gd_L_move_22 : decode F_L_move.2.1 22 = .ok (.iconst 1, 1) := by decide +kernel
theorem gd_L_move_23 : decode F_L_move.2.1 23 = .ok (.ireturn, 1) := by decide +kernel
theorem gd_L_move_24 : decode F_L_move.2.1 24 = .ok (.astore 4, 2) := by decide +kernel
theorem gd_L_move_26 : decode F_L_move.2.1 26 = .ok (.iconst 2, 1) := by decide +kernel
theorem gd_L_move_27 : decode F_L_move.2.1 27 = .ok (.ireturn, 1) := by decide +kernel
theorem gd_L_move_28 : decode F_L_move.2.1 28 = .ok (.iconst 0, 1) := by decide +kernel
theorem gd_L_move_29 : decode F_L_move.2.1 29 = .ok (.ireturn, 1) := by decide +kernel
theorem gd_L_newest_0 : decode F_L_newest.2.1 0 = .ok (.aload_n 2, 1) := by decide +kernel
theorem gd_L_newest_1 : decode F_L_newest.2.1 1 = .ok (.iconst 0, 1) := by decide +kernel
theorem gd_L_newest_2 : decode F_L_newest.2.1 2 = .ok (.aload_n 0, 1) := by decide +kernel
theorem gd_L_newest_3 : decode F_L_newest.2.1 3 = .ok (.iload_n 1, 1) := by decide +kernel
theorem gd_L_newest_4 : decode F_L_newest.2.1 4 = .ok (.invokevirtual 79, 3) := by decide +kernel
theorem gd_L_newest_7 : decode F_L_newest.2.1 7 = .ok (.i2l, 1) := by decide +kernel
theorem gd_L_newest_8 : decode F_L_newest.2.1 8 = .ok (.lastore, 1) := by decide +kernel
theorem gd_L_newest_9 : decode F_L_newest.2.1 9 = .ok (.goto 6, 3) := by decide +kernel
theorem gd_L_newest_12 : decode F_L_newest.2.1 12 = .ok (.astore_n 3, 1) := by decide +kernel
theorem gd_L_newest_13 : decode F_L_newest.2.1 13 = .ok (.iconst 1, 1) := by decide +kernel
theorem gd_L_newest_14 : decode F_L_newest.2.1 14 = .ok (.ireturn, 1) := by decide +kernel
theorem gd_L_newest_15 : decode F_L_newest.2.1 15 = .ok (.iconst 0, 1) := by decide +kernel
theorem gd_L_newest_16 : decode F_L_newest.2.1 16 = .ok (.ireturn, 1) := by decide +kernel
theorem gd_L_office_0 : decode F_L_office.2.1 0 = .ok (.aload_n 3, 1) := by decide +kernel
theorem gd_L_office_1 : decode F_L_office.2.1 1 = .ok (.iconst 0, 1) := by decide +kernel
theorem gd_L_office_2 : decode F_L_office.2.1 2 = .ok (.aload_n 0, 1) := by decide +kernel
theorem gd_L_office_3 : decode F_L_office.2.1 3 = .ok (.iload_n 1, 1) := by decide +kernel
theorem gd_L_office_4 : decode F_L_office.2.1 4 = .ok (.iload_n 2, 1) := by decide +kernel
theorem gd_L_office_5 : decode F_L_office.2.1 5 = .ok (.invokevirtual 76, 3) := by decide +kernel
theorem gd_L_office_8 : decode F_L_office.2.1 8 = .ok (.i2l, 1) := by decide +kernel
theorem gd_L_office_9 : decode F_L_office.2.1 9 = .ok (.lastore, 1) := by decide +kernel
theorem gd_L_office_10 : decode F_L_office.2.1 10 = .ok (.goto 11, 3) := by decide +kernel
theorem gd_L_office_13 : decode F_L_office.2.1 13 = .ok (.astore 4, 2) := by decide +kernel
theorem gd_L_office_15 : decode F_L_office.2.1 15 = .ok (.iconst 1, 1) := by decide +kernel
theorem gd_L_office_16 : decode F_L_office.2.1 16 = .ok (.ireturn, 1) := by decide +kernel
theorem gd_L_office_17 : decode F_L_office.2.1 17 = .ok (.astore 4, 2) := by decide +kernel
theorem gd_L_office_19 : decode F_L_office.2.1 19 = .ok (.iconst 2, 1) := by decide +kernel
theorem gd_L_office_20 : decode F_L_office.2.1 20 = .ok (.ireturn, 1) := by decide +kernel
theorem gd_L_office_21 : decode F_L_office.2.1 21 = .ok (.iconst 0, 1) := by decide +kernel
theorem gd_L_office_22 : decode F_L_office.2.1 22 = .ok (.ireturn, 1) := by decide +kernel
theorem gd_L_precinct_0 : decode F_L_precinct.2.1 0 = .ok (.aload_n 0, 1) := by decide +kernel
theorem gd_L_precinct_1 : decode F_L_precinct.2.1 1 = .ok (.iload_n 1, 1) := by decide +kernel
theorem gd_L_precinct_2 : decode F_L_precinct.2.1 2 = .ok (.iload_n 2, 1) := by decide +kernel
theorem gd_L_precinct_3 : decode F_L_precinct.2.1 3 = .ok (.iload_n 3, 1) := by decide +kernel
theorem gd_L_precinct_4 : decode F_L_precinct.2.1 4 = .ok (.invokevirtual 7, 3) := by decide +kernel
theorem gd_L_precinct_7 : decode F_L_precinct.2.1 7 = .ok (.goto 15, 3) := by decide +kernel
theorem gd_L_precinct_10 : decode F_L_precinct.2.1 10 = .ok (.astore 4, 2) := by decide +kernel
theorem gd_L_precinct_12 : decode F_L_precinct.2.1 12 = .ok (.iconst 1, 1) := by decide +kernel
theorem gd_L_precinct_13 : decode F_L_precinct.2.1 13 = .ok (.ireturn, 1) := by decide +kernel
theorem gd_L_precinct_14 : decode F_L_precinct.2.1 14 = .ok (.astore 4, 2) := by decide +kernel
theorem gd_L_precinct_16 : decode F_L_precinct.2.1 16 = .ok (.iconst 2, 1) := by decide +kernel
theorem gd_L_precinct_17 : decode F_L_precinct.2.1 17 = .ok (.ireturn, 1) := by decide +kernel
theorem gd_L_precinct_18 : decode F_L_precinct.2.1 18 = .ok (.astore 4, 2) := by decide +kernel
theorem gd_L_precinct_20 : decode F_L_precinct.2.1 20 = .ok (.iconst 3, 1) := by decide +kernel
theorem gd_L_precinct_21 : decode F_L_precinct.2.1 21 = .ok (.ireturn, 1) := by decide +kernel
theorem gd_L_precinct_22 : decode F_L_precinct.2.1 22 = .ok (.iconst 0, 1) := by decide +kernel
theorem gd_L_precinct_23 : decode F_L_precinct.2.1 23 = .ok (.ireturn, 1) := by decide +kernel
theorem gd_L_resend_0 : decode F_L_resend.2.1 0 = .ok (.aload_n 2, 1) := by decide +kernel
theorem gd_L_resend_1 : decode F_L_resend.2.1 1 = .ok (.iconst 0, 1) := by decide +kernel
theorem gd_L_resend_2 : decode F_L_resend.2.1 2 = .ok (.aload_n 0, 1) := by decide +kernel
theorem gd_L_resend_3 : decode F_L_resend.2.1 3 = .ok (.iload_n 1, 1) := by decide +kernel
theorem gd_L_resend_4 : decode F_L_resend.2.1 4 = .ok (.invokevirtual 53, 3) := by decide +kernel
theorem gd_L_resend_7 : decode F_L_resend.2.1 7 = .ok (.i2l, 1) := by decide +kernel
theorem gd_L_resend_8 : decode F_L_resend.2.1 8 = .ok (.lastore, 1) := by decide +kernel
theorem gd_L_resend_9 : decode F_L_resend.2.1 9 = .ok (.goto 9, 3) := by decide +kernel
theorem gd_L_resend_12 : decode F_L_resend.2.1 12 = .ok (.astore_n 3, 1) := by decide +kernel
theorem gd_L_resend_13 : decode F_L_resend.2.1 13 = .ok (.iconst 1, 1) := by decide +kernel
theorem gd_L_resend_14 : decode F_L_resend.2.1 14 = .ok (.ireturn, 1) := by decide +kernel
theorem gd_L_resend_15 : decode F_L_resend.2.1 15 = .ok (.astore_n 3, 1) := by decide +kernel
theorem gd_L_resend_16 : decode F_L_resend.2.1 16 = .ok (.iconst 2, 1) := by decide +kernel
theorem gd_L_resend_17 : decode F_L_resend.2.1 17 = .ok (.ireturn, 1) := by decide +kernel
theorem gd_L_resend_18 : decode F_L_resend.2.1 18 = .ok (.iconst 0, 1) := by decide +kernel
theorem gd_L_resend_19 : decode F_L_resend.2.1 19 = .ok (.ireturn, 1) := by decide +kernel
theorem gd_L_revive_0 : decode F_L_revive.2.1 0 = .ok (.aload_n 2, 1) := by decide +kernel
theorem gd_L_revive_1 : decode F_L_revive.2.1 1 = .ok (.iconst 0, 1) := by decide +kernel
theorem gd_L_revive_2 : decode F_L_revive.2.1 2 = .ok (.aload_n 0, 1) := by decide +kernel
theorem gd_L_revive_3 : decode F_L_revive.2.1 3 = .ok (.iload_n 1, 1) := by decide +kernel
theorem gd_L_revive_4 : decode F_L_revive.2.1 4 = .ok (.invokevirtual 36, 3) := by decide +kernel
theorem gd_L_revive_7 : decode F_L_revive.2.1 7 = .ok (.i2l, 1) := by decide +kernel
theorem gd_L_revive_8 : decode F_L_revive.2.1 8 = .ok (.lastore, 1) := by decide +kernel
theorem gd_L_revive_9 : decode F_L_revive.2.1 9 = .ok (.goto 9, 3) := by decide +kernel
theorem gd_L_revive_12 : decode F_L_revive.2.1 12 = .ok (.astore_n 3, 1) := by decide +kernel
theorem gd_L_revive_13 : decode F_L_revive.2.1 13 = .ok (.iconst 1, 1) := by decide +kernel
theorem gd_L_revive_14 : decode F_L_revive.2.1 14 = .ok (.ireturn, 1) := by decide +kernel
theorem gd_L_revive_15 : decode F_L_revive.2.1 15 = .ok (.astore_n 3, 1) := by decide +kernel
theorem gd_L_revive_16 : decode F_L_revive.2.1 16 = .ok (.iconst 2, 1) := by decide +kernel
theorem gd_L_revive_17 : decode F_L_revive.2.1 17 = .ok (.ireturn, 1) := by decide +kernel
theorem gd_L_revive_18 : decode F_L_revive.2.1 18 = .ok (.iconst 0, 1) := by decide +kernel
theorem gd_L_revive_19 : decode F_L_revive.2.1 19 = .ok (.ireturn, 1) := by decide +kernel
theorem gd_L_seats_0 : decode F_L_seats.2.1 0 = .ok (.aload 5, 2) := by decide +kernel
theorem gd_L_seats_2 : decode F_L_seats.2.1 2 = .ok (.iconst 0, 1) := by decide +kernel
theorem gd_L_seats_3 : decode F_L_seats.2.1 3 = .ok (.aload_n 0, 1) := by decide +kernel
theorem gd_L_seats_4 : decode F_L_seats.2.1 4 = .ok (.iload_n 1, 1) := by decide +kernel
theorem gd_L_seats_5 : decode F_L_seats.2.1 5 = .ok (.iload_n 2, 1) := by decide +kernel
theorem gd_L_seats_6 : decode F_L_seats.2.1 6 = .ok (.iload_n 3, 1) := by decide +kernel
theorem gd_L_seats_7 : decode F_L_seats.2.1 7 = .ok (.iload 4, 2) := by decide +kernel
theorem gd_L_seats_9 : decode F_L_seats.2.1 9 = .ok (.invokevirtual 82, 3) := by decide +kernel
theorem gd_L_seats_12 : decode F_L_seats.2.1 12 = .ok (.i2l, 1) := by decide +kernel
theorem gd_L_seats_13 : decode F_L_seats.2.1 13 = .ok (.lastore, 1) := by decide +kernel
theorem gd_L_seats_14 : decode F_L_seats.2.1 14 = .ok (.goto 11, 3) := by decide +kernel
theorem gd_L_seats_17 : decode F_L_seats.2.1 17 = .ok (.astore 6, 2) := by decide +kernel
theorem gd_L_seats_19 : decode F_L_seats.2.1 19 = .ok (.iconst 1, 1) := by decide +kernel
theorem gd_L_seats_20 : decode F_L_seats.2.1 20 = .ok (.ireturn, 1) := by decide +kernel
theorem gd_L_seats_21 : decode F_L_seats.2.1 21 = .ok (.astore 6, 2) := by decide +kernel
theorem gd_L_seats_23 : decode F_L_seats.2.1 23 = .ok (.iconst 2, 1) := by decide +kernel
theorem gd_L_seats_24 : decode F_L_seats.2.1 24 = .ok (.ireturn, 1) := by decide +kernel
theorem gd_L_seats_25 : decode F_L_seats.2.1 25 = .ok (.iconst 0, 1) := by decide +kernel
theorem gd_L_seats_26 : decode F_L_seats.2.1 26 = .ok (.ireturn, 1) := by decide +kernel
theorem gd_L_sum_0 : decode F_L_sum.2.1 0 = .ok (.aload_n 3, 1) := by decide +kernel
theorem gd_L_sum_1 : decode F_L_sum.2.1 1 = .ok (.iconst 0, 1) := by decide +kernel
theorem gd_L_sum_2 : decode F_L_sum.2.1 2 = .ok (.aload_n 0, 1) := by decide +kernel
theorem gd_L_sum_3 : decode F_L_sum.2.1 3 = .ok (.iload_n 1, 1) := by decide +kernel
theorem gd_L_sum_4 : decode F_L_sum.2.1 4 = .ok (.iload_n 2, 1) := by decide +kernel
theorem gd_L_sum_5 : decode F_L_sum.2.1 5 = .ok (.invokevirtual 59, 3) := by decide +kernel
theorem gd_L_sum_8 : decode F_L_sum.2.1 8 = .ok (.lastore, 1) := by decide +kernel
theorem gd_L_sum_9 : decode F_L_sum.2.1 9 = .ok (.goto 7, 3) := by decide +kernel
theorem gd_L_sum_12 : decode F_L_sum.2.1 12 = .ok (.astore 4, 2) := by decide +kernel
theorem gd_L_sum_14 : decode F_L_sum.2.1 14 = .ok (.iconst 1, 1) := by decide +kernel
theorem gd_L_sum_15 : decode F_L_sum.2.1 15 = .ok (.ireturn, 1) := by decide +kernel
theorem gd_L_sum_16 : decode F_L_sum.2.1 16 = .ok (.iconst 0, 1) := by decide +kernel
theorem gd_L_sum_17 : decode F_L_sum.2.1 17 = .ok (.ireturn, 1) := by decide +kernel
theorem gd_L_through_0 : decode F_L_through.2.1 0 = .ok (.aload_n 3, 1) := by decide +kernel
theorem gd_L_through_1 : decode F_L_through.2.1 1 = .ok (.iconst 0, 1) := by decide +kernel
theorem gd_L_through_2 : decode F_L_through.2.1 2 = .ok (.aload_n 0, 1) := by decide +kernel
theorem gd_L_through_3 : decode F_L_through.2.1 3 = .ok (.iload_n 1, 1) := by decide +kernel
theorem gd_L_through_4 : decode F_L_through.2.1 4 = .ok (.iload_n 2, 1) := by decide +kernel
theorem gd_L_through_5 : decode F_L_through.2.1 5 = .ok (.invokevirtual 66, 3) := by decide +kernel
theorem gd_L_through_8 : decode F_L_through.2.1 8 = .ok (.i2l, 1) := by decide +kernel
theorem gd_L_through_9 : decode F_L_through.2.1 9 = .ok (.lastore, 1) := by decide +kernel
theorem gd_L_through_10 : decode F_L_through.2.1 10 = .ok (.goto 7, 3) := by decide +kernel
theorem gd_L_through_13 : decode F_L_through.2.1 13 = .ok (.astore 4, 2) := by decide +kernel
theorem gd_L_through_15 : decode F_L_through.2.1 15 = .ok (.iconst 1, 1) := by decide +kernel
theorem gd_L_through_16 : decode F_L_through.2.1 16 = .ok (.ireturn, 1) := by decide +kernel
theorem gd_L_through_17 : decode F_L_through.2.1 17 = .ok (.iconst 0, 1) := by decide +kernel
theorem gd_L_through_18 : decode F_L_through.2.1 18 = .ok (.ireturn, 1) := by decide +kernel
theorem gd_L_twin_0 : decode F_L_twin.2.1 0 = .ok (.aload_n 2, 1) := by decide +kernel
theorem gd_L_twin_1 : decode F_L_twin.2.1 1 = .ok (.iconst 0, 1) := by decide +kernel
theorem gd_L_twin_2 : decode F_L_twin.2.1 2 = .ok (.aload_n 0, 1) := by decide +kernel
theorem gd_L_twin_3 : decode F_L_twin.2.1 3 = .ok (.iload_n 1, 1) := by decide +kernel
theorem gd_L_twin_4 : decode F_L_twin.2.1 4 = .ok (.invokevirtual 50, 3) := by decide +kernel
theorem gd_L_twin_7 : decode F_L_twin.2.1 7 = .ok (.i2l, 1) := by decide +kernel
theorem gd_L_twin_8 : decode F_L_twin.2.1 8 = .ok (.lastore, 1) := by decide +kernel
theorem gd_L_twin_9 : decode F_L_twin.2.1 9 = .ok (.goto 9, 3) := by decide +kernel
theorem gd_L_twin_12 : decode F_L_twin.2.1 12 = .ok (.astore_n 3, 1) := by decide +kernel
theorem gd_L_twin_13 : decode F_L_twin.2.1 13 = .ok (.iconst 1, 1) := by decide +kernel
theorem gd_L_twin_14 : decode F_L_twin.2.1 14 = .ok (.ireturn, 1) := by decide +kernel
theorem gd_L_twin_15 : decode F_L_twin.2.1 15 = .ok (.astore_n 3, 1) := by decide +kernel
theorem gd_L_twin_16 : decode F_L_twin.2.1 16 = .ok (.iconst 2, 1) := by decide +kernel
theorem gd_L_twin_17 : decode F_L_twin.2.1 17 = .ok (.ireturn, 1) := by decide +kernel
theorem gd_L_twin_18 : decode F_L_twin.2.1 18 = .ok (.iconst 0, 1) := by decide +kernel
theorem gd_L_twin_19 : decode F_L_twin.2.1 19 = .ok (.ireturn, 1) := by decide +kernel
theorem gd_L_version_0 : decode F_L_version.2.1 0 = .ok (.aload 5, 2) := by decide +kernel
theorem gd_L_version_2 : decode F_L_version.2.1 2 = .ok (.iconst 0, 1) := by decide +kernel
theorem gd_L_version_3 : decode F_L_version.2.1 3 = .ok (.aload_n 0, 1) := by decide +kernel
theorem gd_L_version_4 : decode F_L_version.2.1 4 = .ok (.iload_n 1, 1) := by decide +kernel
theorem gd_L_version_5 : decode F_L_version.2.1 5 = .ok (.iload_n 2, 1) := by decide +kernel
theorem gd_L_version_6 : decode F_L_version.2.1 6 = .ok (.iload_n 3, 1) := by decide +kernel
theorem gd_L_version_7 : decode F_L_version.2.1 7 = .ok (.iload 4, 2) := by decide +kernel
theorem gd_L_version_9 : decode F_L_version.2.1 9 = .ok (.invokevirtual 23, 3) := by decide +kernel
theorem gd_L_version_12 : decode F_L_version.2.1 12 = .ok (.i2l, 1) := by decide +kernel
theorem gd_L_version_13 : decode F_L_version.2.1 13 = .ok (.lastore, 1) := by decide +kernel
theorem gd_L_version_14 : decode F_L_version.2.1 14 = .ok (.goto 15, 3) := by decide +kernel
theorem gd_L_version_17 : decode F_L_version.2.1 17 = .ok (.astore 6, 2) := by decide +kernel
theorem gd_L_version_19 : decode F_L_version.2.1 19 = .ok (.iconst 1, 1) := by decide +kernel
theorem gd_L_version_20 : decode F_L_version.2.1 20 = .ok (.ireturn, 1) := by decide +kernel
theorem gd_L_version_21 : decode F_L_version.2.1 21 = .ok (.astore 6, 2) := by decide +kernel
theorem gd_L_version_23 : decode F_L_version.2.1 23 = .ok (.iconst 2, 1) := by decide +kernel
theorem gd_L_version_24 : decode F_L_version.2.1 24 = .ok (.ireturn, 1) := by decide +kernel
theorem gd_L_version_25 : decode F_L_version.2.1 25 = .ok (.astore 6, 2) := by decide +kernel
theorem gd_L_version_27 : decode F_L_version.2.1 27 = .ok (.iconst 3, 1) := by decide +kernel
theorem gd_L_version_28 : decode F_L_version.2.1 28 = .ok (.ireturn, 1) := by decide +kernel
theorem gd_L_version_29 : decode F_L_version.2.1 29 = .ok (.iconst 0, 1) := by decide +kernel
theorem gd_L_version_30 : decode F_L_version.2.1 30 = .ok (.ireturn, 1) := by decide +kernel
theorem gd_L_votes_0 : decode F_L_votes.2.1 0 = .ok (.aload_n 3, 1) := by decide +kernel
theorem gd_L_votes_1 : decode F_L_votes.2.1 1 = .ok (.iconst 0, 1) := by decide +kernel
theorem gd_L_votes_2 : decode F_L_votes.2.1 2 = .ok (.aload_n 0, 1) := by decide +kernel
theorem gd_L_votes_3 : decode F_L_votes.2.1 3 = .ok (.iload_n 1, 1) := by decide +kernel
theorem gd_L_votes_4 : decode F_L_votes.2.1 4 = .ok (.iload_n 2, 1) := by decide +kernel
theorem gd_L_votes_5 : decode F_L_votes.2.1 5 = .ok (.invokevirtual 19, 3) := by decide +kernel
theorem gd_L_votes_8 : decode F_L_votes.2.1 8 = .ok (.i2l, 1) := by decide +kernel
theorem gd_L_votes_9 : decode F_L_votes.2.1 9 = .ok (.lastore, 1) := by decide +kernel
theorem gd_L_votes_10 : decode F_L_votes.2.1 10 = .ok (.goto 11, 3) := by decide +kernel
theorem gd_L_votes_13 : decode F_L_votes.2.1 13 = .ok (.astore 4, 2) := by decide +kernel
theorem gd_L_votes_15 : decode F_L_votes.2.1 15 = .ok (.iconst 1, 1) := by decide +kernel
theorem gd_L_votes_16 : decode F_L_votes.2.1 16 = .ok (.ireturn, 1) := by decide +kernel
theorem gd_L_votes_17 : decode F_L_votes.2.1 17 = .ok (.astore 4, 2) := by decide +kernel
theorem gd_L_votes_19 : decode F_L_votes.2.1 19 = .ok (.iconst 2, 1) := by decide +kernel
theorem gd_L_votes_20 : decode F_L_votes.2.1 20 = .ok (.ireturn, 1) := by decide +kernel
theorem gd_L_votes_21 : decode F_L_votes.2.1 21 = .ok (.iconst 0, 1) := by decide +kernel
theorem gd_L_votes_22 : decode F_L_votes.2.1 22 = .ok (.ireturn, 1) := by decide +kernel
