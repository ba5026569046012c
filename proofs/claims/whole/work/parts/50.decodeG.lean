/-! Decode rows, printed. -/
theorem d_Law_cell_0 : decode M_Law_cell.2.1 0 = .ok (.iload_n 1, 1) := by decide +kernel
theorem d_Law_cell_1 : decode M_Law_cell.2.1 1 = .ok (.aload_n 0, 1) := by decide +kernel
theorem d_Law_cell_2 : decode M_Law_cell.2.1 2 = .ok (.arraylength, 1) := by decide +kernel
theorem d_Law_cell_3 : decode M_Law_cell.2.1 3 = .ok (.if_icmp .ge 9, 3) := by decide +kernel
theorem d_Law_cell_6 : decode M_Law_cell.2.1 6 = .ok (.aload_n 0, 1) := by decide +kernel
theorem d_Law_cell_7 : decode M_Law_cell.2.1 7 = .ok (.iload_n 1, 1) := by decide +kernel
theorem d_Law_cell_8 : decode M_Law_cell.2.1 8 = .ok (.iaload, 1) := by decide +kernel
theorem d_Law_cell_9 : decode M_Law_cell.2.1 9 = .ok (.goto 4, 3) := by decide +kernel
theorem d_Law_cell_12 : decode M_Law_cell.2.1 12 = .ok (.iconst 0, 1) := by decide +kernel
theorem d_Law_cell_13 : decode M_Law_cell.2.1 13 = .ok (.ireturn, 1) := by decide +kernel
theorem d_Law_at_0 : decode M_Law_at.2.1 0 = .ok (.aload_n 2, 1) := by decide +kernel
theorem d_Law_at_1 : decode M_Law_at.2.1 1 = .ok (.iconst 0, 1) := by decide +kernel
theorem d_Law_at_2 : decode M_Law_at.2.1 2 = .ok (.aload_n 0, 1) := by decide +kernel
theorem d_Law_at_3 : decode M_Law_at.2.1 3 = .ok (.iload_n 1, 1) := by decide +kernel
theorem d_Law_at_4 : decode M_Law_at.2.1 4 = .ok (.invokevirtual 7, 3) := by decide +kernel
theorem d_Law_at_7 : decode M_Law_at.2.1 7 = .ok (.i2l, 1) := by decide +kernel
theorem d_Law_at_8 : decode M_Law_at.2.1 8 = .ok (.lastore, 1) := by decide +kernel
theorem d_Law_at_9 : decode M_Law_at.2.1 9 = .ok (.goto 6, 3) := by decide +kernel
theorem d_Law_at_12 : decode M_Law_at.2.1 12 = .ok (.astore_n 3, 1) := by decide +kernel
theorem d_Law_at_13 : decode M_Law_at.2.1 13 = .ok (.iconst 1, 1) := by decide +kernel
theorem d_Law_at_14 : decode M_Law_at.2.1 14 = .ok (.ireturn, 1) := by decide +kernel
theorem d_Law_at_15 : decode M_Law_at.2.1 15 = .ok (.iconst 0, 1) := by decide +kernel
theorem d_Law_at_16 : decode M_Law_at.2.1 16 = .ok (.ireturn, 1) := by decide +kernel
theorem d_Law_put_0 : decode M_Law_put.2.1 0 = .ok (.aload_n 3, 1) := by decide +kernel
theorem d_Law_put_1 : decode M_Law_put.2.1 1 = .ok (.iconst 0, 1) := by decide +kernel
theorem d_Law_put_2 : decode M_Law_put.2.1 2 = .ok (.aload_n 0, 1) := by decide +kernel
theorem d_Law_put_3 : decode M_Law_put.2.1 3 = .ok (.iload_n 1, 1) := by decide +kernel
theorem d_Law_put_4 : decode M_Law_put.2.1 4 = .ok (.iload_n 2, 1) := by decide +kernel
theorem d_Law_put_5 : decode M_Law_put.2.1 5 = .ok (.invokevirtual 15, 3) := by decide +kernel
theorem d_Law_put_8 : decode M_Law_put.2.1 8 = .ok (.ifCond .eq 7, 3) := by decide +kernel
theorem d_Law_put_11 : decode M_Law_put.2.1 11 = .ok (.lconst 1, 1) := by decide +kernel
theorem d_Law_put_12 : decode M_Law_put.2.1 12 = .ok (.goto 4, 3) := by decide +kernel
theorem d_Law_put_15 : decode M_Law_put.2.1 15 = .ok (.lconst 0, 1) := by decide +kernel
theorem d_Law_put_16 : decode M_Law_put.2.1 16 = .ok (.lastore, 1) := by decide +kernel
theorem d_Law_put_17 : decode M_Law_put.2.1 17 = .ok (.goto 15, 3) := by decide +kernel
theorem d_Law_put_20 : decode M_Law_put.2.1 20 = .ok (.astore 4, 2) := by decide +kernel
theorem d_Law_put_22 : decode M_Law_put.2.1 22 = .ok (.iconst 1, 1) := by decide +kernel
theorem d_Law_put_23 : decode M_Law_put.2.1 23 = .ok (.ireturn, 1) := by decide +kernel
theorem d_Law_put_24 : decode M_Law_put.2.1 24 = .ok (.astore 4, 2) := by decide +kernel
theorem d_Law_put_26 : decode M_Law_put.2.1 26 = .ok (.iconst 2, 1) := by decide +kernel
theorem d_Law_put_27 : decode M_Law_put.2.1 27 = .ok (.ireturn, 1) := by decide +kernel
theorem d_Law_put_28 : decode M_Law_put.2.1 28 = .ok (.astore 4, 2) := by decide +kernel
theorem d_Law_put_30 : decode M_Law_put.2.1 30 = .ok (.iconst 3, 1) := by decide +kernel
theorem d_Law_put_31 : decode M_Law_put.2.1 31 = .ok (.ireturn, 1) := by decide +kernel
theorem d_Law_put_32 : decode M_Law_put.2.1 32 = .ok (.iconst 0, 1) := by decide +kernel
theorem d_Law_put_33 : decode M_Law_put.2.1 33 = .ok (.ireturn, 1) := by decide +kernel
theorem d_Law_first_0 : decode M_Law_first.2.1 0 = .ok (.aload_n 0, 1) := by decide +kernel
theorem d_Law_first_1 : decode M_Law_first.2.1 1 = .ok (.iload_n 1, 1) := by decide +kernel
theorem d_Law_first_2 : decode M_Law_first.2.1 2 = .ok (.invokevirtual 23, 3) := by decide +kernel
theorem d_Law_first_5 : decode M_Law_first.2.1 5 = .ok (.goto 9, 3) := by decide +kernel
theorem d_Law_first_8 : decode M_Law_first.2.1 8 = .ok (.astore_n 2, 1) := by decide +kernel
theorem d_Law_first_9 : decode M_Law_first.2.1 9 = .ok (.iconst 1, 1) := by decide +kernel
theorem d_Law_first_10 : decode M_Law_first.2.1 10 = .ok (.ireturn, 1) := by decide +kernel
theorem d_Law_first_11 : decode M_Law_first.2.1 11 = .ok (.astore_n 2, 1) := by decide +kernel
theorem d_Law_first_12 : decode M_Law_first.2.1 12 = .ok (.iconst 2, 1) := by decide +kernel
theorem d_Law_first_13 : decode M_Law_first.2.1 13 = .ok (.ireturn, 1) := by decide +kernel
theorem d_Law_first_14 : decode M_Law_first.2.1 14 = .ok (.iconst 0, 1) := by decide +kernel
theorem d_Law_first_15 : decode M_Law_first.2.1 15 = .ok (.ireturn, 1) := by decide +kernel
theorem d_Law_play_0 : decode M_Law_play.2.1 0 = .ok (.aload_n 2, 1) := by decide +kernel
theorem d_Law_play_1 : decode M_Law_play.2.1 1 = .ok (.iconst 0, 1) := by decide +kernel
theorem d_Law_play_2 : decode M_Law_play.2.1 2 = .ok (.aload_n 0, 1) := by decide +kernel
theorem d_Law_play_3 : decode M_Law_play.2.1 3 = .ok (.iload_n 1, 1) := by decide +kernel
theorem d_Law_play_4 : decode M_Law_play.2.1 4 = .ok (.invokevirtual 27, 3) := by decide +kernel
theorem d_Law_play_7 : decode M_Law_play.2.1 7 = .ok (.i2l, 1) := by decide +kernel
theorem d_Law_play_8 : decode M_Law_play.2.1 8 = .ok (.lastore, 1) := by decide +kernel
theorem d_Law_play_9 : decode M_Law_play.2.1 9 = .ok (.goto 9, 3) := by decide +kernel
theorem d_Law_play_12 : decode M_Law_play.2.1 12 = .ok (.astore_n 3, 1) := by decide +kernel
theorem d_Law_play_13 : decode M_Law_play.2.1 13 = .ok (.iconst 1, 1) := by decide +kernel
theorem d_Law_play_14 : decode M_Law_play.2.1 14 = .ok (.ireturn, 1) := by decide +kernel
theorem d_Law_play_15 : decode M_Law_play.2.1 15 = .ok (.astore_n 3, 1) := by decide +kernel
theorem d_Law_play_16 : decode M_Law_play.2.1 16 = .ok (.iconst 2, 1) := by decide +kernel
theorem d_Law_play_17 : decode M_Law_play.2.1 17 = .ok (.ireturn, 1) := by decide +kernel
theorem d_Law_play_18 : decode M_Law_play.2.1 18 = .ok (.iconst 0, 1) := by decide +kernel
theorem d_Law_play_19 : decode M_Law_play.2.1 19 = .ok (.ireturn, 1) := by decide +kernel
theorem d_Law_why_0 : decode M_Law_why.2.1 0 = .ok (.aload_n 2, 1) := by decide +kernel
theorem d_Law_why_1 : decode M_Law_why.2.1 1 = .ok (.iconst 0, 1) := by decide +kernel
theorem d_Law_why_2 : decode M_Law_why.2.1 2 = .ok (.aload_n 0, 1) := by decide +kernel
theorem d_Law_why_3 : decode M_Law_why.2.1 3 = .ok (.iload_n 1, 1) := by decide +kernel
theorem d_Law_why_4 : decode M_Law_why.2.1 4 = .ok (.invokevirtual 30, 3) := by decide +kernel
theorem d_Law_why_7 : decode M_Law_why.2.1 7 = .ok (.i2l, 1) := by decide +kernel
theorem d_Law_why_8 : decode M_Law_why.2.1 8 = .ok (.lastore, 1) := by decide +kernel
theorem d_Law_why_9 : decode M_Law_why.2.1 9 = .ok (.goto 6, 3) := by decide +kernel
theorem d_Law_why_12 : decode M_Law_why.2.1 12 = .ok (.astore_n 3, 1) := by decide +kernel
theorem d_Law_why_13 : decode M_Law_why.2.1 13 = .ok (.iconst 1, 1) := by decide +kernel
theorem d_Law_why_14 : decode M_Law_why.2.1 14 = .ok (.ireturn, 1) := by decide +kernel
theorem d_Law_why_15 : decode M_Law_why.2.1 15 = .ok (.iconst 0, 1) := by decide +kernel
theorem d_Law_why_16 : decode M_Law_why.2.1 16 = .ok (.ireturn, 1) := by decide +kernel
theorem d_Law_pass_0 : decode M_Law_pass.2.1 0 = .ok (.aload_n 1, 1) := by decide +kernel
theorem d_Law_pass_1 : decode M_Law_pass.2.1 1 = .ok (.iconst 0, 1) := by decide +kernel
theorem d_Law_pass_2 : decode M_Law_pass.2.1 2 = .ok (.aload_n 0, 1) := by decide +kernel
theorem d_Law_pass_3 : decode M_Law_pass.2.1 3 = .ok (.invokevirtual 33, 3) := by decide +kernel
theorem d_Law_pass_6 : decode M_Law_pass.2.1 6 = .ok (.ifCond .eq 7, 3) := by decide +kernel
theorem d_Law_pass_9 : decode M_Law_pass.2.1 9 = .ok (.lconst 1, 1) := by decide +kernel
theorem d_Law_pass_10 : decode M_Law_pass.2.1 10 = .ok (.goto 4, 3) := by decide +kernel
theorem d_Law_pass_13 : decode M_Law_pass.2.1 13 = .ok (.lconst 0, 1) := by decide +kernel
theorem d_Law_pass_14 : decode M_Law_pass.2.1 14 = .ok (.lastore, 1) := by decide +kernel
theorem d_Law_pass_15 : decode M_Law_pass.2.1 15 = .ok (.goto 6, 3) := by decide +kernel
theorem d_Law_pass_18 : decode M_Law_pass.2.1 18 = .ok (.astore_n 2, 1) := by decide +kernel
theorem d_Law_pass_19 : decode M_Law_pass.2.1 19 = .ok (.iconst 1, 1) := by decide +kernel
theorem d_Law_pass_20 : decode M_Law_pass.2.1 20 = .ok (.ireturn, 1) := by decide +kernel
theorem d_Law_pass_21 : decode M_Law_pass.2.1 21 = .ok (.iconst 0, 1) := by decide +kernel
theorem d_Law_pass_22 : decode M_Law_pass.2.1 22 = .ok (.ireturn, 1) := by decide +kernel
theorem d_Law_back_0 : decode M_Law_back.2.1 0 = .ok (.aload_n 1, 1) := by decide +kernel
theorem d_Law_back_1 : decode M_Law_back.2.1 1 = .ok (.iconst 0, 1) := by decide +kernel
theorem d_Law_back_2 : decode M_Law_back.2.1 2 = .ok (.aload_n 0, 1) := by decide +kernel
theorem d_Law_back_3 : decode M_Law_back.2.1 3 = .ok (.invokevirtual 37, 3) := by decide +kernel
theorem d_Law_back_6 : decode M_Law_back.2.1 6 = .ok (.i2l, 1) := by decide +kernel
theorem d_Law_back_7 : decode M_Law_back.2.1 7 = .ok (.lastore, 1) := by decide +kernel
theorem d_Law_back_8 : decode M_Law_back.2.1 8 = .ok (.goto 6, 3) := by decide +kernel
theorem d_Law_back_11 : decode M_Law_back.2.1 11 = .ok (.astore_n 2, 1) := by decide +kernel
theorem d_Law_back_12 : decode M_Law_back.2.1 12 = .ok (.iconst 1, 1) := by decide +kernel
theorem d_Law_back_13 : decode M_Law_back.2.1 13 = .ok (.ireturn, 1) := by decide +kernel
theorem d_Law_back_14 : decode M_Law_back.2.1 14 = .ok (.iconst 0, 1) := by decide +kernel
theorem d_Law_back_15 : decode M_Law_back.2.1 15 = .ok (.ireturn, 1) := by decide +kernel
theorem d_Law_move_0 : decode M_Law_move.2.1 0 = .ok (.aload_n 2, 1) := by decide +kernel
theorem d_Law_move_1 : decode M_Law_move.2.1 1 = .ok (.iconst 0, 1) := by decide +kernel
theorem d_Law_move_2 : decode M_Law_move.2.1 2 = .ok (.aload_n 0, 1) := by decide +kernel
theorem d_Law_move_3 : decode M_Law_move.2.1 3 = .ok (.iload_n 1, 1) := by decide +kernel
theorem d_Law_move_4 : decode M_Law_move.2.1 4 = .ok (.invokevirtual 41, 3) := by decide +kernel
theorem d_Law_move_7 : decode M_Law_move.2.1 7 = .ok (.i2l, 1) := by decide +kernel
theorem d_Law_move_8 : decode M_Law_move.2.1 8 = .ok (.lastore, 1) := by decide +kernel
theorem d_Law_move_9 : decode M_Law_move.2.1 9 = .ok (.goto 6, 3) := by decide +kernel
theorem d_Law_move_12 : decode M_Law_move.2.1 12 = .ok (.astore_n 3, 1) := by decide +kernel
theorem d_Law_move_13 : decode M_Law_move.2.1 13 = .ok (.iconst 1, 1) := by decide +kernel
theorem d_Law_move_14 : decode M_Law_move.2.1 14 = .ok (.ireturn, 1) := by decide +kernel
theorem d_Law_move_15 : decode M_Law_move.2.1 15 = .ok (.iconst 0, 1) := by decide +kernel
theorem d_Law_move_16 : decode M_Law_move.2.1 16 = .ok (.ireturn, 1) := by decide +kernel
theorem d_Law_taken_0 : decode M_Law_taken.2.1 0 = .ok (.aload_n 2, 1) := by decide +kernel
theorem d_Law_taken_1 : decode M_Law_taken.2.1 1 = .ok (.iconst 0, 1) := by decide +kernel
theorem d_Law_taken_2 : decode M_Law_taken.2.1 2 = .ok (.aload_n 0, 1) := by decide +kernel
theorem d_Law_taken_3 : decode M_Law_taken.2.1 3 = .ok (.iload_n 1, 1) := by decide +kernel
theorem d_Law_taken_4 : decode M_Law_taken.2.1 4 = .ok (.invokevirtual 44, 3) := by decide +kernel
theorem d_Law_taken_7 : decode M_Law_taken.2.1 7 = .ok (.i2l, 1) := by decide +kernel
theorem d_Law_taken_8 : decode M_Law_taken.2.1 8 = .ok (.lastore, 1) := by decide +kernel
theorem d_Law_taken_9 : decode M_Law_taken.2.1 9 = .ok (.goto 6, 3) := by decide +kernel
theorem d_Law_taken_12 : decode M_Law_taken.2.1 12 = .ok (.astore_n 3, 1) := by decide +kernel
theorem d_Law_taken_13 : decode M_Law_taken.2.1 13 = .ok (.iconst 1, 1) := by decide +kernel
theorem d_Law_taken_14 : decode M_Law_taken.2.1 14 = .ok (.ireturn, 1) := by decide +kernel
theorem d_Law_taken_15 : decode M_Law_taken.2.1 15 = .ok (.iconst 0, 1) := by decide +kernel
theorem d_Law_taken_16 : decode M_Law_taken.2.1 16 = .ok (.ireturn, 1) := by decide +kernel
theorem d_Law_string_0 : decode M_Law_string.2.1 0 = .ok (.aload_n 3, 1) := by decide +kernel
theorem d_Law_string_1 : decode M_Law_string.2.1 1 = .ok (.iconst 0, 1) := by decide +kernel
theorem d_Law_string_2 : decode M_Law_string.2.1 2 = .ok (.aload_n 0, 1) := by decide +kernel
theorem d_Law_string_3 : decode M_Law_string.2.1 3 = .ok (.iload_n 1, 1) := by decide +kernel
theorem d_Law_string_4 : decode M_Law_string.2.1 4 = .ok (.iload_n 2, 1) := by decide +kernel
theorem d_Law_string_5 : decode M_Law_string.2.1 5 = .ok (.invokevirtual 47, 3) := by decide +kernel
theorem d_Law_string_8 : decode M_Law_string.2.1 8 = .ok (.i2l, 1) := by decide +kernel
theorem d_Law_string_9 : decode M_Law_string.2.1 9 = .ok (.lastore, 1) := by decide +kernel
theorem d_Law_string_10 : decode M_Law_string.2.1 10 = .ok (.goto 11, 3) := by decide +kernel
theorem d_Law_string_13 : decode M_Law_string.2.1 13 = .ok (.astore 4, 2) := by decide +kernel
theorem d_Law_string_15 : decode M_Law_string.2.1 15 = .ok (.iconst 1, 1) := by decide +kernel
theorem d_Law_string_16 : decode M_Law_string.2.1 16 = .ok (.ireturn, 1) := by decide +kernel
theorem d_Law_string_17 : decode M_Law_string.2.1 17 = .ok (.astore 4, 2) := by decide +kernel
theorem d_Law_string_19 : decode M_Law_string.2.1 19 = .ok (.iconst 2, 1) := by decide +kernel
theorem d_Law_string_20 : decode M_Law_string.2.1 20 = .ok (.ireturn, 1) := by decide +kernel
theorem d_Law_string_21 : decode M_Law_string.2.1 21 = .ok (.iconst 0, 1) := by decide +kernel
theorem d_Law_string_22 : decode M_Law_string.2.1 22 = .ok (.ireturn, 1) := by decide +kernel
theorem d_Law_strings_0 : decode M_Law_strings.2.1 0 = .ok (.aload_n 2, 1) := by decide +kernel
theorem d_Law_strings_1 : decode M_Law_strings.2.1 1 = .ok (.iconst 0, 1) := by decide +kernel
theorem d_Law_strings_2 : decode M_Law_strings.2.1 2 = .ok (.aload_n 0, 1) := by decide +kernel
theorem d_Law_strings_3 : decode M_Law_strings.2.1 3 = .ok (.iload_n 1, 1) := by decide +kernel
theorem d_Law_strings_4 : decode M_Law_strings.2.1 4 = .ok (.invokevirtual 51, 3) := by decide +kernel
theorem d_Law_strings_7 : decode M_Law_strings.2.1 7 = .ok (.i2l, 1) := by decide +kernel
theorem d_Law_strings_8 : decode M_Law_strings.2.1 8 = .ok (.lastore, 1) := by decide +kernel
theorem d_Law_strings_9 : decode M_Law_strings.2.1 9 = .ok (.goto 6, 3) := by decide +kernel
theorem d_Law_strings_12 : decode M_Law_strings.2.1 12 = .ok (.astore_n 3, 1) := by decide +kernel
theorem d_Law_strings_13 : decode M_Law_strings.2.1 13 = .ok (.iconst 1, 1) := by decide +kernel
theorem d_Law_strings_14 : decode M_Law_strings.2.1 14 = .ok (.ireturn, 1) := by decide +kernel
theorem d_Law_strings_15 : decode M_Law_strings.2.1 15 = .ok (.iconst 0, 1) := by decide +kernel
theorem d_Law_strings_16 : decode M_Law_strings.2.1 16 = .ok (.ireturn, 1) := by decide +kernel
theorem d_Law_ground_0 : decode M_Law_ground.2.1 0 = .ok (.aload_n 2, 1) := by decide +kernel
theorem d_Law_ground_1 : decode M_Law_ground.2.1 1 = .ok (.iconst 0, 1) := by decide +kernel
theorem d_Law_ground_2 : decode M_Law_ground.2.1 2 = .ok (.aload_n 0, 1) := by decide +kernel
theorem d_Law_ground_3 : decode M_Law_ground.2.1 3 = .ok (.iload_n 1, 1) := by decide +kernel
theorem d_Law_ground_4 : decode M_Law_ground.2.1 4 = .ok (.invokevirtual 54, 3) := by decide +kernel
theorem d_Law_ground_7 : decode M_Law_ground.2.1 7 = .ok (.i2l, 1) := by decide +kernel
theorem d_Law_ground_8 : decode M_Law_ground.2.1 8 = .ok (.lastore, 1) := by decide +kernel
theorem d_Law_ground_9 : decode M_Law_ground.2.1 9 = .ok (.goto 6, 3) := by decide +kernel
theorem d_Law_ground_12 : decode M_Law_ground.2.1 12 = .ok (.astore_n 3, 1) := by decide +kernel
theorem d_Law_ground_13 : decode M_Law_ground.2.1 13 = .ok (.iconst 1, 1) := by decide +kernel
theorem d_Law_ground_14 : decode M_Law_ground.2.1 14 = .ok (.ireturn, 1) := by decide +kernel
theorem d_Law_ground_15 : decode M_Law_ground.2.1 15 = .ok (.iconst 0, 1) := by decide +kernel
theorem d_Law_ground_16 : decode M_Law_ground.2.1 16 = .ok (.ireturn, 1) := by decide +kernel
theorem d_Law_owner_0 : decode M_Law_owner.2.1 0 = .ok (.aload_n 2, 1) := by decide +kernel
theorem d_Law_owner_1 : decode M_Law_owner.2.1 1 = .ok (.iconst 0, 1) := by decide +kernel
theorem d_Law_owner_2 : decode M_Law_owner.2.1 2 = .ok (.aload_n 0, 1) := by decide +kernel
theorem d_Law_owner_3 : decode M_Law_owner.2.1 3 = .ok (.iload_n 1, 1) := by decide +kernel
theorem d_Law_owner_4 : decode M_Law_owner.2.1 4 = .ok (.invokevirtual 57, 3) := by decide +kernel
theorem d_Law_owner_7 : decode M_Law_owner.2.1 7 = .ok (.i2l, 1) := by decide +kernel
theorem d_Law_owner_8 : decode M_Law_owner.2.1 8 = .ok (.lastore, 1) := by decide +kernel
theorem d_Law_owner_9 : decode M_Law_owner.2.1 9 = .ok (.goto 6, 3) := by decide +kernel
theorem d_Law_owner_12 : decode M_Law_owner.2.1 12 = .ok (.astore_n 3, 1) := by decide +kernel
theorem d_Law_owner_13 : decode M_Law_owner.2.1 13 = .ok (.iconst 1, 1) := by decide +kernel
theorem d_Law_owner_14 : decode M_Law_owner.2.1 14 = .ok (.ireturn, 1) := by decide +kernel
theorem d_Law_owner_15 : decode M_Law_owner.2.1 15 = .ok (.iconst 0, 1) := by decide +kernel
theorem d_Law_owner_16 : decode M_Law_owner.2.1 16 = .ok (.ireturn, 1) := by decide +kernel
theorem d_Law_alive_0 : decode M_Law_alive.2.1 0 = .ok (.aload_n 2, 1) := by decide +kernel
theorem d_Law_alive_1 : decode M_Law_alive.2.1 1 = .ok (.iconst 0, 1) := by decide +kernel
theorem d_Law_alive_2 : decode M_Law_alive.2.1 2 = .ok (.aload_n 0, 1) := by decide +kernel
theorem d_Law_alive_3 : decode M_Law_alive.2.1 3 = .ok (.iload_n 1, 1) := by decide +kernel
theorem d_Law_alive_4 : decode M_Law_alive.2.1 4 = .ok (.invokevirtual 60, 3) := by decide +kernel
theorem d_Law_alive_7 : decode M_Law_alive.2.1 7 = .ok (.ifCond .eq 7, 3) := by decide +kernel
theorem d_Law_alive_10 : decode M_Law_alive.2.1 10 = .ok (.lconst 1, 1) := by decide +kernel
theorem d_Law_alive_11 : decode M_Law_alive.2.1 11 = .ok (.goto 4, 3) := by decide +kernel
theorem d_Law_alive_14 : decode M_Law_alive.2.1 14 = .ok (.lconst 0, 1) := by decide +kernel
theorem d_Law_alive_15 : decode M_Law_alive.2.1 15 = .ok (.lastore, 1) := by decide +kernel
theorem d_Law_alive_16 : decode M_Law_alive.2.1 16 = .ok (.goto 6, 3) := by decide +kernel
theorem d_Law_alive_19 : decode M_Law_alive.2.1 19 = .ok (.astore_n 3, 1) := by decide +kernel
theorem d_Law_alive_20 : decode M_Law_alive.2.1 20 = .ok (.iconst 1, 1) := by decide +kernel
theorem d_Law_alive_21 : decode M_Law_alive.2.1 21 = .ok (.ireturn, 1) := by decide +kernel
theorem d_Law_alive_22 : decode M_Law_alive.2.1 22 = .ok (.iconst 0, 1) := by decide +kernel
theorem d_Law_alive_23 : decode M_Law_alive.2.1 23 = .ok (.ireturn, 1) := by decide +kernel
theorem d_Law_safe_0 : decode M_Law_safe.2.1 0 = .ok (.aload_n 2, 1) := by decide +kernel
theorem d_Law_safe_1 : decode M_Law_safe.2.1 1 = .ok (.iconst 0, 1) := by decide +kernel
theorem d_Law_safe_2 : decode M_Law_safe.2.1 2 = .ok (.aload_n 0, 1) := by decide +kernel
theorem d_Law_safe_3 : decode M_Law_safe.2.1 3 = .ok (.iload_n 1, 1) := by decide +kernel
theorem d_Law_safe_4 : decode M_Law_safe.2.1 4 = .ok (.invokevirtual 64, 3) := by decide +kernel
theorem d_Law_safe_7 : decode M_Law_safe.2.1 7 = .ok (.i2l, 1) := by decide +kernel
theorem d_Law_safe_8 : decode M_Law_safe.2.1 8 = .ok (.lastore, 1) := by decide +kernel
theorem d_Law_safe_9 : decode M_Law_safe.2.1 9 = .ok (.goto 6, 3) := by decide +kernel
theorem d_Law_safe_12 : decode M_Law_safe.2.1 12 = .ok (.astore_n 3, 1) := by decide +kernel
theorem d_Law_safe_13 : decode M_Law_safe.2.1 13 = .ok (.iconst 1, 1) := by decide +kernel
theorem d_Law_safe_14 : decode M_Law_safe.2.1 14 = .ok (.ireturn, 1) := by decide +kernel
theorem d_Law_safe_15 : decode M_Law_safe.2.1 15 = .ok (.iconst 0, 1) := by decide +kernel
theorem d_Law_safe_16 : decode M_Law_safe.2.1 16 = .ok (.ireturn, 1) := by decide +kernel
theorem d_Law_ago_0 : decode M_Law_ago.2.1 0 = .ok (.aload_n 2, 1) := by decide +kernel
theorem d_Law_ago_1 : decode M_Law_ago.2.1 1 = .ok (.iconst 0, 1) := by decide +kernel
theorem d_Law_ago_2 : decode M_Law_ago.2.1 2 = .ok (.aload_n 0, 1) := by decide +kernel
theorem d_Law_ago_3 : decode M_Law_ago.2.1 3 = .ok (.iload_n 1, 1) := by decide +kernel
theorem d_Law_ago_4 : decode M_Law_ago.2.1 4 = .ok (.invokevirtual 67, 3) := by decide +kernel
theorem d_Law_ago_7 : decode M_Law_ago.2.1 7 = .ok (.i2l, 1) := by decide +kernel
theorem d_Law_ago_8 : decode M_Law_ago.2.1 8 = .ok (.lastore, 1) := by decide +kernel
theorem d_Law_ago_9 : decode M_Law_ago.2.1 9 = .ok (.goto 6, 3) := by decide +kernel
theorem d_Law_ago_12 : decode M_Law_ago.2.1 12 = .ok (.astore_n 3, 1) := by decide +kernel
theorem d_Law_ago_13 : decode M_Law_ago.2.1 13 = .ok (.iconst 1, 1) := by decide +kernel
theorem d_Law_ago_14 : decode M_Law_ago.2.1 14 = .ok (.ireturn, 1) := by decide +kernel
theorem d_Law_ago_15 : decode M_Law_ago.2.1 15 = .ok (.iconst 0, 1) := by decide +kernel
theorem d_Law_ago_16 : decode M_Law_ago.2.1 16 = .ok (.ireturn, 1) := by decide +kernel
