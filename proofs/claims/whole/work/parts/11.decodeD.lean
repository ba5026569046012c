/-! Decode rows, printed. -/
theorem d_SB_init_0 : decode M_SB_init.2.1 0 = .ok (.aload_n 0, 1) := by decide +kernel
theorem d_SB_init_1 : decode M_SB_init.2.1 1 = .ok (.invokespecial 1, 3) := by decide +kernel
theorem d_SB_init_4 : decode M_SB_init.2.1 4 = .ok (.iconst 2, 1) := by decide +kernel
theorem d_SB_init_5 : decode M_SB_init.2.1 5 = .ok (.bipush 13, 2) := by decide +kernel
theorem d_SB_init_7 : decode M_SB_init.2.1 7 = .ok (.iload_n 1, 1) := by decide +kernel
theorem d_SB_init_8 : decode M_SB_init.2.1 8 = .ok (.invokestatic 9, 3) := by decide +kernel
theorem d_SB_init_11 : decode M_SB_init.2.1 11 = .ok (.invokestatic 15, 3) := by decide +kernel
theorem d_SB_init_14 : decode M_SB_init.2.1 14 = .ok (.istore_n 2, 1) := by decide +kernel
theorem d_SB_init_15 : decode M_SB_init.2.1 15 = .ok (.new 18, 3) := by decide +kernel
theorem d_SB_init_18 : decode M_SB_init.2.1 18 = .ok (.dup, 1) := by decide +kernel
theorem d_SB_init_19 : decode M_SB_init.2.1 19 = .ok (.iload_n 2, 1) := by decide +kernel
theorem d_SB_init_20 : decode M_SB_init.2.1 20 = .ok (.invokespecial 20, 3) := by decide +kernel
theorem d_SB_init_23 : decode M_SB_init.2.1 23 = .ok (.astore_n 3, 1) := by decide +kernel
theorem d_SB_init_24 : decode M_SB_init.2.1 24 = .ok (.aload_n 3, 1) := by decide +kernel
theorem d_SB_init_25 : decode M_SB_init.2.1 25 = .ok (.getfield 23, 3) := by decide +kernel
theorem d_SB_init_28 : decode M_SB_init.2.1 28 = .ok (.newarray .int, 2) := by decide +kernel
theorem d_SB_init_30 : decode M_SB_init.2.1 30 = .ok (.astore 4, 2) := by decide +kernel
theorem d_SB_init_32 : decode M_SB_init.2.1 32 = .ok (.aload_n 0, 1) := by decide +kernel
theorem d_SB_init_33 : decode M_SB_init.2.1 33 = .ok (.iload_n 2, 1) := by decide +kernel
theorem d_SB_init_34 : decode M_SB_init.2.1 34 = .ok (.putfield 27, 3) := by decide +kernel
theorem d_SB_init_37 : decode M_SB_init.2.1 37 = .ok (.aload_n 0, 1) := by decide +kernel
theorem d_SB_init_38 : decode M_SB_init.2.1 38 = .ok (.aload_n 3, 1) := by decide +kernel
theorem d_SB_init_39 : decode M_SB_init.2.1 39 = .ok (.putfield 30, 3) := by decide +kernel
theorem d_SB_init_42 : decode M_SB_init.2.1 42 = .ok (.aload_n 0, 1) := by decide +kernel
theorem d_SB_init_43 : decode M_SB_init.2.1 43 = .ok (.aload 4, 2) := by decide +kernel
theorem d_SB_init_45 : decode M_SB_init.2.1 45 = .ok (.putfield 34, 3) := by decide +kernel
theorem d_SB_init_48 : decode M_SB_init.2.1 48 = .ok (.aload_n 0, 1) := by decide +kernel
theorem d_SB_init_49 : decode M_SB_init.2.1 49 = .ok (.new 38, 3) := by decide +kernel
theorem d_SB_init_52 : decode M_SB_init.2.1 52 = .ok (.dup, 1) := by decide +kernel
theorem d_SB_init_53 : decode M_SB_init.2.1 53 = .ok (.aload_n 3, 1) := by decide +kernel
theorem d_SB_init_54 : decode M_SB_init.2.1 54 = .ok (.aload 4, 2) := by decide +kernel
theorem d_SB_init_56 : decode M_SB_init.2.1 56 = .ok (.invokespecial 40, 3) := by decide +kernel
theorem d_SB_init_59 : decode M_SB_init.2.1 59 = .ok (.putfield 43, 3) := by decide +kernel
theorem d_SB_init_62 : decode M_SB_init.2.1 62 = .ok (.aload_n 0, 1) := by decide +kernel
theorem d_SB_init_63 : decode M_SB_init.2.1 63 = .ok (.new 47, 3) := by decide +kernel
theorem d_SB_init_66 : decode M_SB_init.2.1 66 = .ok (.dup, 1) := by decide +kernel
theorem d_SB_init_67 : decode M_SB_init.2.1 67 = .ok (.aload_n 3, 1) := by decide +kernel
theorem d_SB_init_68 : decode M_SB_init.2.1 68 = .ok (.aload 4, 2) := by decide +kernel
theorem d_SB_init_70 : decode M_SB_init.2.1 70 = .ok (.aload_n 0, 1) := by decide +kernel
theorem d_SB_init_71 : decode M_SB_init.2.1 71 = .ok (.getfield 43, 3) := by decide +kernel
theorem d_SB_init_74 : decode M_SB_init.2.1 74 = .ok (.invokespecial 49, 3) := by decide +kernel
theorem d_SB_init_77 : decode M_SB_init.2.1 77 = .ok (.putfield 52, 3) := by decide +kernel
theorem d_SB_init_80 : decode M_SB_init.2.1 80 = .ok (.aload_n 0, 1) := by decide +kernel
theorem d_SB_init_81 : decode M_SB_init.2.1 81 = .ok (.new 56, 3) := by decide +kernel
theorem d_SB_init_84 : decode M_SB_init.2.1 84 = .ok (.dup, 1) := by decide +kernel
theorem d_SB_init_85 : decode M_SB_init.2.1 85 = .ok (.aload_n 3, 1) := by decide +kernel
theorem d_SB_init_86 : decode M_SB_init.2.1 86 = .ok (.getfield 23, 3) := by decide +kernel
theorem d_SB_init_89 : decode M_SB_init.2.1 89 = .ok (.invokespecial 58, 3) := by decide +kernel
theorem d_SB_init_92 : decode M_SB_init.2.1 92 = .ok (.putfield 59, 3) := by decide +kernel
theorem d_SB_init_95 : decode M_SB_init.2.1 95 = .ok (.aload_n 0, 1) := by decide +kernel
theorem d_SB_init_96 : decode M_SB_init.2.1 96 = .ok (.new 63, 3) := by decide +kernel
theorem d_SB_init_99 : decode M_SB_init.2.1 99 = .ok (.dup, 1) := by decide +kernel
theorem d_SB_init_100 : decode M_SB_init.2.1 100 = .ok (.aload_n 3, 1) := by decide +kernel
theorem d_SB_init_101 : decode M_SB_init.2.1 101 = .ok (.aload 4, 2) := by decide +kernel
theorem d_SB_init_103 : decode M_SB_init.2.1 103 = .ok (.invokespecial 65, 3) := by decide +kernel
theorem d_SB_init_106 : decode M_SB_init.2.1 106 = .ok (.putfield 66, 3) := by decide +kernel
theorem d_SB_init_109 : decode M_SB_init.2.1 109 = .ok (.aload_n 0, 1) := by decide +kernel
theorem d_SB_init_110 : decode M_SB_init.2.1 110 = .ok (.iconst 1, 1) := by decide +kernel
theorem d_SB_init_111 : decode M_SB_init.2.1 111 = .ok (.putfield 70, 3) := by decide +kernel
theorem d_SB_init_114 : decode M_SB_init.2.1 114 = .ok (.return_, 1) := by decide +kernel
theorem d_SB_otherSide_0 : decode M_SB_otherSide.2.1 0 = .ok (.iconst 3, 1) := by decide +kernel
theorem d_SB_otherSide_1 : decode M_SB_otherSide.2.1 1 = .ok (.iload_n 0, 1) := by decide +kernel
theorem d_SB_otherSide_2 : decode M_SB_otherSide.2.1 2 = .ok (.isub, 1) := by decide +kernel
theorem d_SB_otherSide_3 : decode M_SB_otherSide.2.1 3 = .ok (.ireturn, 1) := by decide +kernel
theorem d_SB_size_0 : decode M_SB_size.2.1 0 = .ok (.aload_n 0, 1) := by decide +kernel
theorem d_SB_size_1 : decode M_SB_size.2.1 1 = .ok (.getfield 27, 3) := by decide +kernel
theorem d_SB_size_4 : decode M_SB_size.2.1 4 = .ok (.ireturn, 1) := by decide +kernel
theorem d_SB_turn_0 : decode M_SB_turn.2.1 0 = .ok (.aload_n 0, 1) := by decide +kernel
theorem d_SB_turn_1 : decode M_SB_turn.2.1 1 = .ok (.getfield 59, 3) := by decide +kernel
theorem d_SB_turn_4 : decode M_SB_turn.2.1 4 = .ok (.getfield 96, 3) := by decide +kernel
theorem d_SB_turn_7 : decode M_SB_turn.2.1 7 = .ok (.getfield 100, 3) := by decide +kernel
theorem d_SB_turn_10 : decode M_SB_turn.2.1 10 = .ok (.iconst 2, 1) := by decide +kernel
theorem d_SB_turn_11 : decode M_SB_turn.2.1 11 = .ok (.irem, 1) := by decide +kernel
theorem d_SB_turn_12 : decode M_SB_turn.2.1 12 = .ok (.ifCond .ne 10, 3) := by decide +kernel
theorem d_SB_turn_15 : decode M_SB_turn.2.1 15 = .ok (.aload_n 0, 1) := by decide +kernel
theorem d_SB_turn_16 : decode M_SB_turn.2.1 16 = .ok (.getfield 70, 3) := by decide +kernel
theorem d_SB_turn_19 : decode M_SB_turn.2.1 19 = .ok (.goto 10, 3) := by decide +kernel
theorem d_SB_turn_22 : decode M_SB_turn.2.1 22 = .ok (.aload_n 0, 1) := by decide +kernel
theorem d_SB_turn_23 : decode M_SB_turn.2.1 23 = .ok (.getfield 70, 3) := by decide +kernel
theorem d_SB_turn_26 : decode M_SB_turn.2.1 26 = .ok (.invokestatic 105, 3) := by decide +kernel
theorem d_SB_turn_29 : decode M_SB_turn.2.1 29 = .ok (.ireturn, 1) := by decide +kernel
theorem d_SB_allowed_0 : decode M_SB_allowed.2.1 0 = .ok (.iconst 0, 1) := by decide +kernel
theorem d_SB_allowed_1 : decode M_SB_allowed.2.1 1 = .ok (.istore_n 1, 1) := by decide +kernel
theorem d_SB_allowed_2 : decode M_SB_allowed.2.1 2 = .ok (.iconst 0, 1) := by decide +kernel
theorem d_SB_allowed_3 : decode M_SB_allowed.2.1 3 = .ok (.istore_n 2, 1) := by decide +kernel
theorem d_SB_allowed_4 : decode M_SB_allowed.2.1 4 = .ok (.iload_n 2, 1) := by decide +kernel
theorem d_SB_allowed_5 : decode M_SB_allowed.2.1 5 = .ok (.aload_n 0, 1) := by decide +kernel
theorem d_SB_allowed_6 : decode M_SB_allowed.2.1 6 = .ok (.getfield 30, 3) := by decide +kernel
theorem d_SB_allowed_9 : decode M_SB_allowed.2.1 9 = .ok (.getfield 23, 3) := by decide +kernel
theorem d_SB_allowed_12 : decode M_SB_allowed.2.1 12 = .ok (.if_icmp .ge 20, 3) := by decide +kernel
theorem d_SB_allowed_15 : decode M_SB_allowed.2.1 15 = .ok (.aload_n 0, 1) := by decide +kernel
theorem d_SB_allowed_16 : decode M_SB_allowed.2.1 16 = .ok (.iload_n 2, 1) := by decide +kernel
theorem d_SB_allowed_17 : decode M_SB_allowed.2.1 17 = .ok (.invokevirtual 112, 3) := by decide +kernel
theorem d_SB_allowed_20 : decode M_SB_allowed.2.1 20 = .ok (.ifCond .ne 6, 3) := by decide +kernel
theorem d_SB_allowed_23 : decode M_SB_allowed.2.1 23 = .ok (.iinc 1 1, 3) := by decide +kernel
theorem d_SB_allowed_26 : decode M_SB_allowed.2.1 26 = .ok (.iinc 2 1, 3) := by decide +kernel
theorem d_SB_allowed_29 : decode M_SB_allowed.2.1 29 = .ok (.goto (-25), 3) := by decide +kernel
theorem d_SB_allowed_32 : decode M_SB_allowed.2.1 32 = .ok (.iload_n 1, 1) := by decide +kernel
theorem d_SB_allowed_33 : decode M_SB_allowed.2.1 33 = .ok (.ireturn, 1) := by decide +kernel
theorem d_SB_judgeMove_0 : decode M_SB_judgeMove.2.1 0 = .ok (.aload_n 0, 1) := by decide +kernel
theorem d_SB_judgeMove_1 : decode M_SB_judgeMove.2.1 1 = .ok (.getfield 59, 3) := by decide +kernel
theorem d_SB_judgeMove_4 : decode M_SB_judgeMove.2.1 4 = .ok (.invokevirtual 135, 3) := by decide +kernel
theorem d_SB_judgeMove_7 : decode M_SB_judgeMove.2.1 7 = .ok (.ifCond .eq 5, 3) := by decide +kernel
theorem d_SB_judgeMove_10 : decode M_SB_judgeMove.2.1 10 = .ok (.iconst 1, 1) := by decide +kernel
theorem d_SB_judgeMove_11 : decode M_SB_judgeMove.2.1 11 = .ok (.ireturn, 1) := by decide +kernel
theorem d_SB_judgeMove_12 : decode M_SB_judgeMove.2.1 12 = .ok (.aload_n 0, 1) := by decide +kernel
theorem d_SB_judgeMove_13 : decode M_SB_judgeMove.2.1 13 = .ok (.getfield 34, 3) := by decide +kernel
theorem d_SB_judgeMove_16 : decode M_SB_judgeMove.2.1 16 = .ok (.iload_n 1, 1) := by decide +kernel
theorem d_SB_judgeMove_17 : decode M_SB_judgeMove.2.1 17 = .ok (.iaload, 1) := by decide +kernel
theorem d_SB_judgeMove_18 : decode M_SB_judgeMove.2.1 18 = .ok (.ifCond .eq 5, 3) := by decide +kernel
theorem d_SB_judgeMove_21 : decode M_SB_judgeMove.2.1 21 = .ok (.iconst 2, 1) := by decide +kernel
theorem d_SB_judgeMove_22 : decode M_SB_judgeMove.2.1 22 = .ok (.ireturn, 1) := by decide +kernel
theorem d_SB_judgeMove_23 : decode M_SB_judgeMove.2.1 23 = .ok (.aload_n 0, 1) := by decide +kernel
theorem d_SB_judgeMove_24 : decode M_SB_judgeMove.2.1 24 = .ok (.iload_n 1, 1) := by decide +kernel
theorem d_SB_judgeMove_25 : decode M_SB_judgeMove.2.1 25 = .ok (.invokevirtual 200, 3) := by decide +kernel
theorem d_SB_judgeMove_28 : decode M_SB_judgeMove.2.1 28 = .ok (.ifnonnull 7, 3) := by decide +kernel
theorem d_SB_judgeMove_31 : decode M_SB_judgeMove.2.1 31 = .ok (.iconst 0, 1) := by decide +kernel
theorem d_SB_judgeMove_32 : decode M_SB_judgeMove.2.1 32 = .ok (.goto 4, 3) := by decide +kernel
theorem d_SB_judgeMove_35 : decode M_SB_judgeMove.2.1 35 = .ok (.iconst 3, 1) := by decide +kernel
theorem d_SB_judgeMove_36 : decode M_SB_judgeMove.2.1 36 = .ok (.ireturn, 1) := by decide +kernel
theorem d_SB_findBoardBehind_0 : decode M_SB_findBoardBehind.2.1 0 = .ok (.aload_n 0, 1) := by decide +kernel
theorem d_SB_findBoardBehind_1 : decode M_SB_findBoardBehind.2.1 1 = .ok (.getfield 52, 3) := by decide +kernel
theorem d_SB_findBoardBehind_4 : decode M_SB_findBoardBehind.2.1 4 = .ok (.aload_n 0, 1) := by decide +kernel
theorem d_SB_findBoardBehind_5 : decode M_SB_findBoardBehind.2.1 5 = .ok (.getfield 59, 3) := by decide +kernel
theorem d_SB_findBoardBehind_8 : decode M_SB_findBoardBehind.2.1 8 = .ok (.getfield 96, 3) := by decide +kernel
theorem d_SB_findBoardBehind_11 : decode M_SB_findBoardBehind.2.1 11 = .ok (.getfield 204, 3) := by decide +kernel
theorem d_SB_findBoardBehind_14 : decode M_SB_findBoardBehind.2.1 14 = .ok (.iload_n 1, 1) := by decide +kernel
theorem d_SB_findBoardBehind_15 : decode M_SB_findBoardBehind.2.1 15 = .ok (.aload_n 0, 1) := by decide +kernel
theorem d_SB_findBoardBehind_16 : decode M_SB_findBoardBehind.2.1 16 = .ok (.invokevirtual 205, 3) := by decide +kernel
theorem d_SB_findBoardBehind_19 : decode M_SB_findBoardBehind.2.1 19 = .ok (.invokevirtual 208, 3) := by decide +kernel
theorem d_SB_findBoardBehind_22 : decode M_SB_findBoardBehind.2.1 22 = .ok (.aload_n 0, 1) := by decide +kernel
theorem d_SB_findBoardBehind_23 : decode M_SB_findBoardBehind.2.1 23 = .ok (.getfield 59, 3) := by decide +kernel
theorem d_SB_findBoardBehind_26 : decode M_SB_findBoardBehind.2.1 26 = .ok (.aload_n 0, 1) := by decide +kernel
theorem d_SB_findBoardBehind_27 : decode M_SB_findBoardBehind.2.1 27 = .ok (.getfield 52, 3) := by decide +kernel
theorem d_SB_findBoardBehind_30 : decode M_SB_findBoardBehind.2.1 30 = .ok (.getfield 118, 3) := by decide +kernel
theorem d_SB_findBoardBehind_33 : decode M_SB_findBoardBehind.2.1 33 = .ok (.invokevirtual 212, 3) := by decide +kernel
theorem d_SB_findBoardBehind_36 : decode M_SB_findBoardBehind.2.1 36 = .ok (.areturn, 1) := by decide +kernel
theorem d_SB_moves_0 : decode M_SB_moves.2.1 0 = .ok (.aload_n 0, 1) := by decide +kernel
theorem d_SB_moves_1 : decode M_SB_moves.2.1 1 = .ok (.getfield 59, 3) := by decide +kernel
theorem d_SB_moves_4 : decode M_SB_moves.2.1 4 = .ok (.getfield 96, 3) := by decide +kernel
theorem d_SB_moves_7 : decode M_SB_moves.2.1 7 = .ok (.getfield 100, 3) := by decide +kernel
theorem d_SB_moves_10 : decode M_SB_moves.2.1 10 = .ok (.ireturn, 1) := by decide +kernel
theorem d_SB_at_0 : decode M_SB_at.2.1 0 = .ok (.aload_n 0, 1) := by decide +kernel
theorem d_SB_at_1 : decode M_SB_at.2.1 1 = .ok (.iload_n 1, 1) := by decide +kernel
theorem d_SB_at_2 : decode M_SB_at.2.1 2 = .ok (.invokevirtual 73, 3) := by decide +kernel
theorem d_SB_at_5 : decode M_SB_at.2.1 5 = .ok (.aload_n 0, 1) := by decide +kernel
theorem d_SB_at_6 : decode M_SB_at.2.1 6 = .ok (.getfield 34, 3) := by decide +kernel
theorem d_SB_at_9 : decode M_SB_at.2.1 9 = .ok (.iload_n 1, 1) := by decide +kernel
theorem d_SB_at_10 : decode M_SB_at.2.1 10 = .ok (.iaload, 1) := by decide +kernel
theorem d_SB_at_11 : decode M_SB_at.2.1 11 = .ok (.ireturn, 1) := by decide +kernel
theorem d_SB_checkPoint_0 : decode M_SB_checkPoint.2.1 0 = .ok (.iload_n 1, 1) := by decide +kernel
theorem d_SB_checkPoint_1 : decode M_SB_checkPoint.2.1 1 = .ok (.ifCond .lt 14, 3) := by decide +kernel
theorem d_SB_checkPoint_4 : decode M_SB_checkPoint.2.1 4 = .ok (.iload_n 1, 1) := by decide +kernel
theorem d_SB_checkPoint_5 : decode M_SB_checkPoint.2.1 5 = .ok (.aload_n 0, 1) := by decide +kernel
theorem d_SB_checkPoint_6 : decode M_SB_checkPoint.2.1 6 = .ok (.getfield 30, 3) := by decide +kernel
theorem d_SB_checkPoint_9 : decode M_SB_checkPoint.2.1 9 = .ok (.getfield 23, 3) := by decide +kernel
theorem d_SB_checkPoint_12 : decode M_SB_checkPoint.2.1 12 = .ok (.if_icmp .lt 11, 3) := by decide +kernel
theorem d_SB_checkPoint_15 : decode M_SB_checkPoint.2.1 15 = .ok (.new 144, 3) := by decide +kernel
theorem d_SB_checkPoint_18 : decode M_SB_checkPoint.2.1 18 = .ok (.dup, 1) := by decide +kernel
theorem d_SB_checkPoint_19 : decode M_SB_checkPoint.2.1 19 = .ok (.invokespecial 146, 3) := by decide +kernel
theorem d_SB_checkPoint_22 : decode M_SB_checkPoint.2.1 22 = .ok (.athrow, 1) := by decide +kernel
theorem d_SB_checkPoint_23 : decode M_SB_checkPoint.2.1 23 = .ok (.return_, 1) := by decide +kernel
theorem d_SB_put_0 : decode M_SB_put.2.1 0 = .ok (.aload_n 0, 1) := by decide +kernel
theorem d_SB_put_1 : decode M_SB_put.2.1 1 = .ok (.iload_n 1, 1) := by decide +kernel
theorem d_SB_put_2 : decode M_SB_put.2.1 2 = .ok (.invokevirtual 73, 3) := by decide +kernel
theorem d_SB_put_5 : decode M_SB_put.2.1 5 = .ok (.iload_n 2, 1) := by decide +kernel
theorem d_SB_put_6 : decode M_SB_put.2.1 6 = .ok (.invokestatic 76, 3) := by decide +kernel
theorem d_SB_put_9 : decode M_SB_put.2.1 9 = .ok (.aload_n 0, 1) := by decide +kernel
theorem d_SB_put_10 : decode M_SB_put.2.1 10 = .ok (.invokevirtual 79, 3) := by decide +kernel
theorem d_SB_put_13 : decode M_SB_put.2.1 13 = .ok (.aload_n 0, 1) := by decide +kernel
theorem d_SB_put_14 : decode M_SB_put.2.1 14 = .ok (.getfield 34, 3) := by decide +kernel
theorem d_SB_put_17 : decode M_SB_put.2.1 17 = .ok (.iload_n 1, 1) := by decide +kernel
theorem d_SB_put_18 : decode M_SB_put.2.1 18 = .ok (.iaload, 1) := by decide +kernel
theorem d_SB_put_19 : decode M_SB_put.2.1 19 = .ok (.istore_n 3, 1) := by decide +kernel
theorem d_SB_put_20 : decode M_SB_put.2.1 20 = .ok (.aload_n 0, 1) := by decide +kernel
theorem d_SB_put_21 : decode M_SB_put.2.1 21 = .ok (.getfield 34, 3) := by decide +kernel
theorem d_SB_put_24 : decode M_SB_put.2.1 24 = .ok (.iload_n 1, 1) := by decide +kernel
theorem d_SB_put_25 : decode M_SB_put.2.1 25 = .ok (.iload_n 2, 1) := by decide +kernel
theorem d_SB_put_26 : decode M_SB_put.2.1 26 = .ok (.iastore, 1) := by decide +kernel
theorem d_SB_put_27 : decode M_SB_put.2.1 27 = .ok (.aload_n 0, 1) := by decide +kernel
theorem d_SB_put_28 : decode M_SB_put.2.1 28 = .ok (.getfield 43, 3) := by decide +kernel
theorem d_SB_put_31 : decode M_SB_put.2.1 31 = .ok (.invokevirtual 82, 3) := by decide +kernel
theorem d_SB_put_34 : decode M_SB_put.2.1 34 = .ok (.aload_n 0, 1) := by decide +kernel
theorem d_SB_put_35 : decode M_SB_put.2.1 35 = .ok (.getfield 43, 3) := by decide +kernel
theorem d_SB_put_38 : decode M_SB_put.2.1 38 = .ok (.invokevirtual 85, 3) := by decide +kernel
theorem d_SB_put_41 : decode M_SB_put.2.1 41 = .ok (.ifCond .eq 19, 3) := by decide +kernel
theorem d_SB_put_44 : decode M_SB_put.2.1 44 = .ok (.aload_n 0, 1) := by decide +kernel
theorem d_SB_put_45 : decode M_SB_put.2.1 45 = .ok (.getfield 34, 3) := by decide +kernel
theorem d_SB_put_48 : decode M_SB_put.2.1 48 = .ok (.iload_n 1, 1) := by decide +kernel
theorem d_SB_put_49 : decode M_SB_put.2.1 49 = .ok (.iload_n 3, 1) := by decide +kernel
theorem d_SB_put_50 : decode M_SB_put.2.1 50 = .ok (.iastore, 1) := by decide +kernel
theorem d_SB_put_51 : decode M_SB_put.2.1 51 = .ok (.aload_n 0, 1) := by decide +kernel
theorem d_SB_put_52 : decode M_SB_put.2.1 52 = .ok (.getfield 43, 3) := by decide +kernel
theorem d_SB_put_55 : decode M_SB_put.2.1 55 = .ok (.invokevirtual 82, 3) := by decide +kernel
theorem d_SB_put_58 : decode M_SB_put.2.1 58 = .ok (.iconst 0, 1) := by decide +kernel
theorem d_SB_put_59 : decode M_SB_put.2.1 59 = .ok (.ireturn, 1) := by decide +kernel
theorem d_SB_put_60 : decode M_SB_put.2.1 60 = .ok (.aload_n 0, 1) := by decide +kernel
theorem d_SB_put_61 : decode M_SB_put.2.1 61 = .ok (.getfield 59, 3) := by decide +kernel
theorem d_SB_put_64 : decode M_SB_put.2.1 64 = .ok (.iload_n 1, 1) := by decide +kernel
theorem d_SB_put_65 : decode M_SB_put.2.1 65 = .ok (.iload_n 2, 1) := by decide +kernel
theorem d_SB_put_66 : decode M_SB_put.2.1 66 = .ok (.invokevirtual 89, 3) := by decide +kernel
theorem d_SB_put_69 : decode M_SB_put.2.1 69 = .ok (.iconst 1, 1) := by decide +kernel
theorem d_SB_put_70 : decode M_SB_put.2.1 70 = .ok (.ireturn, 1) := by decide +kernel
theorem d_SB_checkKind_0 : decode M_SB_checkKind.2.1 0 = .ok (.iload_n 0, 1) := by decide +kernel
theorem d_SB_checkKind_1 : decode M_SB_checkKind.2.1 1 = .ok (.ifCond .lt 8, 3) := by decide +kernel
theorem d_SB_checkKind_4 : decode M_SB_checkKind.2.1 4 = .ok (.iload_n 0, 1) := by decide +kernel
theorem d_SB_checkKind_5 : decode M_SB_checkKind.2.1 5 = .ok (.iconst 2, 1) := by decide +kernel
theorem d_SB_checkKind_6 : decode M_SB_checkKind.2.1 6 = .ok (.if_icmp .le 11, 3) := by decide +kernel
theorem d_SB_checkKind_9 : decode M_SB_checkKind.2.1 9 = .ok (.new 156, 3) := by decide +kernel
theorem d_SB_checkKind_12 : decode M_SB_checkKind.2.1 12 = .ok (.dup, 1) := by decide +kernel
theorem d_SB_checkKind_13 : decode M_SB_checkKind.2.1 13 = .ok (.invokespecial 158, 3) := by decide +kernel
theorem d_SB_checkKind_16 : decode M_SB_checkKind.2.1 16 = .ok (.athrow, 1) := by decide +kernel
theorem d_SB_checkKind_17 : decode M_SB_checkKind.2.1 17 = .ok (.return_, 1) := by decide +kernel
theorem d_SB_checkNoMoveYet_0 : decode M_SB_checkNoMoveYet.2.1 0 = .ok (.aload_n 0, 1) := by decide +kernel
theorem d_SB_checkNoMoveYet_1 : decode M_SB_checkNoMoveYet.2.1 1 = .ok (.getfield 59, 3) := by decide +kernel
theorem d_SB_checkNoMoveYet_4 : decode M_SB_checkNoMoveYet.2.1 4 = .ok (.getfield 96, 3) := by decide +kernel
theorem d_SB_checkNoMoveYet_7 : decode M_SB_checkNoMoveYet.2.1 7 = .ok (.getfield 100, 3) := by decide +kernel
theorem d_SB_checkNoMoveYet_10 : decode M_SB_checkNoMoveYet.2.1 10 = .ok (.ifCond .eq 11, 3) := by decide +kernel
theorem d_SB_checkNoMoveYet_13 : decode M_SB_checkNoMoveYet.2.1 13 = .ok (.new 115, 3) := by decide +kernel
theorem d_SB_checkNoMoveYet_16 : decode M_SB_checkNoMoveYet.2.1 16 = .ok (.dup, 1) := by decide +kernel
theorem d_SB_checkNoMoveYet_17 : decode M_SB_checkNoMoveYet.2.1 17 = .ok (.invokespecial 117, 3) := by decide +kernel
theorem d_SB_checkNoMoveYet_20 : decode M_SB_checkNoMoveYet.2.1 20 = .ok (.athrow, 1) := by decide +kernel
theorem d_SB_checkNoMoveYet_21 : decode M_SB_checkNoMoveYet.2.1 21 = .ok (.return_, 1) := by decide +kernel
theorem d_SB_first_0 : decode M_SB_first.2.1 0 = .ok (.iload_n 1, 1) := by decide +kernel
theorem d_SB_first_1 : decode M_SB_first.2.1 1 = .ok (.invokestatic 93, 3) := by decide +kernel
theorem d_SB_first_4 : decode M_SB_first.2.1 4 = .ok (.aload_n 0, 1) := by decide +kernel
theorem d_SB_first_5 : decode M_SB_first.2.1 5 = .ok (.invokevirtual 79, 3) := by decide +kernel
theorem d_SB_first_8 : decode M_SB_first.2.1 8 = .ok (.aload_n 0, 1) := by decide +kernel
theorem d_SB_first_9 : decode M_SB_first.2.1 9 = .ok (.iload_n 1, 1) := by decide +kernel
theorem d_SB_first_10 : decode M_SB_first.2.1 10 = .ok (.putfield 70, 3) := by decide +kernel
theorem d_SB_first_13 : decode M_SB_first.2.1 13 = .ok (.return_, 1) := by decide +kernel
theorem d_SB_checkSide_0 : decode M_SB_checkSide.2.1 0 = .ok (.iload_n 0, 1) := by decide +kernel
theorem d_SB_checkSide_1 : decode M_SB_checkSide.2.1 1 = .ok (.iconst 1, 1) := by decide +kernel
theorem d_SB_checkSide_2 : decode M_SB_checkSide.2.1 2 = .ok (.if_icmp .eq 16, 3) := by decide +kernel
theorem d_SB_checkSide_5 : decode M_SB_checkSide.2.1 5 = .ok (.iload_n 0, 1) := by decide +kernel
theorem d_SB_checkSide_6 : decode M_SB_checkSide.2.1 6 = .ok (.iconst 2, 1) := by decide +kernel
theorem d_SB_checkSide_7 : decode M_SB_checkSide.2.1 7 = .ok (.if_icmp .eq 11, 3) := by decide +kernel
theorem d_SB_checkSide_10 : decode M_SB_checkSide.2.1 10 = .ok (.new 156, 3) := by decide +kernel
theorem d_SB_checkSide_13 : decode M_SB_checkSide.2.1 13 = .ok (.dup, 1) := by decide +kernel
theorem d_SB_checkSide_14 : decode M_SB_checkSide.2.1 14 = .ok (.invokespecial 158, 3) := by decide +kernel
theorem d_SB_checkSide_17 : decode M_SB_checkSide.2.1 17 = .ok (.athrow, 1) := by decide +kernel
theorem d_SB_checkSide_18 : decode M_SB_checkSide.2.1 18 = .ok (.return_, 1) := by decide +kernel
theorem d_SB_play_0 : decode M_SB_play.2.1 0 = .ok (.aload_n 0, 1) := by decide +kernel
theorem d_SB_play_1 : decode M_SB_play.2.1 1 = .ok (.iload_n 1, 1) := by decide +kernel
theorem d_SB_play_2 : decode M_SB_play.2.1 2 = .ok (.invokevirtual 73, 3) := by decide +kernel
theorem d_SB_play_5 : decode M_SB_play.2.1 5 = .ok (.aload_n 0, 1) := by decide +kernel
theorem d_SB_play_6 : decode M_SB_play.2.1 6 = .ok (.invokevirtual 109, 3) := by decide +kernel
theorem d_SB_play_9 : decode M_SB_play.2.1 9 = .ok (.aload_n 0, 1) := by decide +kernel
theorem d_SB_play_10 : decode M_SB_play.2.1 10 = .ok (.iload_n 1, 1) := by decide +kernel
theorem d_SB_play_11 : decode M_SB_play.2.1 11 = .ok (.invokevirtual 112, 3) := by decide +kernel
theorem d_SB_play_14 : decode M_SB_play.2.1 14 = .ok (.ifCond .eq 11, 3) := by decide +kernel
theorem d_SB_play_17 : decode M_SB_play.2.1 17 = .ok (.new 115, 3) := by decide +kernel
theorem d_SB_play_20 : decode M_SB_play.2.1 20 = .ok (.dup, 1) := by decide +kernel
theorem d_SB_play_21 : decode M_SB_play.2.1 21 = .ok (.invokespecial 117, 3) := by decide +kernel
theorem d_SB_play_24 : decode M_SB_play.2.1 24 = .ok (.athrow, 1) := by decide +kernel
theorem d_SB_play_25 : decode M_SB_play.2.1 25 = .ok (.aload_n 0, 1) := by decide +kernel
theorem d_SB_play_26 : decode M_SB_play.2.1 26 = .ok (.getfield 59, 3) := by decide +kernel
theorem d_SB_play_29 : decode M_SB_play.2.1 29 = .ok (.iload_n 1, 1) := by decide +kernel
theorem d_SB_play_30 : decode M_SB_play.2.1 30 = .ok (.aload_n 0, 1) := by decide +kernel
theorem d_SB_play_31 : decode M_SB_play.2.1 31 = .ok (.getfield 52, 3) := by decide +kernel
theorem d_SB_play_34 : decode M_SB_play.2.1 34 = .ok (.getfield 118, 3) := by decide +kernel
theorem d_SB_play_37 : decode M_SB_play.2.1 37 = .ok (.aload_n 0, 1) := by decide +kernel
theorem d_SB_play_38 : decode M_SB_play.2.1 38 = .ok (.getfield 52, 3) := by decide +kernel
theorem d_SB_play_41 : decode M_SB_play.2.1 41 = .ok (.getfield 122, 3) := by decide +kernel
theorem d_SB_play_44 : decode M_SB_play.2.1 44 = .ok (.aload_n 0, 1) := by decide +kernel
theorem d_SB_play_45 : decode M_SB_play.2.1 45 = .ok (.getfield 52, 3) := by decide +kernel
theorem d_SB_play_48 : decode M_SB_play.2.1 48 = .ok (.getfield 125, 3) := by decide +kernel
theorem d_SB_play_51 : decode M_SB_play.2.1 51 = .ok (.invokevirtual 128, 3) := by decide +kernel
theorem d_SB_play_54 : decode M_SB_play.2.1 54 = .ok (.aload_n 0, 1) := by decide +kernel
theorem d_SB_play_55 : decode M_SB_play.2.1 55 = .ok (.invokevirtual 132, 3) := by decide +kernel
theorem d_SB_play_58 : decode M_SB_play.2.1 58 = .ok (.aload_n 0, 1) := by decide +kernel
theorem d_SB_play_59 : decode M_SB_play.2.1 59 = .ok (.getfield 52, 3) := by decide +kernel
theorem d_SB_play_62 : decode M_SB_play.2.1 62 = .ok (.getfield 125, 3) := by decide +kernel
theorem d_SB_play_65 : decode M_SB_play.2.1 65 = .ok (.ireturn, 1) := by decide +kernel
theorem d_SB_checkRoomForMove_0 : decode M_SB_checkRoomForMove.2.1 0 = .ok (.aload_n 0, 1) := by decide +kernel
theorem d_SB_checkRoomForMove_1 : decode M_SB_checkRoomForMove.2.1 1 = .ok (.getfield 59, 3) := by decide +kernel
theorem d_SB_checkRoomForMove_4 : decode M_SB_checkRoomForMove.2.1 4 = .ok (.getfield 96, 3) := by decide +kernel
theorem d_SB_checkRoomForMove_7 : decode M_SB_checkRoomForMove.2.1 7 = .ok (.getfield 100, 3) := by decide +kernel
theorem d_SB_checkRoomForMove_10 : decode M_SB_checkRoomForMove.2.1 10 = .ok (.sipush 1000, 3) := by decide +kernel
theorem d_SB_checkRoomForMove_13 : decode M_SB_checkRoomForMove.2.1 13 = .ok (.if_icmp .lt 11, 3) := by decide +kernel
theorem d_SB_checkRoomForMove_16 : decode M_SB_checkRoomForMove.2.1 16 = .ok (.new 115, 3) := by decide +kernel
theorem d_SB_checkRoomForMove_19 : decode M_SB_checkRoomForMove.2.1 19 = .ok (.dup, 1) := by decide +kernel
theorem d_SB_checkRoomForMove_20 : decode M_SB_checkRoomForMove.2.1 20 = .ok (.invokespecial 117, 3) := by decide +kernel
theorem d_SB_checkRoomForMove_23 : decode M_SB_checkRoomForMove.2.1 23 = .ok (.athrow, 1) := by decide +kernel
theorem d_SB_checkRoomForMove_24 : decode M_SB_checkRoomForMove.2.1 24 = .ok (.return_, 1) := by decide +kernel
theorem d_SB_showLatestBoard_0 : decode M_SB_showLatestBoard.2.1 0 = .ok (.aload_n 0, 1) := by decide +kernel
theorem d_SB_showLatestBoard_1 : decode M_SB_showLatestBoard.2.1 1 = .ok (.getfield 59, 3) := by decide +kernel
theorem d_SB_showLatestBoard_4 : decode M_SB_showLatestBoard.2.1 4 = .ok (.getfield 96, 3) := by decide +kernel
theorem d_SB_showLatestBoard_7 : decode M_SB_showLatestBoard.2.1 7 = .ok (.getfield 204, 3) := by decide +kernel
theorem d_SB_showLatestBoard_10 : decode M_SB_showLatestBoard.2.1 10 = .ok (.aload_n 0, 1) := by decide +kernel
theorem d_SB_showLatestBoard_11 : decode M_SB_showLatestBoard.2.1 11 = .ok (.getfield 34, 3) := by decide +kernel
theorem d_SB_showLatestBoard_14 : decode M_SB_showLatestBoard.2.1 14 = .ok (.invokestatic 216, 3) := by decide +kernel
theorem d_SB_showLatestBoard_17 : decode M_SB_showLatestBoard.2.1 17 = .ok (.aload_n 0, 1) := by decide +kernel
theorem d_SB_showLatestBoard_18 : decode M_SB_showLatestBoard.2.1 18 = .ok (.getfield 43, 3) := by decide +kernel
theorem d_SB_showLatestBoard_21 : decode M_SB_showLatestBoard.2.1 21 = .ok (.invokevirtual 82, 3) := by decide +kernel
theorem d_SB_showLatestBoard_24 : decode M_SB_showLatestBoard.2.1 24 = .ok (.return_, 1) := by decide +kernel
theorem d_SB_why_0 : decode M_SB_why.2.1 0 = .ok (.aload_n 0, 1) := by decide +kernel
theorem d_SB_why_1 : decode M_SB_why.2.1 1 = .ok (.iload_n 1, 1) := by decide +kernel
theorem d_SB_why_2 : decode M_SB_why.2.1 2 = .ok (.invokevirtual 73, 3) := by decide +kernel
theorem d_SB_why_5 : decode M_SB_why.2.1 5 = .ok (.aload_n 0, 1) := by decide +kernel
theorem d_SB_why_6 : decode M_SB_why.2.1 6 = .ok (.iload_n 1, 1) := by decide +kernel
theorem d_SB_why_7 : decode M_SB_why.2.1 7 = .ok (.invokevirtual 112, 3) := by decide +kernel
theorem d_SB_why_10 : decode M_SB_why.2.1 10 = .ok (.ireturn, 1) := by decide +kernel
theorem d_SB_pass_0 : decode M_SB_pass.2.1 0 = .ok (.aload_n 0, 1) := by decide +kernel
theorem d_SB_pass_1 : decode M_SB_pass.2.1 1 = .ok (.invokevirtual 109, 3) := by decide +kernel
theorem d_SB_pass_4 : decode M_SB_pass.2.1 4 = .ok (.aload_n 0, 1) := by decide +kernel
theorem d_SB_pass_5 : decode M_SB_pass.2.1 5 = .ok (.getfield 59, 3) := by decide +kernel
theorem d_SB_pass_8 : decode M_SB_pass.2.1 8 = .ok (.invokevirtual 135, 3) := by decide +kernel
theorem d_SB_pass_11 : decode M_SB_pass.2.1 11 = .ok (.ifCond .eq 11, 3) := by decide +kernel
theorem d_SB_pass_14 : decode M_SB_pass.2.1 14 = .ok (.new 115, 3) := by decide +kernel
theorem d_SB_pass_17 : decode M_SB_pass.2.1 17 = .ok (.dup, 1) := by decide +kernel
theorem d_SB_pass_18 : decode M_SB_pass.2.1 18 = .ok (.invokespecial 117, 3) := by decide +kernel
theorem d_SB_pass_21 : decode M_SB_pass.2.1 21 = .ok (.athrow, 1) := by decide +kernel
theorem d_SB_pass_22 : decode M_SB_pass.2.1 22 = .ok (.aload_n 0, 1) := by decide +kernel
theorem d_SB_pass_23 : decode M_SB_pass.2.1 23 = .ok (.getfield 59, 3) := by decide +kernel
theorem d_SB_pass_26 : decode M_SB_pass.2.1 26 = .ok (.invokevirtual 138, 3) := by decide +kernel
theorem d_SB_pass_29 : decode M_SB_pass.2.1 29 = .ok (.aload_n 0, 1) := by decide +kernel
theorem d_SB_pass_30 : decode M_SB_pass.2.1 30 = .ok (.getfield 59, 3) := by decide +kernel
theorem d_SB_pass_33 : decode M_SB_pass.2.1 33 = .ok (.invokevirtual 135, 3) := by decide +kernel
theorem d_SB_pass_36 : decode M_SB_pass.2.1 36 = .ok (.ireturn, 1) := by decide +kernel
theorem d_SB_back_0 : decode M_SB_back.2.1 0 = .ok (.aload_n 0, 1) := by decide +kernel
theorem d_SB_back_1 : decode M_SB_back.2.1 1 = .ok (.getfield 59, 3) := by decide +kernel
theorem d_SB_back_4 : decode M_SB_back.2.1 4 = .ok (.getfield 96, 3) := by decide +kernel
theorem d_SB_back_7 : decode M_SB_back.2.1 7 = .ok (.getfield 100, 3) := by decide +kernel
theorem d_SB_back_10 : decode M_SB_back.2.1 10 = .ok (.ifCond .ne 11, 3) := by decide +kernel
theorem d_SB_back_13 : decode M_SB_back.2.1 13 = .ok (.new 115, 3) := by decide +kernel
theorem d_SB_back_16 : decode M_SB_back.2.1 16 = .ok (.dup, 1) := by decide +kernel
theorem d_SB_back_17 : decode M_SB_back.2.1 17 = .ok (.invokespecial 117, 3) := by decide +kernel
theorem d_SB_back_20 : decode M_SB_back.2.1 20 = .ok (.athrow, 1) := by decide +kernel
theorem d_SB_back_21 : decode M_SB_back.2.1 21 = .ok (.aload_n 0, 1) := by decide +kernel
theorem d_SB_back_22 : decode M_SB_back.2.1 22 = .ok (.getfield 59, 3) := by decide +kernel
theorem d_SB_back_25 : decode M_SB_back.2.1 25 = .ok (.invokevirtual 141, 3) := by decide +kernel
theorem d_SB_back_28 : decode M_SB_back.2.1 28 = .ok (.aload_n 0, 1) := by decide +kernel
theorem d_SB_back_29 : decode M_SB_back.2.1 29 = .ok (.invokevirtual 132, 3) := by decide +kernel
theorem d_SB_back_32 : decode M_SB_back.2.1 32 = .ok (.aload_n 0, 1) := by decide +kernel
theorem d_SB_back_33 : decode M_SB_back.2.1 33 = .ok (.getfield 59, 3) := by decide +kernel
theorem d_SB_back_36 : decode M_SB_back.2.1 36 = .ok (.getfield 96, 3) := by decide +kernel
theorem d_SB_back_39 : decode M_SB_back.2.1 39 = .ok (.getfield 100, 3) := by decide +kernel
theorem d_SB_back_42 : decode M_SB_back.2.1 42 = .ok (.ireturn, 1) := by decide +kernel
theorem d_SB_move_0 : decode M_SB_move.2.1 0 = .ok (.iload_n 1, 1) := by decide +kernel
theorem d_SB_move_1 : decode M_SB_move.2.1 1 = .ok (.ifCond .lt 17, 3) := by decide +kernel
theorem d_SB_move_4 : decode M_SB_move.2.1 4 = .ok (.iload_n 1, 1) := by decide +kernel
theorem d_SB_move_5 : decode M_SB_move.2.1 5 = .ok (.aload_n 0, 1) := by decide +kernel
theorem d_SB_move_6 : decode M_SB_move.2.1 6 = .ok (.getfield 59, 3) := by decide +kernel
theorem d_SB_move_9 : decode M_SB_move.2.1 9 = .ok (.getfield 96, 3) := by decide +kernel
theorem d_SB_move_12 : decode M_SB_move.2.1 12 = .ok (.getfield 100, 3) := by decide +kernel
theorem d_SB_move_15 : decode M_SB_move.2.1 15 = .ok (.if_icmp .lt 11, 3) := by decide +kernel
theorem d_SB_move_18 : decode M_SB_move.2.1 18 = .ok (.new 144, 3) := by decide +kernel
theorem d_SB_move_21 : decode M_SB_move.2.1 21 = .ok (.dup, 1) := by decide +kernel
theorem d_SB_move_22 : decode M_SB_move.2.1 22 = .ok (.invokespecial 146, 3) := by decide +kernel
theorem d_SB_move_25 : decode M_SB_move.2.1 25 = .ok (.athrow, 1) := by decide +kernel
theorem d_SB_move_26 : decode M_SB_move.2.1 26 = .ok (.aload_n 0, 1) := by decide +kernel
theorem d_SB_move_27 : decode M_SB_move.2.1 27 = .ok (.getfield 59, 3) := by decide +kernel
theorem d_SB_move_30 : decode M_SB_move.2.1 30 = .ok (.iload_n 1, 1) := by decide +kernel
theorem d_SB_move_31 : decode M_SB_move.2.1 31 = .ok (.invokevirtual 147, 3) := by decide +kernel
theorem d_SB_move_34 : decode M_SB_move.2.1 34 = .ok (.ireturn, 1) := by decide +kernel
theorem d_SB_taken_0 : decode M_SB_taken.2.1 0 = .ok (.iload_n 1, 1) := by decide +kernel
theorem d_SB_taken_1 : decode M_SB_taken.2.1 1 = .ok (.invokestatic 93, 3) := by decide +kernel
theorem d_SB_taken_4 : decode M_SB_taken.2.1 4 = .ok (.iload_n 1, 1) := by decide +kernel
theorem d_SB_taken_5 : decode M_SB_taken.2.1 5 = .ok (.iconst 1, 1) := by decide +kernel
theorem d_SB_taken_6 : decode M_SB_taken.2.1 6 = .ok (.if_icmp .ne 16, 3) := by decide +kernel
theorem d_SB_taken_9 : decode M_SB_taken.2.1 9 = .ok (.aload_n 0, 1) := by decide +kernel
theorem d_SB_taken_10 : decode M_SB_taken.2.1 10 = .ok (.getfield 59, 3) := by decide +kernel
theorem d_SB_taken_13 : decode M_SB_taken.2.1 13 = .ok (.getfield 96, 3) := by decide +kernel
theorem d_SB_taken_16 : decode M_SB_taken.2.1 16 = .ok (.getfield 150, 3) := by decide +kernel
theorem d_SB_taken_19 : decode M_SB_taken.2.1 19 = .ok (.goto 13, 3) := by decide +kernel
theorem d_SB_taken_22 : decode M_SB_taken.2.1 22 = .ok (.aload_n 0, 1) := by decide +kernel
theorem d_SB_taken_23 : decode M_SB_taken.2.1 23 = .ok (.getfield 59, 3) := by decide +kernel
theorem d_SB_taken_26 : decode M_SB_taken.2.1 26 = .ok (.getfield 96, 3) := by decide +kernel
theorem d_SB_taken_29 : decode M_SB_taken.2.1 29 = .ok (.getfield 153, 3) := by decide +kernel
theorem d_SB_taken_32 : decode M_SB_taken.2.1 32 = .ok (.ireturn, 1) := by decide +kernel
theorem d_SB_string_0 : decode M_SB_string.2.1 0 = .ok (.aload_n 0, 1) := by decide +kernel
theorem d_SB_string_1 : decode M_SB_string.2.1 1 = .ok (.iload_n 1, 1) := by decide +kernel
theorem d_SB_string_2 : decode M_SB_string.2.1 2 = .ok (.invokevirtual 73, 3) := by decide +kernel
theorem d_SB_string_5 : decode M_SB_string.2.1 5 = .ok (.iload_n 2, 1) := by decide +kernel
theorem d_SB_string_6 : decode M_SB_string.2.1 6 = .ok (.ifCond .lt 8, 3) := by decide +kernel
theorem d_SB_string_9 : decode M_SB_string.2.1 9 = .ok (.iload_n 2, 1) := by decide +kernel
theorem d_SB_string_10 : decode M_SB_string.2.1 10 = .ok (.iconst 3, 1) := by decide +kernel
theorem d_SB_string_11 : decode M_SB_string.2.1 11 = .ok (.if_icmp .le 11, 3) := by decide +kernel
theorem d_SB_string_14 : decode M_SB_string.2.1 14 = .ok (.new 156, 3) := by decide +kernel
theorem d_SB_string_17 : decode M_SB_string.2.1 17 = .ok (.dup, 1) := by decide +kernel
theorem d_SB_string_18 : decode M_SB_string.2.1 18 = .ok (.invokespecial 158, 3) := by decide +kernel
theorem d_SB_string_21 : decode M_SB_string.2.1 21 = .ok (.athrow, 1) := by decide +kernel
theorem d_SB_string_22 : decode M_SB_string.2.1 22 = .ok (.aload_n 0, 1) := by decide +kernel
theorem d_SB_string_23 : decode M_SB_string.2.1 23 = .ok (.getfield 34, 3) := by decide +kernel
theorem d_SB_string_26 : decode M_SB_string.2.1 26 = .ok (.iload_n 1, 1) := by decide +kernel
theorem d_SB_string_27 : decode M_SB_string.2.1 27 = .ok (.iaload, 1) := by decide +kernel
theorem d_SB_string_28 : decode M_SB_string.2.1 28 = .ok (.ifCond .ne 5, 3) := by decide +kernel
theorem d_SB_string_31 : decode M_SB_string.2.1 31 = .ok (.iconst (-1), 1) := by decide +kernel
theorem d_SB_string_32 : decode M_SB_string.2.1 32 = .ok (.ireturn, 1) := by decide +kernel
theorem d_SB_string_33 : decode M_SB_string.2.1 33 = .ok (.aload_n 0, 1) := by decide +kernel
theorem d_SB_string_34 : decode M_SB_string.2.1 34 = .ok (.getfield 43, 3) := by decide +kernel
theorem d_SB_string_37 : decode M_SB_string.2.1 37 = .ok (.getfield 159, 3) := by decide +kernel
theorem d_SB_string_40 : decode M_SB_string.2.1 40 = .ok (.iload_n 1, 1) := by decide +kernel
theorem d_SB_string_41 : decode M_SB_string.2.1 41 = .ok (.invokevirtual 163, 3) := by decide +kernel
theorem d_SB_string_44 : decode M_SB_string.2.1 44 = .ok (.istore_n 3, 1) := by decide +kernel
theorem d_SB_string_45 : decode M_SB_string.2.1 45 = .ok (.iload_n 2, 1) := by decide +kernel
theorem d_SB_string_46 : decode M_SB_string.2.1 46 = .ok (.tableswitch 59 0 2 #[26, 38, 47], 26) := by decide +kernel
theorem d_SB_string_72 : decode M_SB_string.2.1 72 = .ok (.aload_n 0, 1) := by decide +kernel
theorem d_SB_string_73 : decode M_SB_string.2.1 73 = .ok (.getfield 43, 3) := by decide +kernel
theorem d_SB_string_76 : decode M_SB_string.2.1 76 = .ok (.getfield 159, 3) := by decide +kernel
theorem d_SB_string_79 : decode M_SB_string.2.1 79 = .ok (.iload_n 3, 1) := by decide +kernel
theorem d_SB_string_80 : decode M_SB_string.2.1 80 = .ok (.invokevirtual 168, 3) := by decide +kernel
theorem d_SB_string_83 : decode M_SB_string.2.1 83 = .ok (.ireturn, 1) := by decide +kernel
theorem d_SB_string_84 : decode M_SB_string.2.1 84 = .ok (.aload_n 0, 1) := by decide +kernel
theorem d_SB_string_85 : decode M_SB_string.2.1 85 = .ok (.getfield 43, 3) := by decide +kernel
theorem d_SB_string_88 : decode M_SB_string.2.1 88 = .ok (.iload_n 3, 1) := by decide +kernel
theorem d_SB_string_89 : decode M_SB_string.2.1 89 = .ok (.invokevirtual 171, 3) := by decide +kernel
theorem d_SB_string_92 : decode M_SB_string.2.1 92 = .ok (.ireturn, 1) := by decide +kernel
theorem d_SB_string_93 : decode M_SB_string.2.1 93 = .ok (.aload_n 0, 1) := by decide +kernel
theorem d_SB_string_94 : decode M_SB_string.2.1 94 = .ok (.getfield 43, 3) := by decide +kernel
theorem d_SB_string_97 : decode M_SB_string.2.1 97 = .ok (.getfield 159, 3) := by decide +kernel
theorem d_SB_string_100 : decode M_SB_string.2.1 100 = .ok (.iload_n 3, 1) := by decide +kernel
theorem d_SB_string_101 : decode M_SB_string.2.1 101 = .ok (.invokevirtual 174, 3) := by decide +kernel
theorem d_SB_string_104 : decode M_SB_string.2.1 104 = .ok (.ireturn, 1) := by decide +kernel
theorem d_SB_string_105 : decode M_SB_string.2.1 105 = .ok (.aload_n 0, 1) := by decide +kernel
theorem d_SB_string_106 : decode M_SB_string.2.1 106 = .ok (.getfield 43, 3) := by decide +kernel
theorem d_SB_string_109 : decode M_SB_string.2.1 109 = .ok (.iload_n 3, 1) := by decide +kernel
theorem d_SB_string_110 : decode M_SB_string.2.1 110 = .ok (.invokevirtual 177, 3) := by decide +kernel
theorem d_SB_string_113 : decode M_SB_string.2.1 113 = .ok (.ireturn, 1) := by decide +kernel
theorem d_SB_strings_0 : decode M_SB_strings.2.1 0 = .ok (.iload_n 1, 1) := by decide +kernel
theorem d_SB_strings_1 : decode M_SB_strings.2.1 1 = .ok (.invokestatic 93, 3) := by decide +kernel
theorem d_SB_strings_4 : decode M_SB_strings.2.1 4 = .ok (.aload_n 0, 1) := by decide +kernel
theorem d_SB_strings_5 : decode M_SB_strings.2.1 5 = .ok (.getfield 43, 3) := by decide +kernel
theorem d_SB_strings_8 : decode M_SB_strings.2.1 8 = .ok (.iload_n 1, 1) := by decide +kernel
theorem d_SB_strings_9 : decode M_SB_strings.2.1 9 = .ok (.invokevirtual 180, 3) := by decide +kernel
theorem d_SB_strings_12 : decode M_SB_strings.2.1 12 = .ok (.ireturn, 1) := by decide +kernel
theorem d_SB_ground_0 : decode M_SB_ground.2.1 0 = .ok (.iload_n 1, 1) := by decide +kernel
theorem d_SB_ground_1 : decode M_SB_ground.2.1 1 = .ok (.invokestatic 76, 3) := by decide +kernel
theorem d_SB_ground_4 : decode M_SB_ground.2.1 4 = .ok (.aload_n 0, 1) := by decide +kernel
theorem d_SB_ground_5 : decode M_SB_ground.2.1 5 = .ok (.getfield 43, 3) := by decide +kernel
theorem d_SB_ground_8 : decode M_SB_ground.2.1 8 = .ok (.iload_n 1, 1) := by decide +kernel
theorem d_SB_ground_9 : decode M_SB_ground.2.1 9 = .ok (.invokevirtual 183, 3) := by decide +kernel
theorem d_SB_ground_12 : decode M_SB_ground.2.1 12 = .ok (.ireturn, 1) := by decide +kernel
theorem d_SB_owner_0 : decode M_SB_owner.2.1 0 = .ok (.aload_n 0, 1) := by decide +kernel
theorem d_SB_owner_1 : decode M_SB_owner.2.1 1 = .ok (.iload_n 1, 1) := by decide +kernel
theorem d_SB_owner_2 : decode M_SB_owner.2.1 2 = .ok (.invokevirtual 73, 3) := by decide +kernel
theorem d_SB_owner_5 : decode M_SB_owner.2.1 5 = .ok (.aload_n 0, 1) := by decide +kernel
theorem d_SB_owner_6 : decode M_SB_owner.2.1 6 = .ok (.getfield 43, 3) := by decide +kernel
theorem d_SB_owner_9 : decode M_SB_owner.2.1 9 = .ok (.aload_n 0, 1) := by decide +kernel
theorem d_SB_owner_10 : decode M_SB_owner.2.1 10 = .ok (.getfield 43, 3) := by decide +kernel
theorem d_SB_owner_13 : decode M_SB_owner.2.1 13 = .ok (.getfield 159, 3) := by decide +kernel
theorem d_SB_owner_16 : decode M_SB_owner.2.1 16 = .ok (.iload_n 1, 1) := by decide +kernel
theorem d_SB_owner_17 : decode M_SB_owner.2.1 17 = .ok (.invokevirtual 163, 3) := by decide +kernel
theorem d_SB_owner_20 : decode M_SB_owner.2.1 20 = .ok (.invokevirtual 186, 3) := by decide +kernel
theorem d_SB_owner_23 : decode M_SB_owner.2.1 23 = .ok (.ireturn, 1) := by decide +kernel
theorem d_SB_alive_0 : decode M_SB_alive.2.1 0 = .ok (.aload_n 0, 1) := by decide +kernel
theorem d_SB_alive_1 : decode M_SB_alive.2.1 1 = .ok (.iload_n 1, 1) := by decide +kernel
theorem d_SB_alive_2 : decode M_SB_alive.2.1 2 = .ok (.invokevirtual 73, 3) := by decide +kernel
theorem d_SB_alive_5 : decode M_SB_alive.2.1 5 = .ok (.aload_n 0, 1) := by decide +kernel
theorem d_SB_alive_6 : decode M_SB_alive.2.1 6 = .ok (.getfield 34, 3) := by decide +kernel
theorem d_SB_alive_9 : decode M_SB_alive.2.1 9 = .ok (.iload_n 1, 1) := by decide +kernel
theorem d_SB_alive_10 : decode M_SB_alive.2.1 10 = .ok (.iaload, 1) := by decide +kernel
theorem d_SB_alive_11 : decode M_SB_alive.2.1 11 = .ok (.ifCond .ne 5, 3) := by decide +kernel
theorem d_SB_alive_14 : decode M_SB_alive.2.1 14 = .ok (.iconst 0, 1) := by decide +kernel
theorem d_SB_alive_15 : decode M_SB_alive.2.1 15 = .ok (.ireturn, 1) := by decide +kernel
theorem d_SB_alive_16 : decode M_SB_alive.2.1 16 = .ok (.aload_n 0, 1) := by decide +kernel
theorem d_SB_alive_17 : decode M_SB_alive.2.1 17 = .ok (.getfield 66, 3) := by decide +kernel
theorem d_SB_alive_20 : decode M_SB_alive.2.1 20 = .ok (.aload_n 0, 1) := by decide +kernel
theorem d_SB_alive_21 : decode M_SB_alive.2.1 21 = .ok (.getfield 34, 3) := by decide +kernel
theorem d_SB_alive_24 : decode M_SB_alive.2.1 24 = .ok (.iload_n 1, 1) := by decide +kernel
theorem d_SB_alive_25 : decode M_SB_alive.2.1 25 = .ok (.iaload, 1) := by decide +kernel
theorem d_SB_alive_26 : decode M_SB_alive.2.1 26 = .ok (.invokevirtual 189, 3) := by decide +kernel
theorem d_SB_alive_29 : decode M_SB_alive.2.1 29 = .ok (.aload_n 0, 1) := by decide +kernel
theorem d_SB_alive_30 : decode M_SB_alive.2.1 30 = .ok (.getfield 66, 3) := by decide +kernel
theorem d_SB_alive_33 : decode M_SB_alive.2.1 33 = .ok (.iload_n 1, 1) := by decide +kernel
theorem d_SB_alive_34 : decode M_SB_alive.2.1 34 = .ok (.invokevirtual 192, 3) := by decide +kernel
theorem d_SB_alive_37 : decode M_SB_alive.2.1 37 = .ok (.ireturn, 1) := by decide +kernel
theorem d_SB_safe_0 : decode M_SB_safe.2.1 0 = .ok (.iload_n 1, 1) := by decide +kernel
theorem d_SB_safe_1 : decode M_SB_safe.2.1 1 = .ok (.invokestatic 93, 3) := by decide +kernel
theorem d_SB_safe_4 : decode M_SB_safe.2.1 4 = .ok (.aload_n 0, 1) := by decide +kernel
theorem d_SB_safe_5 : decode M_SB_safe.2.1 5 = .ok (.getfield 66, 3) := by decide +kernel
theorem d_SB_safe_8 : decode M_SB_safe.2.1 8 = .ok (.iload_n 1, 1) := by decide +kernel
theorem d_SB_safe_9 : decode M_SB_safe.2.1 9 = .ok (.invokevirtual 189, 3) := by decide +kernel
theorem d_SB_safe_12 : decode M_SB_safe.2.1 12 = .ok (.aload_n 0, 1) := by decide +kernel
theorem d_SB_safe_13 : decode M_SB_safe.2.1 13 = .ok (.getfield 66, 3) := by decide +kernel
theorem d_SB_safe_16 : decode M_SB_safe.2.1 16 = .ok (.invokevirtual 196, 3) := by decide +kernel
theorem d_SB_safe_19 : decode M_SB_safe.2.1 19 = .ok (.ireturn, 1) := by decide +kernel
theorem d_SB_ago_0 : decode M_SB_ago.2.1 0 = .ok (.aload_n 0, 1) := by decide +kernel
theorem d_SB_ago_1 : decode M_SB_ago.2.1 1 = .ok (.iload_n 1, 1) := by decide +kernel
theorem d_SB_ago_2 : decode M_SB_ago.2.1 2 = .ok (.invokevirtual 73, 3) := by decide +kernel
theorem d_SB_ago_5 : decode M_SB_ago.2.1 5 = .ok (.aload_n 0, 1) := by decide +kernel
theorem d_SB_ago_6 : decode M_SB_ago.2.1 6 = .ok (.getfield 34, 3) := by decide +kernel
theorem d_SB_ago_9 : decode M_SB_ago.2.1 9 = .ok (.iload_n 1, 1) := by decide +kernel
theorem d_SB_ago_10 : decode M_SB_ago.2.1 10 = .ok (.iaload, 1) := by decide +kernel
theorem d_SB_ago_11 : decode M_SB_ago.2.1 11 = .ok (.ifCond .eq 5, 3) := by decide +kernel
theorem d_SB_ago_14 : decode M_SB_ago.2.1 14 = .ok (.iconst (-1), 1) := by decide +kernel
theorem d_SB_ago_15 : decode M_SB_ago.2.1 15 = .ok (.ireturn, 1) := by decide +kernel
theorem d_SB_ago_16 : decode M_SB_ago.2.1 16 = .ok (.aload_n 0, 1) := by decide +kernel
theorem d_SB_ago_17 : decode M_SB_ago.2.1 17 = .ok (.iload_n 1, 1) := by decide +kernel
theorem d_SB_ago_18 : decode M_SB_ago.2.1 18 = .ok (.invokevirtual 200, 3) := by decide +kernel
theorem d_SB_ago_21 : decode M_SB_ago.2.1 21 = .ok (.astore_n 2, 1) := by decide +kernel
theorem d_SB_ago_22 : decode M_SB_ago.2.1 22 = .ok (.aload_n 2, 1) := by decide +kernel
theorem d_SB_ago_23 : decode M_SB_ago.2.1 23 = .ok (.ifnonnull 7, 3) := by decide +kernel
theorem d_SB_ago_26 : decode M_SB_ago.2.1 26 = .ok (.iconst (-1), 1) := by decide +kernel
theorem d_SB_ago_27 : decode M_SB_ago.2.1 27 = .ok (.goto 18, 3) := by decide +kernel
theorem d_SB_ago_30 : decode M_SB_ago.2.1 30 = .ok (.aload_n 0, 1) := by decide +kernel
theorem d_SB_ago_31 : decode M_SB_ago.2.1 31 = .ok (.getfield 59, 3) := by decide +kernel
theorem d_SB_ago_34 : decode M_SB_ago.2.1 34 = .ok (.getfield 96, 3) := by decide +kernel
theorem d_SB_ago_37 : decode M_SB_ago.2.1 37 = .ok (.getfield 100, 3) := by decide +kernel
theorem d_SB_ago_40 : decode M_SB_ago.2.1 40 = .ok (.aload_n 2, 1) := by decide +kernel
theorem d_SB_ago_41 : decode M_SB_ago.2.1 41 = .ok (.getfield 100, 3) := by decide +kernel
theorem d_SB_ago_44 : decode M_SB_ago.2.1 44 = .ok (.isub, 1) := by decide +kernel
theorem d_SB_ago_45 : decode M_SB_ago.2.1 45 = .ok (.ireturn, 1) := by decide +kernel
