/-! Decode rows, printed. -/
theorem d_Ref_allowed_0 : decode M_Ref_allowed.2.1 0 = .ok (.aload_n 0, 1) := by decide +kernel
theorem d_Ref_allowed_1 : decode M_Ref_allowed.2.1 1 = .ok (.iconst 0, 1) := by decide +kernel
theorem d_Ref_allowed_2 : decode M_Ref_allowed.2.1 2 = .ok (.putfield 65, 3) := by decide +kernel
theorem d_Ref_allowed_5 : decode M_Ref_allowed.2.1 5 = .ok (.iconst 0, 1) := by decide +kernel
theorem d_Ref_allowed_6 : decode M_Ref_allowed.2.1 6 = .ok (.istore_n 1, 1) := by decide +kernel
theorem d_Ref_allowed_7 : decode M_Ref_allowed.2.1 7 = .ok (.iconst 0, 1) := by decide +kernel
theorem d_Ref_allowed_8 : decode M_Ref_allowed.2.1 8 = .ok (.istore_n 2, 1) := by decide +kernel
theorem d_Ref_allowed_9 : decode M_Ref_allowed.2.1 9 = .ok (.iload_n 2, 1) := by decide +kernel
theorem d_Ref_allowed_10 : decode M_Ref_allowed.2.1 10 = .ok (.aload_n 0, 1) := by decide +kernel
theorem d_Ref_allowed_11 : decode M_Ref_allowed.2.1 11 = .ok (.getfield 62, 3) := by decide +kernel
theorem d_Ref_allowed_14 : decode M_Ref_allowed.2.1 14 = .ok (.if_icmp .ge 25, 3) := by decide +kernel
theorem d_Ref_allowed_17 : decode M_Ref_allowed.2.1 17 = .ok (.aload_n 0, 1) := by decide +kernel
theorem d_Ref_allowed_18 : decode M_Ref_allowed.2.1 18 = .ok (.iload_n 2, 1) := by decide +kernel
theorem d_Ref_allowed_19 : decode M_Ref_allowed.2.1 19 = .ok (.invokevirtual 129, 3) := by decide +kernel
theorem d_Ref_allowed_22 : decode M_Ref_allowed.2.1 22 = .ok (.ifCond .ne 9, 3) := by decide +kernel
theorem d_Ref_allowed_25 : decode M_Ref_allowed.2.1 25 = .ok (.iload_n 1, 1) := by decide +kernel
theorem d_Ref_allowed_26 : decode M_Ref_allowed.2.1 26 = .ok (.iconst 1, 1) := by decide +kernel
theorem d_Ref_allowed_27 : decode M_Ref_allowed.2.1 27 = .ok (.iadd, 1) := by decide +kernel
theorem d_Ref_allowed_28 : decode M_Ref_allowed.2.1 28 = .ok (.goto 4, 3) := by decide +kernel
theorem d_Ref_allowed_31 : decode M_Ref_allowed.2.1 31 = .ok (.iload_n 1, 1) := by decide +kernel
theorem d_Ref_allowed_32 : decode M_Ref_allowed.2.1 32 = .ok (.istore_n 1, 1) := by decide +kernel
theorem d_Ref_allowed_33 : decode M_Ref_allowed.2.1 33 = .ok (.iinc 2 1, 3) := by decide +kernel
theorem d_Ref_allowed_36 : decode M_Ref_allowed.2.1 36 = .ok (.goto (-27), 3) := by decide +kernel
theorem d_Ref_allowed_39 : decode M_Ref_allowed.2.1 39 = .ok (.iload_n 1, 1) := by decide +kernel
theorem d_Ref_allowed_40 : decode M_Ref_allowed.2.1 40 = .ok (.ireturn, 1) := by decide +kernel
theorem d_Ref_pass_0 : decode M_Ref_pass.2.1 0 = .ok (.aload_n 0, 1) := by decide +kernel
theorem d_Ref_pass_1 : decode M_Ref_pass.2.1 1 = .ok (.aload_n 0, 1) := by decide +kernel
theorem d_Ref_pass_2 : decode M_Ref_pass.2.1 2 = .ok (.invokevirtual 103, 3) := by decide +kernel
theorem d_Ref_pass_5 : decode M_Ref_pass.2.1 5 = .ok (.ifCond .ne 13, 3) := by decide +kernel
theorem d_Ref_pass_8 : decode M_Ref_pass.2.1 8 = .ok (.aload_n 0, 1) := by decide +kernel
theorem d_Ref_pass_9 : decode M_Ref_pass.2.1 9 = .ok (.getfield 96, 3) := by decide +kernel
theorem d_Ref_pass_12 : decode M_Ref_pass.2.1 12 = .ok (.sipush 1000, 3) := by decide +kernel
theorem d_Ref_pass_15 : decode M_Ref_pass.2.1 15 = .ok (.if_icmp .ne 7, 3) := by decide +kernel
theorem d_Ref_pass_18 : decode M_Ref_pass.2.1 18 = .ok (.iconst 1, 1) := by decide +kernel
theorem d_Ref_pass_19 : decode M_Ref_pass.2.1 19 = .ok (.goto 4, 3) := by decide +kernel
theorem d_Ref_pass_22 : decode M_Ref_pass.2.1 22 = .ok (.iconst 0, 1) := by decide +kernel
theorem d_Ref_pass_23 : decode M_Ref_pass.2.1 23 = .ok (.putfield 65, 3) := by decide +kernel
theorem d_Ref_pass_26 : decode M_Ref_pass.2.1 26 = .ok (.aload_n 0, 1) := by decide +kernel
theorem d_Ref_pass_27 : decode M_Ref_pass.2.1 27 = .ok (.getfield 65, 3) := by decide +kernel
theorem d_Ref_pass_30 : decode M_Ref_pass.2.1 30 = .ok (.ifCond .le 5, 3) := by decide +kernel
theorem d_Ref_pass_33 : decode M_Ref_pass.2.1 33 = .ok (.iconst 0, 1) := by decide +kernel
theorem d_Ref_pass_34 : decode M_Ref_pass.2.1 34 = .ok (.ireturn, 1) := by decide +kernel
theorem d_Ref_pass_35 : decode M_Ref_pass.2.1 35 = .ok (.aload_n 0, 1) := by decide +kernel
theorem d_Ref_pass_36 : decode M_Ref_pass.2.1 36 = .ok (.getfield 21, 3) := by decide +kernel
theorem d_Ref_pass_39 : decode M_Ref_pass.2.1 39 = .ok (.aload_n 0, 1) := by decide +kernel
theorem d_Ref_pass_40 : decode M_Ref_pass.2.1 40 = .ok (.getfield 96, 3) := by decide +kernel
theorem d_Ref_pass_43 : decode M_Ref_pass.2.1 43 = .ok (.iconst (-1), 1) := by decide +kernel
theorem d_Ref_pass_44 : decode M_Ref_pass.2.1 44 = .ok (.iastore, 1) := by decide +kernel
theorem d_Ref_pass_45 : decode M_Ref_pass.2.1 45 = .ok (.aload_n 0, 1) := by decide +kernel
theorem d_Ref_pass_46 : decode M_Ref_pass.2.1 46 = .ok (.getfield 24, 3) := by decide +kernel
theorem d_Ref_pass_49 : decode M_Ref_pass.2.1 49 = .ok (.aload_n 0, 1) := by decide +kernel
theorem d_Ref_pass_50 : decode M_Ref_pass.2.1 50 = .ok (.getfield 96, 3) := by decide +kernel
theorem d_Ref_pass_53 : decode M_Ref_pass.2.1 53 = .ok (.iconst 0, 1) := by decide +kernel
theorem d_Ref_pass_54 : decode M_Ref_pass.2.1 54 = .ok (.iastore, 1) := by decide +kernel
theorem d_Ref_pass_55 : decode M_Ref_pass.2.1 55 = .ok (.aload_n 0, 1) := by decide +kernel
theorem d_Ref_pass_56 : decode M_Ref_pass.2.1 56 = .ok (.getfield 27, 3) := by decide +kernel
theorem d_Ref_pass_59 : decode M_Ref_pass.2.1 59 = .ok (.aload_n 0, 1) := by decide +kernel
theorem d_Ref_pass_60 : decode M_Ref_pass.2.1 60 = .ok (.getfield 96, 3) := by decide +kernel
theorem d_Ref_pass_63 : decode M_Ref_pass.2.1 63 = .ok (.iconst 0, 1) := by decide +kernel
theorem d_Ref_pass_64 : decode M_Ref_pass.2.1 64 = .ok (.iastore, 1) := by decide +kernel
theorem d_Ref_pass_65 : decode M_Ref_pass.2.1 65 = .ok (.aload_n 0, 1) := by decide +kernel
theorem d_Ref_pass_66 : decode M_Ref_pass.2.1 66 = .ok (.dup, 1) := by decide +kernel
theorem d_Ref_pass_67 : decode M_Ref_pass.2.1 67 = .ok (.getfield 96, 3) := by decide +kernel
theorem d_Ref_pass_70 : decode M_Ref_pass.2.1 70 = .ok (.iconst 1, 1) := by decide +kernel
theorem d_Ref_pass_71 : decode M_Ref_pass.2.1 71 = .ok (.iadd, 1) := by decide +kernel
theorem d_Ref_pass_72 : decode M_Ref_pass.2.1 72 = .ok (.putfield 96, 3) := by decide +kernel
theorem d_Ref_pass_75 : decode M_Ref_pass.2.1 75 = .ok (.aload_n 0, 1) := by decide +kernel
theorem d_Ref_pass_76 : decode M_Ref_pass.2.1 76 = .ok (.aload_n 0, 1) := by decide +kernel
theorem d_Ref_pass_77 : decode M_Ref_pass.2.1 77 = .ok (.getfield 96, 3) := by decide +kernel
theorem d_Ref_pass_80 : decode M_Ref_pass.2.1 80 = .ok (.invokevirtual 125, 3) := by decide +kernel
theorem d_Ref_pass_83 : decode M_Ref_pass.2.1 83 = .ok (.aload_n 0, 1) := by decide +kernel
theorem d_Ref_pass_84 : decode M_Ref_pass.2.1 84 = .ok (.invokevirtual 103, 3) := by decide +kernel
theorem d_Ref_pass_87 : decode M_Ref_pass.2.1 87 = .ok (.ireturn, 1) := by decide +kernel
theorem d_Ref_back_0 : decode M_Ref_back.2.1 0 = .ok (.aload_n 0, 1) := by decide +kernel
theorem d_Ref_back_1 : decode M_Ref_back.2.1 1 = .ok (.aload_n 0, 1) := by decide +kernel
theorem d_Ref_back_2 : decode M_Ref_back.2.1 2 = .ok (.getfield 96, 3) := by decide +kernel
theorem d_Ref_back_5 : decode M_Ref_back.2.1 5 = .ok (.ifCond .ne 7, 3) := by decide +kernel
theorem d_Ref_back_8 : decode M_Ref_back.2.1 8 = .ok (.iconst 1, 1) := by decide +kernel
theorem d_Ref_back_9 : decode M_Ref_back.2.1 9 = .ok (.goto 4, 3) := by decide +kernel
theorem d_Ref_back_12 : decode M_Ref_back.2.1 12 = .ok (.iconst 0, 1) := by decide +kernel
theorem d_Ref_back_13 : decode M_Ref_back.2.1 13 = .ok (.putfield 65, 3) := by decide +kernel
theorem d_Ref_back_16 : decode M_Ref_back.2.1 16 = .ok (.aload_n 0, 1) := by decide +kernel
theorem d_Ref_back_17 : decode M_Ref_back.2.1 17 = .ok (.getfield 65, 3) := by decide +kernel
theorem d_Ref_back_20 : decode M_Ref_back.2.1 20 = .ok (.ifCond .le 5, 3) := by decide +kernel
theorem d_Ref_back_23 : decode M_Ref_back.2.1 23 = .ok (.iconst 0, 1) := by decide +kernel
theorem d_Ref_back_24 : decode M_Ref_back.2.1 24 = .ok (.ireturn, 1) := by decide +kernel
theorem d_Ref_back_25 : decode M_Ref_back.2.1 25 = .ok (.aload_n 0, 1) := by decide +kernel
theorem d_Ref_back_26 : decode M_Ref_back.2.1 26 = .ok (.dup, 1) := by decide +kernel
theorem d_Ref_back_27 : decode M_Ref_back.2.1 27 = .ok (.getfield 96, 3) := by decide +kernel
theorem d_Ref_back_30 : decode M_Ref_back.2.1 30 = .ok (.iconst 1, 1) := by decide +kernel
theorem d_Ref_back_31 : decode M_Ref_back.2.1 31 = .ok (.isub, 1) := by decide +kernel
theorem d_Ref_back_32 : decode M_Ref_back.2.1 32 = .ok (.putfield 96, 3) := by decide +kernel
theorem d_Ref_back_35 : decode M_Ref_back.2.1 35 = .ok (.iconst 0, 1) := by decide +kernel
theorem d_Ref_back_36 : decode M_Ref_back.2.1 36 = .ok (.istore_n 1, 1) := by decide +kernel
theorem d_Ref_back_37 : decode M_Ref_back.2.1 37 = .ok (.iload_n 1, 1) := by decide +kernel
theorem d_Ref_back_38 : decode M_Ref_back.2.1 38 = .ok (.aload_n 0, 1) := by decide +kernel
theorem d_Ref_back_39 : decode M_Ref_back.2.1 39 = .ok (.getfield 62, 3) := by decide +kernel
theorem d_Ref_back_42 : decode M_Ref_back.2.1 42 = .ok (.if_icmp .ge 30, 3) := by decide +kernel
theorem d_Ref_back_45 : decode M_Ref_back.2.1 45 = .ok (.aload_n 0, 1) := by decide +kernel
theorem d_Ref_back_46 : decode M_Ref_back.2.1 46 = .ok (.getfield 7, 3) := by decide +kernel
theorem d_Ref_back_49 : decode M_Ref_back.2.1 49 = .ok (.iload_n 1, 1) := by decide +kernel
theorem d_Ref_back_50 : decode M_Ref_back.2.1 50 = .ok (.aload_n 0, 1) := by decide +kernel
theorem d_Ref_back_51 : decode M_Ref_back.2.1 51 = .ok (.getfield 17, 3) := by decide +kernel
theorem d_Ref_back_54 : decode M_Ref_back.2.1 54 = .ok (.sipush 169, 3) := by decide +kernel
theorem d_Ref_back_57 : decode M_Ref_back.2.1 57 = .ok (.aload_n 0, 1) := by decide +kernel
theorem d_Ref_back_58 : decode M_Ref_back.2.1 58 = .ok (.getfield 96, 3) := by decide +kernel
theorem d_Ref_back_61 : decode M_Ref_back.2.1 61 = .ok (.imul, 1) := by decide +kernel
theorem d_Ref_back_62 : decode M_Ref_back.2.1 62 = .ok (.iload_n 1, 1) := by decide +kernel
theorem d_Ref_back_63 : decode M_Ref_back.2.1 63 = .ok (.iadd, 1) := by decide +kernel
theorem d_Ref_back_64 : decode M_Ref_back.2.1 64 = .ok (.baload, 1) := by decide +kernel
theorem d_Ref_back_65 : decode M_Ref_back.2.1 65 = .ok (.iastore, 1) := by decide +kernel
theorem d_Ref_back_66 : decode M_Ref_back.2.1 66 = .ok (.iinc 1 1, 3) := by decide +kernel
theorem d_Ref_back_69 : decode M_Ref_back.2.1 69 = .ok (.goto (-32), 3) := by decide +kernel
theorem d_Ref_back_72 : decode M_Ref_back.2.1 72 = .ok (.aload_n 0, 1) := by decide +kernel
theorem d_Ref_back_73 : decode M_Ref_back.2.1 73 = .ok (.getfield 96, 3) := by decide +kernel
theorem d_Ref_back_76 : decode M_Ref_back.2.1 76 = .ok (.ireturn, 1) := by decide +kernel
theorem d_Ref_moves_0 : decode M_Ref_moves.2.1 0 = .ok (.aload_n 0, 1) := by decide +kernel
theorem d_Ref_moves_1 : decode M_Ref_moves.2.1 1 = .ok (.iconst 0, 1) := by decide +kernel
theorem d_Ref_moves_2 : decode M_Ref_moves.2.1 2 = .ok (.putfield 65, 3) := by decide +kernel
theorem d_Ref_moves_5 : decode M_Ref_moves.2.1 5 = .ok (.aload_n 0, 1) := by decide +kernel
theorem d_Ref_moves_6 : decode M_Ref_moves.2.1 6 = .ok (.getfield 96, 3) := by decide +kernel
theorem d_Ref_moves_9 : decode M_Ref_moves.2.1 9 = .ok (.ireturn, 1) := by decide +kernel
theorem d_Ref_move_0 : decode M_Ref_move.2.1 0 = .ok (.aload_n 0, 1) := by decide +kernel
theorem d_Ref_move_1 : decode M_Ref_move.2.1 1 = .ok (.iload_n 1, 1) := by decide +kernel
theorem d_Ref_move_2 : decode M_Ref_move.2.1 2 = .ok (.ifCond .lt 11, 3) := by decide +kernel
theorem d_Ref_move_5 : decode M_Ref_move.2.1 5 = .ok (.iload_n 1, 1) := by decide +kernel
theorem d_Ref_move_6 : decode M_Ref_move.2.1 6 = .ok (.aload_n 0, 1) := by decide +kernel
theorem d_Ref_move_7 : decode M_Ref_move.2.1 7 = .ok (.getfield 96, 3) := by decide +kernel
theorem d_Ref_move_10 : decode M_Ref_move.2.1 10 = .ok (.if_icmp .lt 7, 3) := by decide +kernel
theorem d_Ref_move_13 : decode M_Ref_move.2.1 13 = .ok (.iconst 1, 1) := by decide +kernel
theorem d_Ref_move_14 : decode M_Ref_move.2.1 14 = .ok (.goto 4, 3) := by decide +kernel
theorem d_Ref_move_17 : decode M_Ref_move.2.1 17 = .ok (.iconst 0, 1) := by decide +kernel
theorem d_Ref_move_18 : decode M_Ref_move.2.1 18 = .ok (.putfield 65, 3) := by decide +kernel
theorem d_Ref_move_21 : decode M_Ref_move.2.1 21 = .ok (.aload_n 0, 1) := by decide +kernel
theorem d_Ref_move_22 : decode M_Ref_move.2.1 22 = .ok (.getfield 65, 3) := by decide +kernel
theorem d_Ref_move_25 : decode M_Ref_move.2.1 25 = .ok (.ifCond .le 7, 3) := by decide +kernel
theorem d_Ref_move_28 : decode M_Ref_move.2.1 28 = .ok (.iconst 0, 1) := by decide +kernel
theorem d_Ref_move_29 : decode M_Ref_move.2.1 29 = .ok (.goto 9, 3) := by decide +kernel
theorem d_Ref_move_32 : decode M_Ref_move.2.1 32 = .ok (.aload_n 0, 1) := by decide +kernel
theorem d_Ref_move_33 : decode M_Ref_move.2.1 33 = .ok (.getfield 21, 3) := by decide +kernel
theorem d_Ref_move_36 : decode M_Ref_move.2.1 36 = .ok (.iload_n 1, 1) := by decide +kernel
theorem d_Ref_move_37 : decode M_Ref_move.2.1 37 = .ok (.iaload, 1) := by decide +kernel
theorem d_Ref_move_38 : decode M_Ref_move.2.1 38 = .ok (.ireturn, 1) := by decide +kernel
theorem d_Ref_taken_0 : decode M_Ref_taken.2.1 0 = .ok (.aload_n 0, 1) := by decide +kernel
theorem d_Ref_taken_1 : decode M_Ref_taken.2.1 1 = .ok (.iload_n 1, 1) := by decide +kernel
theorem d_Ref_taken_2 : decode M_Ref_taken.2.1 2 = .ok (.iconst 1, 1) := by decide +kernel
theorem d_Ref_taken_3 : decode M_Ref_taken.2.1 3 = .ok (.invokevirtual 133, 3) := by decide +kernel
theorem d_Ref_taken_6 : decode M_Ref_taken.2.1 6 = .ok (.ifCond .eq 5, 3) := by decide +kernel
theorem d_Ref_taken_9 : decode M_Ref_taken.2.1 9 = .ok (.iconst 0, 1) := by decide +kernel
theorem d_Ref_taken_10 : decode M_Ref_taken.2.1 10 = .ok (.ireturn, 1) := by decide +kernel
theorem d_Ref_taken_11 : decode M_Ref_taken.2.1 11 = .ok (.iconst 0, 1) := by decide +kernel
theorem d_Ref_taken_12 : decode M_Ref_taken.2.1 12 = .ok (.istore_n 2, 1) := by decide +kernel
theorem d_Ref_taken_13 : decode M_Ref_taken.2.1 13 = .ok (.iconst 0, 1) := by decide +kernel
theorem d_Ref_taken_14 : decode M_Ref_taken.2.1 14 = .ok (.istore_n 3, 1) := by decide +kernel
theorem d_Ref_taken_15 : decode M_Ref_taken.2.1 15 = .ok (.iload_n 3, 1) := by decide +kernel
theorem d_Ref_taken_16 : decode M_Ref_taken.2.1 16 = .ok (.aload_n 0, 1) := by decide +kernel
theorem d_Ref_taken_17 : decode M_Ref_taken.2.1 17 = .ok (.getfield 96, 3) := by decide +kernel
theorem d_Ref_taken_20 : decode M_Ref_taken.2.1 20 = .ok (.if_icmp .ge 32, 3) := by decide +kernel
theorem d_Ref_taken_23 : decode M_Ref_taken.2.1 23 = .ok (.iload_n 2, 1) := by decide +kernel
theorem d_Ref_taken_24 : decode M_Ref_taken.2.1 24 = .ok (.iload_n 1, 1) := by decide +kernel
theorem d_Ref_taken_25 : decode M_Ref_taken.2.1 25 = .ok (.iconst 1, 1) := by decide +kernel
theorem d_Ref_taken_26 : decode M_Ref_taken.2.1 26 = .ok (.if_icmp .ne 12, 3) := by decide +kernel
theorem d_Ref_taken_29 : decode M_Ref_taken.2.1 29 = .ok (.aload_n 0, 1) := by decide +kernel
theorem d_Ref_taken_30 : decode M_Ref_taken.2.1 30 = .ok (.getfield 24, 3) := by decide +kernel
theorem d_Ref_taken_33 : decode M_Ref_taken.2.1 33 = .ok (.iload_n 3, 1) := by decide +kernel
theorem d_Ref_taken_34 : decode M_Ref_taken.2.1 34 = .ok (.iaload, 1) := by decide +kernel
theorem d_Ref_taken_35 : decode M_Ref_taken.2.1 35 = .ok (.goto 9, 3) := by decide +kernel
theorem d_Ref_taken_38 : decode M_Ref_taken.2.1 38 = .ok (.aload_n 0, 1) := by decide +kernel
theorem d_Ref_taken_39 : decode M_Ref_taken.2.1 39 = .ok (.getfield 27, 3) := by decide +kernel
theorem d_Ref_taken_42 : decode M_Ref_taken.2.1 42 = .ok (.iload_n 3, 1) := by decide +kernel
theorem d_Ref_taken_43 : decode M_Ref_taken.2.1 43 = .ok (.iaload, 1) := by decide +kernel
theorem d_Ref_taken_44 : decode M_Ref_taken.2.1 44 = .ok (.iadd, 1) := by decide +kernel
theorem d_Ref_taken_45 : decode M_Ref_taken.2.1 45 = .ok (.istore_n 2, 1) := by decide +kernel
theorem d_Ref_taken_46 : decode M_Ref_taken.2.1 46 = .ok (.iinc 3 1, 3) := by decide +kernel
theorem d_Ref_taken_49 : decode M_Ref_taken.2.1 49 = .ok (.goto (-34), 3) := by decide +kernel
theorem d_Ref_taken_52 : decode M_Ref_taken.2.1 52 = .ok (.iload_n 2, 1) := by decide +kernel
theorem d_Ref_taken_53 : decode M_Ref_taken.2.1 53 = .ok (.ireturn, 1) := by decide +kernel
theorem d_Ref_noSide_0 : decode M_Ref_noSide.2.1 0 = .ok (.aload_n 0, 1) := by decide +kernel
theorem d_Ref_noSide_1 : decode M_Ref_noSide.2.1 1 = .ok (.iload_n 1, 1) := by decide +kernel
theorem d_Ref_noSide_2 : decode M_Ref_noSide.2.1 2 = .ok (.iload_n 2, 1) := by decide +kernel
theorem d_Ref_noSide_3 : decode M_Ref_noSide.2.1 3 = .ok (.if_icmp .lt 8, 3) := by decide +kernel
theorem d_Ref_noSide_6 : decode M_Ref_noSide.2.1 6 = .ok (.iload_n 1, 1) := by decide +kernel
theorem d_Ref_noSide_7 : decode M_Ref_noSide.2.1 7 = .ok (.iconst 2, 1) := by decide +kernel
theorem d_Ref_noSide_8 : decode M_Ref_noSide.2.1 8 = .ok (.if_icmp .le 7, 3) := by decide +kernel
theorem d_Ref_noSide_11 : decode M_Ref_noSide.2.1 11 = .ok (.iconst 1, 1) := by decide +kernel
theorem d_Ref_noSide_12 : decode M_Ref_noSide.2.1 12 = .ok (.goto 4, 3) := by decide +kernel
theorem d_Ref_noSide_15 : decode M_Ref_noSide.2.1 15 = .ok (.iconst 0, 1) := by decide +kernel
theorem d_Ref_noSide_16 : decode M_Ref_noSide.2.1 16 = .ok (.putfield 65, 3) := by decide +kernel
theorem d_Ref_noSide_19 : decode M_Ref_noSide.2.1 19 = .ok (.aload_n 0, 1) := by decide +kernel
theorem d_Ref_noSide_20 : decode M_Ref_noSide.2.1 20 = .ok (.getfield 65, 3) := by decide +kernel
theorem d_Ref_noSide_23 : decode M_Ref_noSide.2.1 23 = .ok (.ifCond .le 7, 3) := by decide +kernel
theorem d_Ref_noSide_26 : decode M_Ref_noSide.2.1 26 = .ok (.iconst 1, 1) := by decide +kernel
theorem d_Ref_noSide_27 : decode M_Ref_noSide.2.1 27 = .ok (.goto 4, 3) := by decide +kernel
theorem d_Ref_noSide_30 : decode M_Ref_noSide.2.1 30 = .ok (.iconst 0, 1) := by decide +kernel
theorem d_Ref_noSide_31 : decode M_Ref_noSide.2.1 31 = .ok (.ireturn, 1) := by decide +kernel
theorem d_Ref_string_0 : decode M_Ref_string.2.1 0 = .ok (.aload_n 0, 1) := by decide +kernel
theorem d_Ref_string_1 : decode M_Ref_string.2.1 1 = .ok (.iload_n 1, 1) := by decide +kernel
theorem d_Ref_string_2 : decode M_Ref_string.2.1 2 = .ok (.invokevirtual 118, 3) := by decide +kernel
theorem d_Ref_string_5 : decode M_Ref_string.2.1 5 = .ok (.ifCond .eq 5, 3) := by decide +kernel
theorem d_Ref_string_8 : decode M_Ref_string.2.1 8 = .ok (.iconst 0, 1) := by decide +kernel
theorem d_Ref_string_9 : decode M_Ref_string.2.1 9 = .ok (.ireturn, 1) := by decide +kernel
theorem d_Ref_string_10 : decode M_Ref_string.2.1 10 = .ok (.aload_n 0, 1) := by decide +kernel
theorem d_Ref_string_11 : decode M_Ref_string.2.1 11 = .ok (.iload_n 2, 1) := by decide +kernel
theorem d_Ref_string_12 : decode M_Ref_string.2.1 12 = .ok (.ifCond .lt 8, 3) := by decide +kernel
theorem d_Ref_string_15 : decode M_Ref_string.2.1 15 = .ok (.iload_n 2, 1) := by decide +kernel
theorem d_Ref_string_16 : decode M_Ref_string.2.1 16 = .ok (.iconst 3, 1) := by decide +kernel
theorem d_Ref_string_17 : decode M_Ref_string.2.1 17 = .ok (.if_icmp .le 7, 3) := by decide +kernel
theorem d_Ref_string_20 : decode M_Ref_string.2.1 20 = .ok (.iconst 2, 1) := by decide +kernel
theorem d_Ref_string_21 : decode M_Ref_string.2.1 21 = .ok (.goto 4, 3) := by decide +kernel
theorem d_Ref_string_24 : decode M_Ref_string.2.1 24 = .ok (.iconst 0, 1) := by decide +kernel
theorem d_Ref_string_25 : decode M_Ref_string.2.1 25 = .ok (.putfield 65, 3) := by decide +kernel
theorem d_Ref_string_28 : decode M_Ref_string.2.1 28 = .ok (.aload_n 0, 1) := by decide +kernel
theorem d_Ref_string_29 : decode M_Ref_string.2.1 29 = .ok (.getfield 65, 3) := by decide +kernel
theorem d_Ref_string_32 : decode M_Ref_string.2.1 32 = .ok (.ifCond .le 5, 3) := by decide +kernel
theorem d_Ref_string_35 : decode M_Ref_string.2.1 35 = .ok (.iconst 0, 1) := by decide +kernel
theorem d_Ref_string_36 : decode M_Ref_string.2.1 36 = .ok (.ireturn, 1) := by decide +kernel
theorem d_Ref_string_37 : decode M_Ref_string.2.1 37 = .ok (.aload_n 0, 1) := by decide +kernel
theorem d_Ref_string_38 : decode M_Ref_string.2.1 38 = .ok (.getfield 7, 3) := by decide +kernel
theorem d_Ref_string_41 : decode M_Ref_string.2.1 41 = .ok (.iload_n 1, 1) := by decide +kernel
theorem d_Ref_string_42 : decode M_Ref_string.2.1 42 = .ok (.iaload, 1) := by decide +kernel
theorem d_Ref_string_43 : decode M_Ref_string.2.1 43 = .ok (.ifCond .ne 5, 3) := by decide +kernel
theorem d_Ref_string_46 : decode M_Ref_string.2.1 46 = .ok (.iconst (-1), 1) := by decide +kernel
theorem d_Ref_string_47 : decode M_Ref_string.2.1 47 = .ok (.ireturn, 1) := by decide +kernel
theorem d_Ref_string_48 : decode M_Ref_string.2.1 48 = .ok (.aload_n 0, 1) := by decide +kernel
theorem d_Ref_string_49 : decode M_Ref_string.2.1 49 = .ok (.aload_n 0, 1) := by decide +kernel
theorem d_Ref_string_50 : decode M_Ref_string.2.1 50 = .ok (.getfield 7, 3) := by decide +kernel
theorem d_Ref_string_53 : decode M_Ref_string.2.1 53 = .ok (.iload_n 1, 1) := by decide +kernel
theorem d_Ref_string_54 : decode M_Ref_string.2.1 54 = .ok (.invokevirtual 82, 3) := by decide +kernel
theorem d_Ref_string_57 : decode M_Ref_string.2.1 57 = .ok (.iload_n 2, 1) := by decide +kernel
theorem d_Ref_string_58 : decode M_Ref_string.2.1 58 = .ok (.ifCond .ne 8, 3) := by decide +kernel
theorem d_Ref_string_61 : decode M_Ref_string.2.1 61 = .ok (.aload_n 0, 1) := by decide +kernel
theorem d_Ref_string_62 : decode M_Ref_string.2.1 62 = .ok (.getfield 68, 3) := by decide +kernel
theorem d_Ref_string_65 : decode M_Ref_string.2.1 65 = .ok (.ireturn, 1) := by decide +kernel
theorem d_Ref_string_66 : decode M_Ref_string.2.1 66 = .ok (.iload_n 2, 1) := by decide +kernel
theorem d_Ref_string_67 : decode M_Ref_string.2.1 67 = .ok (.iconst 1, 1) := by decide +kernel
theorem d_Ref_string_68 : decode M_Ref_string.2.1 68 = .ok (.if_icmp .ne 12, 3) := by decide +kernel
theorem d_Ref_string_71 : decode M_Ref_string.2.1 71 = .ok (.aload_n 0, 1) := by decide +kernel
theorem d_Ref_string_72 : decode M_Ref_string.2.1 72 = .ok (.aload_n 0, 1) := by decide +kernel
theorem d_Ref_string_73 : decode M_Ref_string.2.1 73 = .ok (.getfield 7, 3) := by decide +kernel
theorem d_Ref_string_76 : decode M_Ref_string.2.1 76 = .ok (.invokevirtual 86, 3) := by decide +kernel
theorem d_Ref_string_79 : decode M_Ref_string.2.1 79 = .ok (.ireturn, 1) := by decide +kernel
theorem d_Ref_string_80 : decode M_Ref_string.2.1 80 = .ok (.iconst 0, 1) := by decide +kernel
theorem d_Ref_string_81 : decode M_Ref_string.2.1 81 = .ok (.istore_n 3, 1) := by decide +kernel
theorem d_Ref_string_82 : decode M_Ref_string.2.1 82 = .ok (.iload_n 2, 1) := by decide +kernel
theorem d_Ref_string_83 : decode M_Ref_string.2.1 83 = .ok (.iconst 2, 1) := by decide +kernel
theorem d_Ref_string_84 : decode M_Ref_string.2.1 84 = .ok (.if_icmp .ne 15, 3) := by decide +kernel
theorem d_Ref_string_87 : decode M_Ref_string.2.1 87 = .ok (.aload_n 0, 1) := by decide +kernel
theorem d_Ref_string_88 : decode M_Ref_string.2.1 88 = .ok (.getfield 34, 3) := by decide +kernel
theorem d_Ref_string_91 : decode M_Ref_string.2.1 91 = .ok (.iload_n 3, 1) := by decide +kernel
theorem d_Ref_string_92 : decode M_Ref_string.2.1 92 = .ok (.baload, 1) := by decide +kernel
theorem d_Ref_string_93 : decode M_Ref_string.2.1 93 = .ok (.ifCond .ne 24, 3) := by decide +kernel
theorem d_Ref_string_96 : decode M_Ref_string.2.1 96 = .ok (.goto 15, 3) := by decide +kernel
theorem d_Ref_string_99 : decode M_Ref_string.2.1 99 = .ok (.aload_n 0, 1) := by decide +kernel
theorem d_Ref_string_100 : decode M_Ref_string.2.1 100 = .ok (.aload_n 0, 1) := by decide +kernel
theorem d_Ref_string_101 : decode M_Ref_string.2.1 101 = .ok (.getfield 7, 3) := by decide +kernel
theorem d_Ref_string_104 : decode M_Ref_string.2.1 104 = .ok (.iload_n 3, 1) := by decide +kernel
theorem d_Ref_string_105 : decode M_Ref_string.2.1 105 = .ok (.invokevirtual 75, 3) := by decide +kernel
theorem d_Ref_string_108 : decode M_Ref_string.2.1 108 = .ok (.ifCond .ne 9, 3) := by decide +kernel
theorem d_Ref_string_111 : decode M_Ref_string.2.1 111 = .ok (.iinc 3 1, 3) := by decide +kernel
theorem d_Ref_string_114 : decode M_Ref_string.2.1 114 = .ok (.goto (-32), 3) := by decide +kernel
theorem d_Ref_string_117 : decode M_Ref_string.2.1 117 = .ok (.iload_n 3, 1) := by decide +kernel
theorem d_Ref_string_118 : decode M_Ref_string.2.1 118 = .ok (.ireturn, 1) := by decide +kernel
theorem d_Ref_strings_0 : decode M_Ref_strings.2.1 0 = .ok (.aload_n 0, 1) := by decide +kernel
theorem d_Ref_strings_1 : decode M_Ref_strings.2.1 1 = .ok (.iload_n 1, 1) := by decide +kernel
theorem d_Ref_strings_2 : decode M_Ref_strings.2.1 2 = .ok (.iconst 1, 1) := by decide +kernel
theorem d_Ref_strings_3 : decode M_Ref_strings.2.1 3 = .ok (.invokevirtual 133, 3) := by decide +kernel
theorem d_Ref_strings_6 : decode M_Ref_strings.2.1 6 = .ok (.ifCond .eq 5, 3) := by decide +kernel
theorem d_Ref_strings_9 : decode M_Ref_strings.2.1 9 = .ok (.iconst 0, 1) := by decide +kernel
theorem d_Ref_strings_10 : decode M_Ref_strings.2.1 10 = .ok (.ireturn, 1) := by decide +kernel
theorem d_Ref_strings_11 : decode M_Ref_strings.2.1 11 = .ok (.aload_n 0, 1) := by decide +kernel
theorem d_Ref_strings_12 : decode M_Ref_strings.2.1 12 = .ok (.iload_n 1, 1) := by decide +kernel
theorem d_Ref_strings_13 : decode M_Ref_strings.2.1 13 = .ok (.invokevirtual 140, 3) := by decide +kernel
theorem d_Ref_strings_16 : decode M_Ref_strings.2.1 16 = .ok (.aload_n 0, 1) := by decide +kernel
theorem d_Ref_strings_17 : decode M_Ref_strings.2.1 17 = .ok (.getfield 137, 3) := by decide +kernel
theorem d_Ref_strings_20 : decode M_Ref_strings.2.1 20 = .ok (.ireturn, 1) := by decide +kernel
theorem d_Ref_number_0 : decode M_Ref_number.2.1 0 = .ok (.aload_n 0, 1) := by decide +kernel
theorem d_Ref_number_1 : decode M_Ref_number.2.1 1 = .ok (.iconst 0, 1) := by decide +kernel
theorem d_Ref_number_2 : decode M_Ref_number.2.1 2 = .ok (.putfield 137, 3) := by decide +kernel
theorem d_Ref_number_5 : decode M_Ref_number.2.1 5 = .ok (.iconst 0, 1) := by decide +kernel
theorem d_Ref_number_6 : decode M_Ref_number.2.1 6 = .ok (.istore_n 2, 1) := by decide +kernel
theorem d_Ref_number_7 : decode M_Ref_number.2.1 7 = .ok (.iload_n 2, 1) := by decide +kernel
theorem d_Ref_number_8 : decode M_Ref_number.2.1 8 = .ok (.aload_n 0, 1) := by decide +kernel
theorem d_Ref_number_9 : decode M_Ref_number.2.1 9 = .ok (.getfield 62, 3) := by decide +kernel
theorem d_Ref_number_12 : decode M_Ref_number.2.1 12 = .ok (.if_icmp .ge 16, 3) := by decide +kernel
theorem d_Ref_number_15 : decode M_Ref_number.2.1 15 = .ok (.aload_n 0, 1) := by decide +kernel
theorem d_Ref_number_16 : decode M_Ref_number.2.1 16 = .ok (.getfield 41, 3) := by decide +kernel
theorem d_Ref_number_19 : decode M_Ref_number.2.1 19 = .ok (.iload_n 2, 1) := by decide +kernel
theorem d_Ref_number_20 : decode M_Ref_number.2.1 20 = .ok (.iconst (-1), 1) := by decide +kernel
theorem d_Ref_number_21 : decode M_Ref_number.2.1 21 = .ok (.iastore, 1) := by decide +kernel
theorem d_Ref_number_22 : decode M_Ref_number.2.1 22 = .ok (.iinc 2 1, 3) := by decide +kernel
theorem d_Ref_number_25 : decode M_Ref_number.2.1 25 = .ok (.goto (-18), 3) := by decide +kernel
theorem d_Ref_number_28 : decode M_Ref_number.2.1 28 = .ok (.iconst 0, 1) := by decide +kernel
theorem d_Ref_number_29 : decode M_Ref_number.2.1 29 = .ok (.istore_n 2, 1) := by decide +kernel
theorem d_Ref_number_30 : decode M_Ref_number.2.1 30 = .ok (.iload_n 2, 1) := by decide +kernel
theorem d_Ref_number_31 : decode M_Ref_number.2.1 31 = .ok (.aload_n 0, 1) := by decide +kernel
theorem d_Ref_number_32 : decode M_Ref_number.2.1 32 = .ok (.getfield 62, 3) := by decide +kernel
theorem d_Ref_number_35 : decode M_Ref_number.2.1 35 = .ok (.if_icmp .ge 79, 3) := by decide +kernel
theorem d_Ref_number_38 : decode M_Ref_number.2.1 38 = .ok (.aload_n 0, 1) := by decide +kernel
theorem d_Ref_number_39 : decode M_Ref_number.2.1 39 = .ok (.getfield 7, 3) := by decide +kernel
theorem d_Ref_number_42 : decode M_Ref_number.2.1 42 = .ok (.iload_n 2, 1) := by decide +kernel
theorem d_Ref_number_43 : decode M_Ref_number.2.1 43 = .ok (.iaload, 1) := by decide +kernel
theorem d_Ref_number_44 : decode M_Ref_number.2.1 44 = .ok (.iload_n 1, 1) := by decide +kernel
theorem d_Ref_number_45 : decode M_Ref_number.2.1 45 = .ok (.if_icmp .ne 63, 3) := by decide +kernel
theorem d_Ref_number_48 : decode M_Ref_number.2.1 48 = .ok (.aload_n 0, 1) := by decide +kernel
theorem d_Ref_number_49 : decode M_Ref_number.2.1 49 = .ok (.getfield 41, 3) := by decide +kernel
theorem d_Ref_number_52 : decode M_Ref_number.2.1 52 = .ok (.iload_n 2, 1) := by decide +kernel
theorem d_Ref_number_53 : decode M_Ref_number.2.1 53 = .ok (.iaload, 1) := by decide +kernel
theorem d_Ref_number_54 : decode M_Ref_number.2.1 54 = .ok (.iconst (-1), 1) := by decide +kernel
theorem d_Ref_number_55 : decode M_Ref_number.2.1 55 = .ok (.if_icmp .ne 53, 3) := by decide +kernel
theorem d_Ref_number_58 : decode M_Ref_number.2.1 58 = .ok (.aload_n 0, 1) := by decide +kernel
theorem d_Ref_number_59 : decode M_Ref_number.2.1 59 = .ok (.aload_n 0, 1) := by decide +kernel
theorem d_Ref_number_60 : decode M_Ref_number.2.1 60 = .ok (.getfield 7, 3) := by decide +kernel
theorem d_Ref_number_63 : decode M_Ref_number.2.1 63 = .ok (.iload_n 2, 1) := by decide +kernel
theorem d_Ref_number_64 : decode M_Ref_number.2.1 64 = .ok (.invokevirtual 82, 3) := by decide +kernel
theorem d_Ref_number_67 : decode M_Ref_number.2.1 67 = .ok (.iconst 0, 1) := by decide +kernel
theorem d_Ref_number_68 : decode M_Ref_number.2.1 68 = .ok (.istore_n 3, 1) := by decide +kernel
theorem d_Ref_number_69 : decode M_Ref_number.2.1 69 = .ok (.iload_n 3, 1) := by decide +kernel
theorem d_Ref_number_70 : decode M_Ref_number.2.1 70 = .ok (.aload_n 0, 1) := by decide +kernel
theorem d_Ref_number_71 : decode M_Ref_number.2.1 71 = .ok (.getfield 68, 3) := by decide +kernel
theorem d_Ref_number_74 : decode M_Ref_number.2.1 74 = .ok (.if_icmp .ge 24, 3) := by decide +kernel
theorem d_Ref_number_77 : decode M_Ref_number.2.1 77 = .ok (.aload_n 0, 1) := by decide +kernel
theorem d_Ref_number_78 : decode M_Ref_number.2.1 78 = .ok (.getfield 41, 3) := by decide +kernel
theorem d_Ref_number_81 : decode M_Ref_number.2.1 81 = .ok (.aload_n 0, 1) := by decide +kernel
theorem d_Ref_number_82 : decode M_Ref_number.2.1 82 = .ok (.getfield 38, 3) := by decide +kernel
theorem d_Ref_number_85 : decode M_Ref_number.2.1 85 = .ok (.iload_n 3, 1) := by decide +kernel
theorem d_Ref_number_86 : decode M_Ref_number.2.1 86 = .ok (.iaload, 1) := by decide +kernel
theorem d_Ref_number_87 : decode M_Ref_number.2.1 87 = .ok (.aload_n 0, 1) := by decide +kernel
theorem d_Ref_number_88 : decode M_Ref_number.2.1 88 = .ok (.getfield 137, 3) := by decide +kernel
theorem d_Ref_number_91 : decode M_Ref_number.2.1 91 = .ok (.iastore, 1) := by decide +kernel
theorem d_Ref_number_92 : decode M_Ref_number.2.1 92 = .ok (.iinc 3 1, 3) := by decide +kernel
theorem d_Ref_number_95 : decode M_Ref_number.2.1 95 = .ok (.goto (-26), 3) := by decide +kernel
theorem d_Ref_number_98 : decode M_Ref_number.2.1 98 = .ok (.aload_n 0, 1) := by decide +kernel
theorem d_Ref_number_99 : decode M_Ref_number.2.1 99 = .ok (.dup, 1) := by decide +kernel
theorem d_Ref_number_100 : decode M_Ref_number.2.1 100 = .ok (.getfield 137, 3) := by decide +kernel
theorem d_Ref_number_103 : decode M_Ref_number.2.1 103 = .ok (.iconst 1, 1) := by decide +kernel
theorem d_Ref_number_104 : decode M_Ref_number.2.1 104 = .ok (.iadd, 1) := by decide +kernel
theorem d_Ref_number_105 : decode M_Ref_number.2.1 105 = .ok (.putfield 137, 3) := by decide +kernel
theorem d_Ref_number_108 : decode M_Ref_number.2.1 108 = .ok (.iinc 2 1, 3) := by decide +kernel
theorem d_Ref_number_111 : decode M_Ref_number.2.1 111 = .ok (.goto (-81), 3) := by decide +kernel
theorem d_Ref_number_114 : decode M_Ref_number.2.1 114 = .ok (.return_, 1) := by decide +kernel
theorem d_Ref_ground_0 : decode M_Ref_ground.2.1 0 = .ok (.aload_n 0, 1) := by decide +kernel
theorem d_Ref_ground_1 : decode M_Ref_ground.2.1 1 = .ok (.iload_n 1, 1) := by decide +kernel
theorem d_Ref_ground_2 : decode M_Ref_ground.2.1 2 = .ok (.iconst 0, 1) := by decide +kernel
theorem d_Ref_ground_3 : decode M_Ref_ground.2.1 3 = .ok (.invokevirtual 133, 3) := by decide +kernel
theorem d_Ref_ground_6 : decode M_Ref_ground.2.1 6 = .ok (.ifCond .eq 5, 3) := by decide +kernel
theorem d_Ref_ground_9 : decode M_Ref_ground.2.1 9 = .ok (.iconst 0, 1) := by decide +kernel
theorem d_Ref_ground_10 : decode M_Ref_ground.2.1 10 = .ok (.ireturn, 1) := by decide +kernel
theorem d_Ref_ground_11 : decode M_Ref_ground.2.1 11 = .ok (.iconst 0, 1) := by decide +kernel
theorem d_Ref_ground_12 : decode M_Ref_ground.2.1 12 = .ok (.istore_n 2, 1) := by decide +kernel
theorem d_Ref_ground_13 : decode M_Ref_ground.2.1 13 = .ok (.iconst 0, 1) := by decide +kernel
theorem d_Ref_ground_14 : decode M_Ref_ground.2.1 14 = .ok (.istore_n 3, 1) := by decide +kernel
theorem d_Ref_ground_15 : decode M_Ref_ground.2.1 15 = .ok (.iload_n 3, 1) := by decide +kernel
theorem d_Ref_ground_16 : decode M_Ref_ground.2.1 16 = .ok (.aload_n 0, 1) := by decide +kernel
theorem d_Ref_ground_17 : decode M_Ref_ground.2.1 17 = .ok (.getfield 62, 3) := by decide +kernel
theorem d_Ref_ground_20 : decode M_Ref_ground.2.1 20 = .ok (.if_icmp .ge 26, 3) := by decide +kernel
theorem d_Ref_ground_23 : decode M_Ref_ground.2.1 23 = .ok (.aload_n 0, 1) := by decide +kernel
theorem d_Ref_ground_24 : decode M_Ref_ground.2.1 24 = .ok (.iload_n 3, 1) := by decide +kernel
theorem d_Ref_ground_25 : decode M_Ref_ground.2.1 25 = .ok (.invokevirtual 146, 3) := by decide +kernel
theorem d_Ref_ground_28 : decode M_Ref_ground.2.1 28 = .ok (.iload_n 1, 1) := by decide +kernel
theorem d_Ref_ground_29 : decode M_Ref_ground.2.1 29 = .ok (.if_icmp .ne 9, 3) := by decide +kernel
theorem d_Ref_ground_32 : decode M_Ref_ground.2.1 32 = .ok (.iload_n 2, 1) := by decide +kernel
theorem d_Ref_ground_33 : decode M_Ref_ground.2.1 33 = .ok (.iconst 1, 1) := by decide +kernel
theorem d_Ref_ground_34 : decode M_Ref_ground.2.1 34 = .ok (.iadd, 1) := by decide +kernel
theorem d_Ref_ground_35 : decode M_Ref_ground.2.1 35 = .ok (.goto 4, 3) := by decide +kernel
theorem d_Ref_ground_38 : decode M_Ref_ground.2.1 38 = .ok (.iload_n 2, 1) := by decide +kernel
theorem d_Ref_ground_39 : decode M_Ref_ground.2.1 39 = .ok (.istore_n 2, 1) := by decide +kernel
theorem d_Ref_ground_40 : decode M_Ref_ground.2.1 40 = .ok (.iinc 3 1, 3) := by decide +kernel
theorem d_Ref_ground_43 : decode M_Ref_ground.2.1 43 = .ok (.goto (-28), 3) := by decide +kernel
theorem d_Ref_ground_46 : decode M_Ref_ground.2.1 46 = .ok (.iload_n 2, 1) := by decide +kernel
theorem d_Ref_ground_47 : decode M_Ref_ground.2.1 47 = .ok (.ireturn, 1) := by decide +kernel
theorem d_Ref_ownerOf_0 : decode M_Ref_ownerOf.2.1 0 = .ok (.aload_n 0, 1) := by decide +kernel
theorem d_Ref_ownerOf_1 : decode M_Ref_ownerOf.2.1 1 = .ok (.getfield 7, 3) := by decide +kernel
theorem d_Ref_ownerOf_4 : decode M_Ref_ownerOf.2.1 4 = .ok (.iload_n 1, 1) := by decide +kernel
theorem d_Ref_ownerOf_5 : decode M_Ref_ownerOf.2.1 5 = .ok (.iaload, 1) := by decide +kernel
theorem d_Ref_ownerOf_6 : decode M_Ref_ownerOf.2.1 6 = .ok (.ifCond .eq 10, 3) := by decide +kernel
theorem d_Ref_ownerOf_9 : decode M_Ref_ownerOf.2.1 9 = .ok (.aload_n 0, 1) := by decide +kernel
theorem d_Ref_ownerOf_10 : decode M_Ref_ownerOf.2.1 10 = .ok (.getfield 7, 3) := by decide +kernel
theorem d_Ref_ownerOf_13 : decode M_Ref_ownerOf.2.1 13 = .ok (.iload_n 1, 1) := by decide +kernel
theorem d_Ref_ownerOf_14 : decode M_Ref_ownerOf.2.1 14 = .ok (.iaload, 1) := by decide +kernel
theorem d_Ref_ownerOf_15 : decode M_Ref_ownerOf.2.1 15 = .ok (.ireturn, 1) := by decide +kernel
theorem d_Ref_ownerOf_16 : decode M_Ref_ownerOf.2.1 16 = .ok (.aload_n 0, 1) := by decide +kernel
theorem d_Ref_ownerOf_17 : decode M_Ref_ownerOf.2.1 17 = .ok (.iload_n 1, 1) := by decide +kernel
theorem d_Ref_ownerOf_18 : decode M_Ref_ownerOf.2.1 18 = .ok (.invokevirtual 143, 3) := by decide +kernel
theorem d_Ref_ownerOf_21 : decode M_Ref_ownerOf.2.1 21 = .ok (.istore_n 2, 1) := by decide +kernel
theorem d_Ref_ownerOf_22 : decode M_Ref_ownerOf.2.1 22 = .ok (.iload_n 2, 1) := by decide +kernel
theorem d_Ref_ownerOf_23 : decode M_Ref_ownerOf.2.1 23 = .ok (.iconst 3, 1) := by decide +kernel
theorem d_Ref_ownerOf_24 : decode M_Ref_ownerOf.2.1 24 = .ok (.if_icmp .ne 7, 3) := by decide +kernel
theorem d_Ref_ownerOf_27 : decode M_Ref_ownerOf.2.1 27 = .ok (.iconst 0, 1) := by decide +kernel
theorem d_Ref_ownerOf_28 : decode M_Ref_ownerOf.2.1 28 = .ok (.goto 4, 3) := by decide +kernel
theorem d_Ref_ownerOf_31 : decode M_Ref_ownerOf.2.1 31 = .ok (.iload_n 2, 1) := by decide +kernel
theorem d_Ref_ownerOf_32 : decode M_Ref_ownerOf.2.1 32 = .ok (.ireturn, 1) := by decide +kernel
theorem d_Ref_met_0 : decode M_Ref_met.2.1 0 = .ok (.aload_n 0, 1) := by decide +kernel
theorem d_Ref_met_1 : decode M_Ref_met.2.1 1 = .ok (.aload_n 0, 1) := by decide +kernel
theorem d_Ref_met_2 : decode M_Ref_met.2.1 2 = .ok (.getfield 7, 3) := by decide +kernel
theorem d_Ref_met_5 : decode M_Ref_met.2.1 5 = .ok (.iload_n 1, 1) := by decide +kernel
theorem d_Ref_met_6 : decode M_Ref_met.2.1 6 = .ok (.invokevirtual 82, 3) := by decide +kernel
theorem d_Ref_met_9 : decode M_Ref_met.2.1 9 = .ok (.iconst 0, 1) := by decide +kernel
theorem d_Ref_met_10 : decode M_Ref_met.2.1 10 = .ok (.istore_n 2, 1) := by decide +kernel
theorem d_Ref_met_11 : decode M_Ref_met.2.1 11 = .ok (.iconst 0, 1) := by decide +kernel
theorem d_Ref_met_12 : decode M_Ref_met.2.1 12 = .ok (.istore_n 3, 1) := by decide +kernel
theorem d_Ref_met_13 : decode M_Ref_met.2.1 13 = .ok (.iload_n 3, 1) := by decide +kernel
theorem d_Ref_met_14 : decode M_Ref_met.2.1 14 = .ok (.aload_n 0, 1) := by decide +kernel
theorem d_Ref_met_15 : decode M_Ref_met.2.1 15 = .ok (.getfield 68, 3) := by decide +kernel
theorem d_Ref_met_18 : decode M_Ref_met.2.1 18 = .ok (.if_icmp .ge 57, 3) := by decide +kernel
theorem d_Ref_met_21 : decode M_Ref_met.2.1 21 = .ok (.iconst 0, 1) := by decide +kernel
theorem d_Ref_met_22 : decode M_Ref_met.2.1 22 = .ok (.istore 4, 2) := by decide +kernel
theorem d_Ref_met_24 : decode M_Ref_met.2.1 24 = .ok (.iload 4, 2) := by decide +kernel
theorem d_Ref_met_26 : decode M_Ref_met.2.1 26 = .ok (.iconst 4, 1) := by decide +kernel
theorem d_Ref_met_27 : decode M_Ref_met.2.1 27 = .ok (.if_icmp .ge 42, 3) := by decide +kernel
theorem d_Ref_met_30 : decode M_Ref_met.2.1 30 = .ok (.aload_n 0, 1) := by decide +kernel
theorem d_Ref_met_31 : decode M_Ref_met.2.1 31 = .ok (.aload_n 0, 1) := by decide +kernel
theorem d_Ref_met_32 : decode M_Ref_met.2.1 32 = .ok (.getfield 38, 3) := by decide +kernel
theorem d_Ref_met_35 : decode M_Ref_met.2.1 35 = .ok (.iload_n 3, 1) := by decide +kernel
theorem d_Ref_met_36 : decode M_Ref_met.2.1 36 = .ok (.iaload, 1) := by decide +kernel
theorem d_Ref_met_37 : decode M_Ref_met.2.1 37 = .ok (.iload 4, 2) := by decide +kernel
theorem d_Ref_met_39 : decode M_Ref_met.2.1 39 = .ok (.invokevirtual 71, 3) := by decide +kernel
theorem d_Ref_met_42 : decode M_Ref_met.2.1 42 = .ok (.istore 5, 2) := by decide +kernel
theorem d_Ref_met_44 : decode M_Ref_met.2.1 44 = .ok (.iload 5, 2) := by decide +kernel
theorem d_Ref_met_46 : decode M_Ref_met.2.1 46 = .ok (.ifCond .lt 15, 3) := by decide +kernel
theorem d_Ref_met_49 : decode M_Ref_met.2.1 49 = .ok (.iload_n 2, 1) := by decide +kernel
theorem d_Ref_met_50 : decode M_Ref_met.2.1 50 = .ok (.aload_n 0, 1) := by decide +kernel
theorem d_Ref_met_51 : decode M_Ref_met.2.1 51 = .ok (.getfield 7, 3) := by decide +kernel
theorem d_Ref_met_54 : decode M_Ref_met.2.1 54 = .ok (.iload 5, 2) := by decide +kernel
theorem d_Ref_met_56 : decode M_Ref_met.2.1 56 = .ok (.iaload, 1) := by decide +kernel
theorem d_Ref_met_57 : decode M_Ref_met.2.1 57 = .ok (.ior, 1) := by decide +kernel
theorem d_Ref_met_58 : decode M_Ref_met.2.1 58 = .ok (.goto 4, 3) := by decide +kernel
theorem d_Ref_met_61 : decode M_Ref_met.2.1 61 = .ok (.iload_n 2, 1) := by decide +kernel
theorem d_Ref_met_62 : decode M_Ref_met.2.1 62 = .ok (.istore_n 2, 1) := by decide +kernel
theorem d_Ref_met_63 : decode M_Ref_met.2.1 63 = .ok (.iinc 4 1, 3) := by decide +kernel
theorem d_Ref_met_66 : decode M_Ref_met.2.1 66 = .ok (.goto (-42), 3) := by decide +kernel
theorem d_Ref_met_69 : decode M_Ref_met.2.1 69 = .ok (.iinc 3 1, 3) := by decide +kernel
theorem d_Ref_met_72 : decode M_Ref_met.2.1 72 = .ok (.goto (-59), 3) := by decide +kernel
theorem d_Ref_met_75 : decode M_Ref_met.2.1 75 = .ok (.iload_n 2, 1) := by decide +kernel
theorem d_Ref_met_76 : decode M_Ref_met.2.1 76 = .ok (.ireturn, 1) := by decide +kernel
theorem d_Ref_owner_0 : decode M_Ref_owner.2.1 0 = .ok (.aload_n 0, 1) := by decide +kernel
theorem d_Ref_owner_1 : decode M_Ref_owner.2.1 1 = .ok (.iload_n 1, 1) := by decide +kernel
theorem d_Ref_owner_2 : decode M_Ref_owner.2.1 2 = .ok (.invokevirtual 118, 3) := by decide +kernel
theorem d_Ref_owner_5 : decode M_Ref_owner.2.1 5 = .ok (.ifCond .eq 7, 3) := by decide +kernel
theorem d_Ref_owner_8 : decode M_Ref_owner.2.1 8 = .ok (.iconst 0, 1) := by decide +kernel
theorem d_Ref_owner_9 : decode M_Ref_owner.2.1 9 = .ok (.goto 8, 3) := by decide +kernel
theorem d_Ref_owner_12 : decode M_Ref_owner.2.1 12 = .ok (.aload_n 0, 1) := by decide +kernel
theorem d_Ref_owner_13 : decode M_Ref_owner.2.1 13 = .ok (.iload_n 1, 1) := by decide +kernel
theorem d_Ref_owner_14 : decode M_Ref_owner.2.1 14 = .ok (.invokevirtual 146, 3) := by decide +kernel
theorem d_Ref_owner_17 : decode M_Ref_owner.2.1 17 = .ok (.ireturn, 1) := by decide +kernel
theorem d_Ref_alive_0 : decode M_Ref_alive.2.1 0 = .ok (.aload_n 0, 1) := by decide +kernel
theorem d_Ref_alive_1 : decode M_Ref_alive.2.1 1 = .ok (.iload_n 1, 1) := by decide +kernel
theorem d_Ref_alive_2 : decode M_Ref_alive.2.1 2 = .ok (.invokevirtual 118, 3) := by decide +kernel
theorem d_Ref_alive_5 : decode M_Ref_alive.2.1 5 = .ok (.ifCond .ne 12, 3) := by decide +kernel
theorem d_Ref_alive_8 : decode M_Ref_alive.2.1 8 = .ok (.aload_n 0, 1) := by decide +kernel
theorem d_Ref_alive_9 : decode M_Ref_alive.2.1 9 = .ok (.getfield 7, 3) := by decide +kernel
theorem d_Ref_alive_12 : decode M_Ref_alive.2.1 12 = .ok (.iload_n 1, 1) := by decide +kernel
theorem d_Ref_alive_13 : decode M_Ref_alive.2.1 13 = .ok (.iaload, 1) := by decide +kernel
theorem d_Ref_alive_14 : decode M_Ref_alive.2.1 14 = .ok (.ifCond .ne 5, 3) := by decide +kernel
theorem d_Ref_alive_17 : decode M_Ref_alive.2.1 17 = .ok (.iconst 0, 1) := by decide +kernel
theorem d_Ref_alive_18 : decode M_Ref_alive.2.1 18 = .ok (.ireturn, 1) := by decide +kernel
theorem d_Ref_alive_19 : decode M_Ref_alive.2.1 19 = .ok (.aload_n 0, 1) := by decide +kernel
theorem d_Ref_alive_20 : decode M_Ref_alive.2.1 20 = .ok (.aload_n 0, 1) := by decide +kernel
theorem d_Ref_alive_21 : decode M_Ref_alive.2.1 21 = .ok (.getfield 7, 3) := by decide +kernel
theorem d_Ref_alive_24 : decode M_Ref_alive.2.1 24 = .ok (.iload_n 1, 1) := by decide +kernel
theorem d_Ref_alive_25 : decode M_Ref_alive.2.1 25 = .ok (.iaload, 1) := by decide +kernel
theorem d_Ref_alive_26 : decode M_Ref_alive.2.1 26 = .ok (.invokevirtual 170, 3) := by decide +kernel
theorem d_Ref_alive_29 : decode M_Ref_alive.2.1 29 = .ok (.aload_n 0, 1) := by decide +kernel
theorem d_Ref_alive_30 : decode M_Ref_alive.2.1 30 = .ok (.getfield 47, 3) := by decide +kernel
theorem d_Ref_alive_33 : decode M_Ref_alive.2.1 33 = .ok (.aload_n 0, 1) := by decide +kernel
theorem d_Ref_alive_34 : decode M_Ref_alive.2.1 34 = .ok (.getfield 41, 3) := by decide +kernel
theorem d_Ref_alive_37 : decode M_Ref_alive.2.1 37 = .ok (.iload_n 1, 1) := by decide +kernel
theorem d_Ref_alive_38 : decode M_Ref_alive.2.1 38 = .ok (.iaload, 1) := by decide +kernel
theorem d_Ref_alive_39 : decode M_Ref_alive.2.1 39 = .ok (.baload, 1) := by decide +kernel
theorem d_Ref_alive_40 : decode M_Ref_alive.2.1 40 = .ok (.ireturn, 1) := by decide +kernel
theorem d_Ref_judge_0 : decode M_Ref_judge.2.1 0 = .ok (.aload_n 0, 1) := by decide +kernel
theorem d_Ref_judge_1 : decode M_Ref_judge.2.1 1 = .ok (.iload_n 1, 1) := by decide +kernel
theorem d_Ref_judge_2 : decode M_Ref_judge.2.1 2 = .ok (.invokevirtual 140, 3) := by decide +kernel
theorem d_Ref_judge_5 : decode M_Ref_judge.2.1 5 = .ok (.aload_n 0, 1) := by decide +kernel
theorem d_Ref_judge_6 : decode M_Ref_judge.2.1 6 = .ok (.iload_n 1, 1) := by decide +kernel
theorem d_Ref_judge_7 : decode M_Ref_judge.2.1 7 = .ok (.invokevirtual 161, 3) := by decide +kernel
theorem d_Ref_judge_10 : decode M_Ref_judge.2.1 10 = .ok (.iconst 0, 1) := by decide +kernel
theorem d_Ref_judge_11 : decode M_Ref_judge.2.1 11 = .ok (.istore_n 2, 1) := by decide +kernel
theorem d_Ref_judge_12 : decode M_Ref_judge.2.1 12 = .ok (.iload_n 2, 1) := by decide +kernel
theorem d_Ref_judge_13 : decode M_Ref_judge.2.1 13 = .ok (.sipush 170, 3) := by decide +kernel
theorem d_Ref_judge_16 : decode M_Ref_judge.2.1 16 = .ok (.if_icmp .ge 47, 3) := by decide +kernel
theorem d_Ref_judge_19 : decode M_Ref_judge.2.1 19 = .ok (.aload_n 0, 1) := by decide +kernel
theorem d_Ref_judge_20 : decode M_Ref_judge.2.1 20 = .ok (.getfield 47, 3) := by decide +kernel
theorem d_Ref_judge_23 : decode M_Ref_judge.2.1 23 = .ok (.iload_n 2, 1) := by decide +kernel
theorem d_Ref_judge_24 : decode M_Ref_judge.2.1 24 = .ok (.iload_n 2, 1) := by decide +kernel
theorem d_Ref_judge_25 : decode M_Ref_judge.2.1 25 = .ok (.aload_n 0, 1) := by decide +kernel
theorem d_Ref_judge_26 : decode M_Ref_judge.2.1 26 = .ok (.getfield 137, 3) := by decide +kernel
theorem d_Ref_judge_29 : decode M_Ref_judge.2.1 29 = .ok (.if_icmp .ge 7, 3) := by decide +kernel
theorem d_Ref_judge_32 : decode M_Ref_judge.2.1 32 = .ok (.iconst 1, 1) := by decide +kernel
theorem d_Ref_judge_33 : decode M_Ref_judge.2.1 33 = .ok (.goto 4, 3) := by decide +kernel
theorem d_Ref_judge_36 : decode M_Ref_judge.2.1 36 = .ok (.iconst 0, 1) := by decide +kernel
theorem d_Ref_judge_37 : decode M_Ref_judge.2.1 37 = .ok (.bastore, 1) := by decide +kernel
theorem d_Ref_judge_38 : decode M_Ref_judge.2.1 38 = .ok (.aload_n 0, 1) := by decide +kernel
theorem d_Ref_judge_39 : decode M_Ref_judge.2.1 39 = .ok (.getfield 50, 3) := by decide +kernel
theorem d_Ref_judge_42 : decode M_Ref_judge.2.1 42 = .ok (.iload_n 2, 1) := by decide +kernel
theorem d_Ref_judge_43 : decode M_Ref_judge.2.1 43 = .ok (.iload_n 2, 1) := by decide +kernel
theorem d_Ref_judge_44 : decode M_Ref_judge.2.1 44 = .ok (.aload_n 0, 1) := by decide +kernel
theorem d_Ref_judge_45 : decode M_Ref_judge.2.1 45 = .ok (.getfield 149, 3) := by decide +kernel
theorem d_Ref_judge_48 : decode M_Ref_judge.2.1 48 = .ok (.if_icmp .ge 7, 3) := by decide +kernel
theorem d_Ref_judge_51 : decode M_Ref_judge.2.1 51 = .ok (.iconst 1, 1) := by decide +kernel
theorem d_Ref_judge_52 : decode M_Ref_judge.2.1 52 = .ok (.goto 4, 3) := by decide +kernel
theorem d_Ref_judge_55 : decode M_Ref_judge.2.1 55 = .ok (.iconst 0, 1) := by decide +kernel
theorem d_Ref_judge_56 : decode M_Ref_judge.2.1 56 = .ok (.bastore, 1) := by decide +kernel
theorem d_Ref_judge_57 : decode M_Ref_judge.2.1 57 = .ok (.iinc 2 1, 3) := by decide +kernel
theorem d_Ref_judge_60 : decode M_Ref_judge.2.1 60 = .ok (.goto (-48), 3) := by decide +kernel
theorem d_Ref_judge_63 : decode M_Ref_judge.2.1 63 = .ok (.iconst 1, 1) := by decide +kernel
theorem d_Ref_judge_64 : decode M_Ref_judge.2.1 64 = .ok (.istore_n 2, 1) := by decide +kernel
theorem d_Ref_judge_65 : decode M_Ref_judge.2.1 65 = .ok (.iload_n 2, 1) := by decide +kernel
theorem d_Ref_judge_66 : decode M_Ref_judge.2.1 66 = .ok (.ifCond .eq 121, 3) := by decide +kernel
theorem d_Ref_judge_69 : decode M_Ref_judge.2.1 69 = .ok (.iconst 0, 1) := by decide +kernel
theorem d_Ref_judge_70 : decode M_Ref_judge.2.1 70 = .ok (.istore_n 2, 1) := by decide +kernel
theorem d_Ref_judge_71 : decode M_Ref_judge.2.1 71 = .ok (.iconst 0, 1) := by decide +kernel
theorem d_Ref_judge_72 : decode M_Ref_judge.2.1 72 = .ok (.istore_n 3, 1) := by decide +kernel
theorem d_Ref_judge_73 : decode M_Ref_judge.2.1 73 = .ok (.iload_n 3, 1) := by decide +kernel
theorem d_Ref_judge_74 : decode M_Ref_judge.2.1 74 = .ok (.aload_n 0, 1) := by decide +kernel
theorem d_Ref_judge_75 : decode M_Ref_judge.2.1 75 = .ok (.getfield 137, 3) := by decide +kernel
theorem d_Ref_judge_78 : decode M_Ref_judge.2.1 78 = .ok (.if_icmp .ge 38, 3) := by decide +kernel
theorem d_Ref_judge_81 : decode M_Ref_judge.2.1 81 = .ok (.aload_n 0, 1) := by decide +kernel
theorem d_Ref_judge_82 : decode M_Ref_judge.2.1 82 = .ok (.getfield 56, 3) := by decide +kernel
theorem d_Ref_judge_85 : decode M_Ref_judge.2.1 85 = .ok (.iload_n 3, 1) := by decide +kernel
theorem d_Ref_judge_86 : decode M_Ref_judge.2.1 86 = .ok (.aload_n 0, 1) := by decide +kernel
theorem d_Ref_judge_87 : decode M_Ref_judge.2.1 87 = .ok (.getfield 47, 3) := by decide +kernel
theorem d_Ref_judge_90 : decode M_Ref_judge.2.1 90 = .ok (.iload_n 3, 1) := by decide +kernel
theorem d_Ref_judge_91 : decode M_Ref_judge.2.1 91 = .ok (.baload, 1) := by decide +kernel
theorem d_Ref_judge_92 : decode M_Ref_judge.2.1 92 = .ok (.ifCond .eq 16, 3) := by decide +kernel
theorem d_Ref_judge_95 : decode M_Ref_judge.2.1 95 = .ok (.aload_n 0, 1) := by decide +kernel
theorem d_Ref_judge_96 : decode M_Ref_judge.2.1 96 = .ok (.iload_n 3, 1) := by decide +kernel
theorem d_Ref_judge_97 : decode M_Ref_judge.2.1 97 = .ok (.invokevirtual 164, 3) := by decide +kernel
theorem d_Ref_judge_100 : decode M_Ref_judge.2.1 100 = .ok (.iconst 2, 1) := by decide +kernel
theorem d_Ref_judge_101 : decode M_Ref_judge.2.1 101 = .ok (.if_icmp .ge 7, 3) := by decide +kernel
theorem d_Ref_judge_104 : decode M_Ref_judge.2.1 104 = .ok (.iconst 1, 1) := by decide +kernel
theorem d_Ref_judge_105 : decode M_Ref_judge.2.1 105 = .ok (.goto 4, 3) := by decide +kernel
theorem d_Ref_judge_108 : decode M_Ref_judge.2.1 108 = .ok (.iconst 0, 1) := by decide +kernel
theorem d_Ref_judge_109 : decode M_Ref_judge.2.1 109 = .ok (.bastore, 1) := by decide +kernel
theorem d_Ref_judge_110 : decode M_Ref_judge.2.1 110 = .ok (.iinc 3 1, 3) := by decide +kernel
theorem d_Ref_judge_113 : decode M_Ref_judge.2.1 113 = .ok (.goto (-40), 3) := by decide +kernel
theorem d_Ref_judge_116 : decode M_Ref_judge.2.1 116 = .ok (.iconst 0, 1) := by decide +kernel
theorem d_Ref_judge_117 : decode M_Ref_judge.2.1 117 = .ok (.istore_n 3, 1) := by decide +kernel
theorem d_Ref_judge_118 : decode M_Ref_judge.2.1 118 = .ok (.iload_n 3, 1) := by decide +kernel
theorem d_Ref_judge_119 : decode M_Ref_judge.2.1 119 = .ok (.aload_n 0, 1) := by decide +kernel
theorem d_Ref_judge_120 : decode M_Ref_judge.2.1 120 = .ok (.getfield 137, 3) := by decide +kernel
theorem d_Ref_judge_123 : decode M_Ref_judge.2.1 123 = .ok (.if_icmp .ge 57, 3) := by decide +kernel
theorem d_Ref_judge_126 : decode M_Ref_judge.2.1 126 = .ok (.iload_n 2, 1) := by decide +kernel
theorem d_Ref_judge_127 : decode M_Ref_judge.2.1 127 = .ok (.ifCond .ne 12, 3) := by decide +kernel
theorem d_Ref_judge_130 : decode M_Ref_judge.2.1 130 = .ok (.aload_n 0, 1) := by decide +kernel
theorem d_Ref_judge_131 : decode M_Ref_judge.2.1 131 = .ok (.getfield 56, 3) := by decide +kernel
theorem d_Ref_judge_134 : decode M_Ref_judge.2.1 134 = .ok (.iload_n 3, 1) := by decide +kernel
theorem d_Ref_judge_135 : decode M_Ref_judge.2.1 135 = .ok (.baload, 1) := by decide +kernel
theorem d_Ref_judge_136 : decode M_Ref_judge.2.1 136 = .ok (.ifCond .eq 7, 3) := by decide +kernel
theorem d_Ref_judge_139 : decode M_Ref_judge.2.1 139 = .ok (.iconst 1, 1) := by decide +kernel
theorem d_Ref_judge_140 : decode M_Ref_judge.2.1 140 = .ok (.goto 4, 3) := by decide +kernel
theorem d_Ref_judge_143 : decode M_Ref_judge.2.1 143 = .ok (.iconst 0, 1) := by decide +kernel
theorem d_Ref_judge_144 : decode M_Ref_judge.2.1 144 = .ok (.istore_n 2, 1) := by decide +kernel
theorem d_Ref_judge_145 : decode M_Ref_judge.2.1 145 = .ok (.aload_n 0, 1) := by decide +kernel
theorem d_Ref_judge_146 : decode M_Ref_judge.2.1 146 = .ok (.getfield 47, 3) := by decide +kernel
theorem d_Ref_judge_149 : decode M_Ref_judge.2.1 149 = .ok (.iload_n 3, 1) := by decide +kernel
theorem d_Ref_judge_150 : decode M_Ref_judge.2.1 150 = .ok (.aload_n 0, 1) := by decide +kernel
theorem d_Ref_judge_151 : decode M_Ref_judge.2.1 151 = .ok (.getfield 47, 3) := by decide +kernel
theorem d_Ref_judge_154 : decode M_Ref_judge.2.1 154 = .ok (.iload_n 3, 1) := by decide +kernel
theorem d_Ref_judge_155 : decode M_Ref_judge.2.1 155 = .ok (.baload, 1) := by decide +kernel
theorem d_Ref_judge_156 : decode M_Ref_judge.2.1 156 = .ok (.ifCond .eq 16, 3) := by decide +kernel
theorem d_Ref_judge_159 : decode M_Ref_judge.2.1 159 = .ok (.aload_n 0, 1) := by decide +kernel
theorem d_Ref_judge_160 : decode M_Ref_judge.2.1 160 = .ok (.getfield 56, 3) := by decide +kernel
theorem d_Ref_judge_163 : decode M_Ref_judge.2.1 163 = .ok (.iload_n 3, 1) := by decide +kernel
theorem d_Ref_judge_164 : decode M_Ref_judge.2.1 164 = .ok (.baload, 1) := by decide +kernel
theorem d_Ref_judge_165 : decode M_Ref_judge.2.1 165 = .ok (.ifCond .ne 7, 3) := by decide +kernel
theorem d_Ref_judge_168 : decode M_Ref_judge.2.1 168 = .ok (.iconst 1, 1) := by decide +kernel
theorem d_Ref_judge_169 : decode M_Ref_judge.2.1 169 = .ok (.goto 4, 3) := by decide +kernel
theorem d_Ref_judge_172 : decode M_Ref_judge.2.1 172 = .ok (.iconst 0, 1) := by decide +kernel
theorem d_Ref_judge_173 : decode M_Ref_judge.2.1 173 = .ok (.bastore, 1) := by decide +kernel
theorem d_Ref_judge_174 : decode M_Ref_judge.2.1 174 = .ok (.iinc 3 1, 3) := by decide +kernel
theorem d_Ref_judge_177 : decode M_Ref_judge.2.1 177 = .ok (.goto (-59), 3) := by decide +kernel
theorem d_Ref_judge_180 : decode M_Ref_judge.2.1 180 = .ok (.aload_n 0, 1) := by decide +kernel
theorem d_Ref_judge_181 : decode M_Ref_judge.2.1 181 = .ok (.invokevirtual 167, 3) := by decide +kernel
theorem d_Ref_judge_184 : decode M_Ref_judge.2.1 184 = .ok (.goto (-119), 3) := by decide +kernel
theorem d_Ref_judge_187 : decode M_Ref_judge.2.1 187 = .ok (.return_, 1) := by decide +kernel
theorem d_Ref_divide_0 : decode M_Ref_divide.2.1 0 = .ok (.aload_n 0, 1) := by decide +kernel
theorem d_Ref_divide_1 : decode M_Ref_divide.2.1 1 = .ok (.iconst 0, 1) := by decide +kernel
theorem d_Ref_divide_2 : decode M_Ref_divide.2.1 2 = .ok (.putfield 149, 3) := by decide +kernel
theorem d_Ref_divide_5 : decode M_Ref_divide.2.1 5 = .ok (.iconst 0, 1) := by decide +kernel
theorem d_Ref_divide_6 : decode M_Ref_divide.2.1 6 = .ok (.istore_n 2, 1) := by decide +kernel
theorem d_Ref_divide_7 : decode M_Ref_divide.2.1 7 = .ok (.iload_n 2, 1) := by decide +kernel
theorem d_Ref_divide_8 : decode M_Ref_divide.2.1 8 = .ok (.aload_n 0, 1) := by decide +kernel
theorem d_Ref_divide_9 : decode M_Ref_divide.2.1 9 = .ok (.getfield 62, 3) := by decide +kernel
theorem d_Ref_divide_12 : decode M_Ref_divide.2.1 12 = .ok (.if_icmp .ge 16, 3) := by decide +kernel
theorem d_Ref_divide_15 : decode M_Ref_divide.2.1 15 = .ok (.aload_n 0, 1) := by decide +kernel
theorem d_Ref_divide_16 : decode M_Ref_divide.2.1 16 = .ok (.getfield 44, 3) := by decide +kernel
theorem d_Ref_divide_19 : decode M_Ref_divide.2.1 19 = .ok (.iload_n 2, 1) := by decide +kernel
theorem d_Ref_divide_20 : decode M_Ref_divide.2.1 20 = .ok (.iconst (-1), 1) := by decide +kernel
theorem d_Ref_divide_21 : decode M_Ref_divide.2.1 21 = .ok (.iastore, 1) := by decide +kernel
theorem d_Ref_divide_22 : decode M_Ref_divide.2.1 22 = .ok (.iinc 2 1, 3) := by decide +kernel
theorem d_Ref_divide_25 : decode M_Ref_divide.2.1 25 = .ok (.goto (-18), 3) := by decide +kernel
theorem d_Ref_divide_28 : decode M_Ref_divide.2.1 28 = .ok (.iconst 0, 1) := by decide +kernel
theorem d_Ref_divide_29 : decode M_Ref_divide.2.1 29 = .ok (.istore_n 2, 1) := by decide +kernel
theorem d_Ref_divide_30 : decode M_Ref_divide.2.1 30 = .ok (.iload_n 2, 1) := by decide +kernel
theorem d_Ref_divide_31 : decode M_Ref_divide.2.1 31 = .ok (.aload_n 0, 1) := by decide +kernel
theorem d_Ref_divide_32 : decode M_Ref_divide.2.1 32 = .ok (.getfield 62, 3) := by decide +kernel
theorem d_Ref_divide_35 : decode M_Ref_divide.2.1 35 = .ok (.if_icmp .ge 45, 3) := by decide +kernel
theorem d_Ref_divide_38 : decode M_Ref_divide.2.1 38 = .ok (.aload_n 0, 1) := by decide +kernel
theorem d_Ref_divide_39 : decode M_Ref_divide.2.1 39 = .ok (.getfield 7, 3) := by decide +kernel
theorem d_Ref_divide_42 : decode M_Ref_divide.2.1 42 = .ok (.iload_n 2, 1) := by decide +kernel
theorem d_Ref_divide_43 : decode M_Ref_divide.2.1 43 = .ok (.iaload, 1) := by decide +kernel
theorem d_Ref_divide_44 : decode M_Ref_divide.2.1 44 = .ok (.iload_n 1, 1) := by decide +kernel
theorem d_Ref_divide_45 : decode M_Ref_divide.2.1 45 = .ok (.if_icmp .eq 29, 3) := by decide +kernel
theorem d_Ref_divide_48 : decode M_Ref_divide.2.1 48 = .ok (.aload_n 0, 1) := by decide +kernel
theorem d_Ref_divide_49 : decode M_Ref_divide.2.1 49 = .ok (.getfield 44, 3) := by decide +kernel
theorem d_Ref_divide_52 : decode M_Ref_divide.2.1 52 = .ok (.iload_n 2, 1) := by decide +kernel
theorem d_Ref_divide_53 : decode M_Ref_divide.2.1 53 = .ok (.iaload, 1) := by decide +kernel
theorem d_Ref_divide_54 : decode M_Ref_divide.2.1 54 = .ok (.iconst (-1), 1) := by decide +kernel
theorem d_Ref_divide_55 : decode M_Ref_divide.2.1 55 = .ok (.if_icmp .ne 19, 3) := by decide +kernel
theorem d_Ref_divide_58 : decode M_Ref_divide.2.1 58 = .ok (.aload_n 0, 1) := by decide +kernel
theorem d_Ref_divide_59 : decode M_Ref_divide.2.1 59 = .ok (.iload_n 2, 1) := by decide +kernel
theorem d_Ref_divide_60 : decode M_Ref_divide.2.1 60 = .ok (.iload_n 1, 1) := by decide +kernel
theorem d_Ref_divide_61 : decode M_Ref_divide.2.1 61 = .ok (.invokevirtual 152, 3) := by decide +kernel
theorem d_Ref_divide_64 : decode M_Ref_divide.2.1 64 = .ok (.aload_n 0, 1) := by decide +kernel
theorem d_Ref_divide_65 : decode M_Ref_divide.2.1 65 = .ok (.dup, 1) := by decide +kernel
theorem d_Ref_divide_66 : decode M_Ref_divide.2.1 66 = .ok (.getfield 149, 3) := by decide +kernel
theorem d_Ref_divide_69 : decode M_Ref_divide.2.1 69 = .ok (.iconst 1, 1) := by decide +kernel
theorem d_Ref_divide_70 : decode M_Ref_divide.2.1 70 = .ok (.iadd, 1) := by decide +kernel
theorem d_Ref_divide_71 : decode M_Ref_divide.2.1 71 = .ok (.putfield 149, 3) := by decide +kernel
theorem d_Ref_divide_74 : decode M_Ref_divide.2.1 74 = .ok (.iinc 2 1, 3) := by decide +kernel
theorem d_Ref_divide_77 : decode M_Ref_divide.2.1 77 = .ok (.goto (-47), 3) := by decide +kernel
theorem d_Ref_divide_80 : decode M_Ref_divide.2.1 80 = .ok (.return_, 1) := by decide +kernel
theorem d_Ref_spread_0 : decode M_Ref_spread.2.1 0 = .ok (.aload_n 0, 1) := by decide +kernel
theorem d_Ref_spread_1 : decode M_Ref_spread.2.1 1 = .ok (.getfield 44, 3) := by decide +kernel
theorem d_Ref_spread_4 : decode M_Ref_spread.2.1 4 = .ok (.iload_n 1, 1) := by decide +kernel
theorem d_Ref_spread_5 : decode M_Ref_spread.2.1 5 = .ok (.aload_n 0, 1) := by decide +kernel
theorem d_Ref_spread_6 : decode M_Ref_spread.2.1 6 = .ok (.getfield 149, 3) := by decide +kernel
theorem d_Ref_spread_9 : decode M_Ref_spread.2.1 9 = .ok (.iastore, 1) := by decide +kernel
theorem d_Ref_spread_10 : decode M_Ref_spread.2.1 10 = .ok (.aload_n 0, 1) := by decide +kernel
theorem d_Ref_spread_11 : decode M_Ref_spread.2.1 11 = .ok (.getfield 38, 3) := by decide +kernel
theorem d_Ref_spread_14 : decode M_Ref_spread.2.1 14 = .ok (.iconst 0, 1) := by decide +kernel
theorem d_Ref_spread_15 : decode M_Ref_spread.2.1 15 = .ok (.iload_n 1, 1) := by decide +kernel
theorem d_Ref_spread_16 : decode M_Ref_spread.2.1 16 = .ok (.iastore, 1) := by decide +kernel
theorem d_Ref_spread_17 : decode M_Ref_spread.2.1 17 = .ok (.aload_n 0, 1) := by decide +kernel
theorem d_Ref_spread_18 : decode M_Ref_spread.2.1 18 = .ok (.iconst 1, 1) := by decide +kernel
theorem d_Ref_spread_19 : decode M_Ref_spread.2.1 19 = .ok (.putfield 68, 3) := by decide +kernel
theorem d_Ref_spread_22 : decode M_Ref_spread.2.1 22 = .ok (.iconst 0, 1) := by decide +kernel
theorem d_Ref_spread_23 : decode M_Ref_spread.2.1 23 = .ok (.istore_n 3, 1) := by decide +kernel
theorem d_Ref_spread_24 : decode M_Ref_spread.2.1 24 = .ok (.iload_n 3, 1) := by decide +kernel
theorem d_Ref_spread_25 : decode M_Ref_spread.2.1 25 = .ok (.aload_n 0, 1) := by decide +kernel
theorem d_Ref_spread_26 : decode M_Ref_spread.2.1 26 = .ok (.getfield 68, 3) := by decide +kernel
theorem d_Ref_spread_29 : decode M_Ref_spread.2.1 29 = .ok (.if_icmp .ge 97, 3) := by decide +kernel
theorem d_Ref_spread_32 : decode M_Ref_spread.2.1 32 = .ok (.iconst 0, 1) := by decide +kernel
theorem d_Ref_spread_33 : decode M_Ref_spread.2.1 33 = .ok (.istore 4, 2) := by decide +kernel
theorem d_Ref_spread_35 : decode M_Ref_spread.2.1 35 = .ok (.iload 4, 2) := by decide +kernel
theorem d_Ref_spread_37 : decode M_Ref_spread.2.1 37 = .ok (.iconst 4, 1) := by decide +kernel
theorem d_Ref_spread_38 : decode M_Ref_spread.2.1 38 = .ok (.if_icmp .ge 82, 3) := by decide +kernel
theorem d_Ref_spread_41 : decode M_Ref_spread.2.1 41 = .ok (.aload_n 0, 1) := by decide +kernel
theorem d_Ref_spread_42 : decode M_Ref_spread.2.1 42 = .ok (.aload_n 0, 1) := by decide +kernel
theorem d_Ref_spread_43 : decode M_Ref_spread.2.1 43 = .ok (.getfield 38, 3) := by decide +kernel
theorem d_Ref_spread_46 : decode M_Ref_spread.2.1 46 = .ok (.iload_n 3, 1) := by decide +kernel
theorem d_Ref_spread_47 : decode M_Ref_spread.2.1 47 = .ok (.iaload, 1) := by decide +kernel
theorem d_Ref_spread_48 : decode M_Ref_spread.2.1 48 = .ok (.iload 4, 2) := by decide +kernel
theorem d_Ref_spread_50 : decode M_Ref_spread.2.1 50 = .ok (.invokevirtual 71, 3) := by decide +kernel
theorem d_Ref_spread_53 : decode M_Ref_spread.2.1 53 = .ok (.istore 5, 2) := by decide +kernel
theorem d_Ref_spread_55 : decode M_Ref_spread.2.1 55 = .ok (.iload 5, 2) := by decide +kernel
theorem d_Ref_spread_57 : decode M_Ref_spread.2.1 57 = .ok (.ifCond .lt 57, 3) := by decide +kernel
theorem d_Ref_spread_60 : decode M_Ref_spread.2.1 60 = .ok (.aload_n 0, 1) := by decide +kernel
theorem d_Ref_spread_61 : decode M_Ref_spread.2.1 61 = .ok (.getfield 7, 3) := by decide +kernel
theorem d_Ref_spread_64 : decode M_Ref_spread.2.1 64 = .ok (.iload 5, 2) := by decide +kernel
theorem d_Ref_spread_66 : decode M_Ref_spread.2.1 66 = .ok (.iaload, 1) := by decide +kernel
theorem d_Ref_spread_67 : decode M_Ref_spread.2.1 67 = .ok (.iload_n 2, 1) := by decide +kernel
theorem d_Ref_spread_68 : decode M_Ref_spread.2.1 68 = .ok (.if_icmp .eq 46, 3) := by decide +kernel
theorem d_Ref_spread_71 : decode M_Ref_spread.2.1 71 = .ok (.aload_n 0, 1) := by decide +kernel
theorem d_Ref_spread_72 : decode M_Ref_spread.2.1 72 = .ok (.getfield 44, 3) := by decide +kernel
theorem d_Ref_spread_75 : decode M_Ref_spread.2.1 75 = .ok (.iload 5, 2) := by decide +kernel
theorem d_Ref_spread_77 : decode M_Ref_spread.2.1 77 = .ok (.iaload, 1) := by decide +kernel
theorem d_Ref_spread_78 : decode M_Ref_spread.2.1 78 = .ok (.iconst (-1), 1) := by decide +kernel
theorem d_Ref_spread_79 : decode M_Ref_spread.2.1 79 = .ok (.if_icmp .ne 35, 3) := by decide +kernel
theorem d_Ref_spread_82 : decode M_Ref_spread.2.1 82 = .ok (.aload_n 0, 1) := by decide +kernel
theorem d_Ref_spread_83 : decode M_Ref_spread.2.1 83 = .ok (.getfield 44, 3) := by decide +kernel
theorem d_Ref_spread_86 : decode M_Ref_spread.2.1 86 = .ok (.iload 5, 2) := by decide +kernel
theorem d_Ref_spread_88 : decode M_Ref_spread.2.1 88 = .ok (.aload_n 0, 1) := by decide +kernel
theorem d_Ref_spread_89 : decode M_Ref_spread.2.1 89 = .ok (.getfield 149, 3) := by decide +kernel
theorem d_Ref_spread_92 : decode M_Ref_spread.2.1 92 = .ok (.iastore, 1) := by decide +kernel
theorem d_Ref_spread_93 : decode M_Ref_spread.2.1 93 = .ok (.aload_n 0, 1) := by decide +kernel
theorem d_Ref_spread_94 : decode M_Ref_spread.2.1 94 = .ok (.getfield 38, 3) := by decide +kernel
theorem d_Ref_spread_97 : decode M_Ref_spread.2.1 97 = .ok (.aload_n 0, 1) := by decide +kernel
theorem d_Ref_spread_98 : decode M_Ref_spread.2.1 98 = .ok (.getfield 68, 3) := by decide +kernel
theorem d_Ref_spread_101 : decode M_Ref_spread.2.1 101 = .ok (.iload 5, 2) := by decide +kernel
theorem d_Ref_spread_103 : decode M_Ref_spread.2.1 103 = .ok (.iastore, 1) := by decide +kernel
theorem d_Ref_spread_104 : decode M_Ref_spread.2.1 104 = .ok (.aload_n 0, 1) := by decide +kernel
theorem d_Ref_spread_105 : decode M_Ref_spread.2.1 105 = .ok (.dup, 1) := by decide +kernel
theorem d_Ref_spread_106 : decode M_Ref_spread.2.1 106 = .ok (.getfield 68, 3) := by decide +kernel
theorem d_Ref_spread_109 : decode M_Ref_spread.2.1 109 = .ok (.iconst 1, 1) := by decide +kernel
theorem d_Ref_spread_110 : decode M_Ref_spread.2.1 110 = .ok (.iadd, 1) := by decide +kernel
theorem d_Ref_spread_111 : decode M_Ref_spread.2.1 111 = .ok (.putfield 68, 3) := by decide +kernel
theorem d_Ref_spread_114 : decode M_Ref_spread.2.1 114 = .ok (.iinc 4 1, 3) := by decide +kernel
theorem d_Ref_spread_117 : decode M_Ref_spread.2.1 117 = .ok (.goto (-82), 3) := by decide +kernel
theorem d_Ref_spread_120 : decode M_Ref_spread.2.1 120 = .ok (.iinc 3 1, 3) := by decide +kernel
theorem d_Ref_spread_123 : decode M_Ref_spread.2.1 123 = .ok (.goto (-99), 3) := by decide +kernel
theorem d_Ref_spread_126 : decode M_Ref_spread.2.1 126 = .ok (.return_, 1) := by decide +kernel
theorem d_Ref_regionsOf_0 : decode M_Ref_regionsOf.2.1 0 = .ok (.iconst 0, 1) := by decide +kernel
theorem d_Ref_regionsOf_1 : decode M_Ref_regionsOf.2.1 1 = .ok (.istore_n 2, 1) := by decide +kernel
theorem d_Ref_regionsOf_2 : decode M_Ref_regionsOf.2.1 2 = .ok (.iconst 0, 1) := by decide +kernel
theorem d_Ref_regionsOf_3 : decode M_Ref_regionsOf.2.1 3 = .ok (.istore_n 3, 1) := by decide +kernel
theorem d_Ref_regionsOf_4 : decode M_Ref_regionsOf.2.1 4 = .ok (.iload_n 3, 1) := by decide +kernel
theorem d_Ref_regionsOf_5 : decode M_Ref_regionsOf.2.1 5 = .ok (.aload_n 0, 1) := by decide +kernel
theorem d_Ref_regionsOf_6 : decode M_Ref_regionsOf.2.1 6 = .ok (.getfield 149, 3) := by decide +kernel
theorem d_Ref_regionsOf_9 : decode M_Ref_regionsOf.2.1 9 = .ok (.if_icmp .ge 35, 3) := by decide +kernel
theorem d_Ref_regionsOf_12 : decode M_Ref_regionsOf.2.1 12 = .ok (.aload_n 0, 1) := by decide +kernel
theorem d_Ref_regionsOf_13 : decode M_Ref_regionsOf.2.1 13 = .ok (.getfield 50, 3) := by decide +kernel
theorem d_Ref_regionsOf_16 : decode M_Ref_regionsOf.2.1 16 = .ok (.iload_n 3, 1) := by decide +kernel
theorem d_Ref_regionsOf_17 : decode M_Ref_regionsOf.2.1 17 = .ok (.baload, 1) := by decide +kernel
theorem d_Ref_regionsOf_18 : decode M_Ref_regionsOf.2.1 18 = .ok (.ifCond .eq 18, 3) := by decide +kernel
theorem d_Ref_regionsOf_21 : decode M_Ref_regionsOf.2.1 21 = .ok (.aload_n 0, 1) := by decide +kernel
theorem d_Ref_regionsOf_22 : decode M_Ref_regionsOf.2.1 22 = .ok (.iload_n 3, 1) := by decide +kernel
theorem d_Ref_regionsOf_23 : decode M_Ref_regionsOf.2.1 23 = .ok (.iload_n 1, 1) := by decide +kernel
theorem d_Ref_regionsOf_24 : decode M_Ref_regionsOf.2.1 24 = .ok (.invokevirtual 158, 3) := by decide +kernel
theorem d_Ref_regionsOf_27 : decode M_Ref_regionsOf.2.1 27 = .ok (.ifCond .eq 9, 3) := by decide +kernel
theorem d_Ref_regionsOf_30 : decode M_Ref_regionsOf.2.1 30 = .ok (.iload_n 2, 1) := by decide +kernel
theorem d_Ref_regionsOf_31 : decode M_Ref_regionsOf.2.1 31 = .ok (.iconst 1, 1) := by decide +kernel
theorem d_Ref_regionsOf_32 : decode M_Ref_regionsOf.2.1 32 = .ok (.iadd, 1) := by decide +kernel
theorem d_Ref_regionsOf_33 : decode M_Ref_regionsOf.2.1 33 = .ok (.goto 4, 3) := by decide +kernel
theorem d_Ref_regionsOf_36 : decode M_Ref_regionsOf.2.1 36 = .ok (.iload_n 2, 1) := by decide +kernel
theorem d_Ref_regionsOf_37 : decode M_Ref_regionsOf.2.1 37 = .ok (.istore_n 2, 1) := by decide +kernel
theorem d_Ref_regionsOf_38 : decode M_Ref_regionsOf.2.1 38 = .ok (.iinc 3 1, 3) := by decide +kernel
theorem d_Ref_regionsOf_41 : decode M_Ref_regionsOf.2.1 41 = .ok (.goto (-37), 3) := by decide +kernel
theorem d_Ref_regionsOf_44 : decode M_Ref_regionsOf.2.1 44 = .ok (.iload_n 2, 1) := by decide +kernel
theorem d_Ref_regionsOf_45 : decode M_Ref_regionsOf.2.1 45 = .ok (.ireturn, 1) := by decide +kernel
theorem d_Ref_belongs_0 : decode M_Ref_belongs.2.1 0 = .ok (.iconst 1, 1) := by decide +kernel
theorem d_Ref_belongs_1 : decode M_Ref_belongs.2.1 1 = .ok (.istore_n 3, 1) := by decide +kernel
theorem d_Ref_belongs_2 : decode M_Ref_belongs.2.1 2 = .ok (.iconst 0, 1) := by decide +kernel
theorem d_Ref_belongs_3 : decode M_Ref_belongs.2.1 3 = .ok (.istore 4, 2) := by decide +kernel
theorem d_Ref_belongs_5 : decode M_Ref_belongs.2.1 5 = .ok (.iload 4, 2) := by decide +kernel
theorem d_Ref_belongs_7 : decode M_Ref_belongs.2.1 7 = .ok (.aload_n 0, 1) := by decide +kernel
theorem d_Ref_belongs_8 : decode M_Ref_belongs.2.1 8 = .ok (.getfield 62, 3) := by decide +kernel
theorem d_Ref_belongs_11 : decode M_Ref_belongs.2.1 11 = .ok (.if_icmp .ge 40, 3) := by decide +kernel
theorem d_Ref_belongs_14 : decode M_Ref_belongs.2.1 14 = .ok (.iload_n 3, 1) := by decide +kernel
theorem d_Ref_belongs_15 : decode M_Ref_belongs.2.1 15 = .ok (.ifCond .eq 28, 3) := by decide +kernel
theorem d_Ref_belongs_18 : decode M_Ref_belongs.2.1 18 = .ok (.aload_n 0, 1) := by decide +kernel
theorem d_Ref_belongs_19 : decode M_Ref_belongs.2.1 19 = .ok (.getfield 44, 3) := by decide +kernel
theorem d_Ref_belongs_22 : decode M_Ref_belongs.2.1 22 = .ok (.iload 4, 2) := by decide +kernel
theorem d_Ref_belongs_24 : decode M_Ref_belongs.2.1 24 = .ok (.iaload, 1) := by decide +kernel
theorem d_Ref_belongs_25 : decode M_Ref_belongs.2.1 25 = .ok (.iload_n 1, 1) := by decide +kernel
theorem d_Ref_belongs_26 : decode M_Ref_belongs.2.1 26 = .ok (.if_icmp .ne 13, 3) := by decide +kernel
theorem d_Ref_belongs_29 : decode M_Ref_belongs.2.1 29 = .ok (.aload_n 0, 1) := by decide +kernel
theorem d_Ref_belongs_30 : decode M_Ref_belongs.2.1 30 = .ok (.iload 4, 2) := by decide +kernel
theorem d_Ref_belongs_32 : decode M_Ref_belongs.2.1 32 = .ok (.iload_n 2, 1) := by decide +kernel
theorem d_Ref_belongs_33 : decode M_Ref_belongs.2.1 33 = .ok (.invokevirtual 155, 3) := by decide +kernel
theorem d_Ref_belongs_36 : decode M_Ref_belongs.2.1 36 = .ok (.ifCond .eq 7, 3) := by decide +kernel
theorem d_Ref_belongs_39 : decode M_Ref_belongs.2.1 39 = .ok (.iconst 1, 1) := by decide +kernel
theorem d_Ref_belongs_40 : decode M_Ref_belongs.2.1 40 = .ok (.goto 4, 3) := by decide +kernel
theorem d_Ref_belongs_43 : decode M_Ref_belongs.2.1 43 = .ok (.iconst 0, 1) := by decide +kernel
theorem d_Ref_belongs_44 : decode M_Ref_belongs.2.1 44 = .ok (.istore_n 3, 1) := by decide +kernel
theorem d_Ref_belongs_45 : decode M_Ref_belongs.2.1 45 = .ok (.iinc 4 1, 3) := by decide +kernel
theorem d_Ref_belongs_48 : decode M_Ref_belongs.2.1 48 = .ok (.goto (-43), 3) := by decide +kernel
theorem d_Ref_belongs_51 : decode M_Ref_belongs.2.1 51 = .ok (.iload_n 3, 1) := by decide +kernel
theorem d_Ref_belongs_52 : decode M_Ref_belongs.2.1 52 = .ok (.ireturn, 1) := by decide +kernel
theorem d_Ref_isBeside_0 : decode M_Ref_isBeside.2.1 0 = .ok (.iconst 0, 1) := by decide +kernel
theorem d_Ref_isBeside_1 : decode M_Ref_isBeside.2.1 1 = .ok (.istore_n 3, 1) := by decide +kernel
theorem d_Ref_isBeside_2 : decode M_Ref_isBeside.2.1 2 = .ok (.iconst 0, 1) := by decide +kernel
theorem d_Ref_isBeside_3 : decode M_Ref_isBeside.2.1 3 = .ok (.istore 4, 2) := by decide +kernel
theorem d_Ref_isBeside_5 : decode M_Ref_isBeside.2.1 5 = .ok (.iload 4, 2) := by decide +kernel
theorem d_Ref_isBeside_7 : decode M_Ref_isBeside.2.1 7 = .ok (.iconst 4, 1) := by decide +kernel
theorem d_Ref_isBeside_8 : decode M_Ref_isBeside.2.1 8 = .ok (.if_icmp .ge 44, 3) := by decide +kernel
theorem d_Ref_isBeside_11 : decode M_Ref_isBeside.2.1 11 = .ok (.aload_n 0, 1) := by decide +kernel
theorem d_Ref_isBeside_12 : decode M_Ref_isBeside.2.1 12 = .ok (.iload_n 1, 1) := by decide +kernel
theorem d_Ref_isBeside_13 : decode M_Ref_isBeside.2.1 13 = .ok (.iload 4, 2) := by decide +kernel
theorem d_Ref_isBeside_15 : decode M_Ref_isBeside.2.1 15 = .ok (.invokevirtual 71, 3) := by decide +kernel
theorem d_Ref_isBeside_18 : decode M_Ref_isBeside.2.1 18 = .ok (.istore 5, 2) := by decide +kernel
theorem d_Ref_isBeside_20 : decode M_Ref_isBeside.2.1 20 = .ok (.iload_n 3, 1) := by decide +kernel
theorem d_Ref_isBeside_21 : decode M_Ref_isBeside.2.1 21 = .ok (.ifCond .ne 19, 3) := by decide +kernel
theorem d_Ref_isBeside_24 : decode M_Ref_isBeside.2.1 24 = .ok (.iload 5, 2) := by decide +kernel
theorem d_Ref_isBeside_26 : decode M_Ref_isBeside.2.1 26 = .ok (.ifCond .lt 18, 3) := by decide +kernel
theorem d_Ref_isBeside_29 : decode M_Ref_isBeside.2.1 29 = .ok (.aload_n 0, 1) := by decide +kernel
theorem d_Ref_isBeside_30 : decode M_Ref_isBeside.2.1 30 = .ok (.getfield 41, 3) := by decide +kernel
theorem d_Ref_isBeside_33 : decode M_Ref_isBeside.2.1 33 = .ok (.iload 5, 2) := by decide +kernel
theorem d_Ref_isBeside_35 : decode M_Ref_isBeside.2.1 35 = .ok (.iaload, 1) := by decide +kernel
theorem d_Ref_isBeside_36 : decode M_Ref_isBeside.2.1 36 = .ok (.iload_n 2, 1) := by decide +kernel
theorem d_Ref_isBeside_37 : decode M_Ref_isBeside.2.1 37 = .ok (.if_icmp .ne 7, 3) := by decide +kernel
theorem d_Ref_isBeside_40 : decode M_Ref_isBeside.2.1 40 = .ok (.iconst 1, 1) := by decide +kernel
theorem d_Ref_isBeside_41 : decode M_Ref_isBeside.2.1 41 = .ok (.goto 4, 3) := by decide +kernel
theorem d_Ref_isBeside_44 : decode M_Ref_isBeside.2.1 44 = .ok (.iconst 0, 1) := by decide +kernel
theorem d_Ref_isBeside_45 : decode M_Ref_isBeside.2.1 45 = .ok (.istore_n 3, 1) := by decide +kernel
theorem d_Ref_isBeside_46 : decode M_Ref_isBeside.2.1 46 = .ok (.iinc 4 1, 3) := by decide +kernel
theorem d_Ref_isBeside_49 : decode M_Ref_isBeside.2.1 49 = .ok (.goto (-44), 3) := by decide +kernel
theorem d_Ref_isBeside_52 : decode M_Ref_isBeside.2.1 52 = .ok (.iload_n 3, 1) := by decide +kernel
theorem d_Ref_isBeside_53 : decode M_Ref_isBeside.2.1 53 = .ok (.ireturn, 1) := by decide +kernel
theorem d_Ref_fellRegions_0 : decode M_Ref_fellRegions.2.1 0 = .ok (.iconst 0, 1) := by decide +kernel
theorem d_Ref_fellRegions_1 : decode M_Ref_fellRegions.2.1 1 = .ok (.istore_n 1, 1) := by decide +kernel
theorem d_Ref_fellRegions_2 : decode M_Ref_fellRegions.2.1 2 = .ok (.iload_n 1, 1) := by decide +kernel
theorem d_Ref_fellRegions_3 : decode M_Ref_fellRegions.2.1 3 = .ok (.aload_n 0, 1) := by decide +kernel
theorem d_Ref_fellRegions_4 : decode M_Ref_fellRegions.2.1 4 = .ok (.getfield 62, 3) := by decide +kernel
theorem d_Ref_fellRegions_7 : decode M_Ref_fellRegions.2.1 7 = .ok (.if_icmp .ge 77, 3) := by decide +kernel
theorem d_Ref_fellRegions_10 : decode M_Ref_fellRegions.2.1 10 = .ok (.iconst 0, 1) := by decide +kernel
theorem d_Ref_fellRegions_11 : decode M_Ref_fellRegions.2.1 11 = .ok (.istore_n 2, 1) := by decide +kernel
theorem d_Ref_fellRegions_12 : decode M_Ref_fellRegions.2.1 12 = .ok (.iload_n 2, 1) := by decide +kernel
theorem d_Ref_fellRegions_13 : decode M_Ref_fellRegions.2.1 13 = .ok (.iconst 4, 1) := by decide +kernel
theorem d_Ref_fellRegions_14 : decode M_Ref_fellRegions.2.1 14 = .ok (.if_icmp .ge 64, 3) := by decide +kernel
theorem d_Ref_fellRegions_17 : decode M_Ref_fellRegions.2.1 17 = .ok (.aload_n 0, 1) := by decide +kernel
theorem d_Ref_fellRegions_18 : decode M_Ref_fellRegions.2.1 18 = .ok (.getfield 44, 3) := by decide +kernel
theorem d_Ref_fellRegions_21 : decode M_Ref_fellRegions.2.1 21 = .ok (.iload_n 1, 1) := by decide +kernel
theorem d_Ref_fellRegions_22 : decode M_Ref_fellRegions.2.1 22 = .ok (.iaload, 1) := by decide +kernel
theorem d_Ref_fellRegions_23 : decode M_Ref_fellRegions.2.1 23 = .ok (.ifCond .lt 55, 3) := by decide +kernel
theorem d_Ref_fellRegions_26 : decode M_Ref_fellRegions.2.1 26 = .ok (.aload_n 0, 1) := by decide +kernel
theorem d_Ref_fellRegions_27 : decode M_Ref_fellRegions.2.1 27 = .ok (.iload_n 1, 1) := by decide +kernel
theorem d_Ref_fellRegions_28 : decode M_Ref_fellRegions.2.1 28 = .ok (.iload_n 2, 1) := by decide +kernel
theorem d_Ref_fellRegions_29 : decode M_Ref_fellRegions.2.1 29 = .ok (.invokevirtual 71, 3) := by decide +kernel
theorem d_Ref_fellRegions_32 : decode M_Ref_fellRegions.2.1 32 = .ok (.istore_n 3, 1) := by decide +kernel
theorem d_Ref_fellRegions_33 : decode M_Ref_fellRegions.2.1 33 = .ok (.iload_n 3, 1) := by decide +kernel
theorem d_Ref_fellRegions_34 : decode M_Ref_fellRegions.2.1 34 = .ok (.ifCond .lt 38, 3) := by decide +kernel
theorem d_Ref_fellRegions_37 : decode M_Ref_fellRegions.2.1 37 = .ok (.aload_n 0, 1) := by decide +kernel
theorem d_Ref_fellRegions_38 : decode M_Ref_fellRegions.2.1 38 = .ok (.getfield 41, 3) := by decide +kernel
theorem d_Ref_fellRegions_41 : decode M_Ref_fellRegions.2.1 41 = .ok (.iload_n 3, 1) := by decide +kernel
theorem d_Ref_fellRegions_42 : decode M_Ref_fellRegions.2.1 42 = .ok (.iaload, 1) := by decide +kernel
theorem d_Ref_fellRegions_43 : decode M_Ref_fellRegions.2.1 43 = .ok (.ifCond .lt 29, 3) := by decide +kernel
theorem d_Ref_fellRegions_46 : decode M_Ref_fellRegions.2.1 46 = .ok (.aload_n 0, 1) := by decide +kernel
theorem d_Ref_fellRegions_47 : decode M_Ref_fellRegions.2.1 47 = .ok (.getfield 47, 3) := by decide +kernel
theorem d_Ref_fellRegions_50 : decode M_Ref_fellRegions.2.1 50 = .ok (.aload_n 0, 1) := by decide +kernel
theorem d_Ref_fellRegions_51 : decode M_Ref_fellRegions.2.1 51 = .ok (.getfield 41, 3) := by decide +kernel
theorem d_Ref_fellRegions_54 : decode M_Ref_fellRegions.2.1 54 = .ok (.iload_n 3, 1) := by decide +kernel
theorem d_Ref_fellRegions_55 : decode M_Ref_fellRegions.2.1 55 = .ok (.iaload, 1) := by decide +kernel
theorem d_Ref_fellRegions_56 : decode M_Ref_fellRegions.2.1 56 = .ok (.baload, 1) := by decide +kernel
theorem d_Ref_fellRegions_57 : decode M_Ref_fellRegions.2.1 57 = .ok (.ifCond .ne 15, 3) := by decide +kernel
theorem d_Ref_fellRegions_60 : decode M_Ref_fellRegions.2.1 60 = .ok (.aload_n 0, 1) := by decide +kernel
theorem d_Ref_fellRegions_61 : decode M_Ref_fellRegions.2.1 61 = .ok (.getfield 50, 3) := by decide +kernel
theorem d_Ref_fellRegions_64 : decode M_Ref_fellRegions.2.1 64 = .ok (.aload_n 0, 1) := by decide +kernel
theorem d_Ref_fellRegions_65 : decode M_Ref_fellRegions.2.1 65 = .ok (.getfield 44, 3) := by decide +kernel
theorem d_Ref_fellRegions_68 : decode M_Ref_fellRegions.2.1 68 = .ok (.iload_n 1, 1) := by decide +kernel
theorem d_Ref_fellRegions_69 : decode M_Ref_fellRegions.2.1 69 = .ok (.iaload, 1) := by decide +kernel
theorem d_Ref_fellRegions_70 : decode M_Ref_fellRegions.2.1 70 = .ok (.iconst 0, 1) := by decide +kernel
theorem d_Ref_fellRegions_71 : decode M_Ref_fellRegions.2.1 71 = .ok (.bastore, 1) := by decide +kernel
theorem d_Ref_fellRegions_72 : decode M_Ref_fellRegions.2.1 72 = .ok (.iinc 2 1, 3) := by decide +kernel
theorem d_Ref_fellRegions_75 : decode M_Ref_fellRegions.2.1 75 = .ok (.goto (-63), 3) := by decide +kernel
theorem d_Ref_fellRegions_78 : decode M_Ref_fellRegions.2.1 78 = .ok (.iinc 1 1, 3) := by decide +kernel
theorem d_Ref_fellRegions_81 : decode M_Ref_fellRegions.2.1 81 = .ok (.goto (-79), 3) := by decide +kernel
theorem d_Ref_fellRegions_84 : decode M_Ref_fellRegions.2.1 84 = .ok (.return_, 1) := by decide +kernel
theorem d_Ref_safe_0 : decode M_Ref_safe.2.1 0 = .ok (.aload_n 0, 1) := by decide +kernel
theorem d_Ref_safe_1 : decode M_Ref_safe.2.1 1 = .ok (.iload_n 1, 1) := by decide +kernel
theorem d_Ref_safe_2 : decode M_Ref_safe.2.1 2 = .ok (.iconst 1, 1) := by decide +kernel
theorem d_Ref_safe_3 : decode M_Ref_safe.2.1 3 = .ok (.invokevirtual 133, 3) := by decide +kernel
theorem d_Ref_safe_6 : decode M_Ref_safe.2.1 6 = .ok (.ifCond .eq 5, 3) := by decide +kernel
theorem d_Ref_safe_9 : decode M_Ref_safe.2.1 9 = .ok (.iconst 0, 1) := by decide +kernel
theorem d_Ref_safe_10 : decode M_Ref_safe.2.1 10 = .ok (.ireturn, 1) := by decide +kernel
theorem d_Ref_safe_11 : decode M_Ref_safe.2.1 11 = .ok (.aload_n 0, 1) := by decide +kernel
theorem d_Ref_safe_12 : decode M_Ref_safe.2.1 12 = .ok (.iload_n 1, 1) := by decide +kernel
theorem d_Ref_safe_13 : decode M_Ref_safe.2.1 13 = .ok (.invokevirtual 170, 3) := by decide +kernel
theorem d_Ref_safe_16 : decode M_Ref_safe.2.1 16 = .ok (.iconst 0, 1) := by decide +kernel
theorem d_Ref_safe_17 : decode M_Ref_safe.2.1 17 = .ok (.istore_n 2, 1) := by decide +kernel
theorem d_Ref_safe_18 : decode M_Ref_safe.2.1 18 = .ok (.iconst 0, 1) := by decide +kernel
theorem d_Ref_safe_19 : decode M_Ref_safe.2.1 19 = .ok (.istore_n 3, 1) := by decide +kernel
theorem d_Ref_safe_20 : decode M_Ref_safe.2.1 20 = .ok (.iconst 0, 1) := by decide +kernel
theorem d_Ref_safe_21 : decode M_Ref_safe.2.1 21 = .ok (.istore 4, 2) := by decide +kernel
theorem d_Ref_safe_23 : decode M_Ref_safe.2.1 23 = .ok (.iload 4, 2) := by decide +kernel
theorem d_Ref_safe_25 : decode M_Ref_safe.2.1 25 = .ok (.aload_n 0, 1) := by decide +kernel
theorem d_Ref_safe_26 : decode M_Ref_safe.2.1 26 = .ok (.getfield 62, 3) := by decide +kernel
theorem d_Ref_safe_29 : decode M_Ref_safe.2.1 29 = .ok (.if_icmp .ge 68, 3) := by decide +kernel
theorem d_Ref_safe_32 : decode M_Ref_safe.2.1 32 = .ok (.aload_n 0, 1) := by decide +kernel
theorem d_Ref_safe_33 : decode M_Ref_safe.2.1 33 = .ok (.getfield 41, 3) := by decide +kernel
theorem d_Ref_safe_36 : decode M_Ref_safe.2.1 36 = .ok (.iload 4, 2) := by decide +kernel
theorem d_Ref_safe_38 : decode M_Ref_safe.2.1 38 = .ok (.iaload, 1) := by decide +kernel
theorem d_Ref_safe_39 : decode M_Ref_safe.2.1 39 = .ok (.ifCond .lt 29, 3) := by decide +kernel
theorem d_Ref_safe_42 : decode M_Ref_safe.2.1 42 = .ok (.aload_n 0, 1) := by decide +kernel
theorem d_Ref_safe_43 : decode M_Ref_safe.2.1 43 = .ok (.getfield 47, 3) := by decide +kernel
theorem d_Ref_safe_46 : decode M_Ref_safe.2.1 46 = .ok (.aload_n 0, 1) := by decide +kernel
theorem d_Ref_safe_47 : decode M_Ref_safe.2.1 47 = .ok (.getfield 41, 3) := by decide +kernel
theorem d_Ref_safe_50 : decode M_Ref_safe.2.1 50 = .ok (.iload 4, 2) := by decide +kernel
theorem d_Ref_safe_52 : decode M_Ref_safe.2.1 52 = .ok (.iaload, 1) := by decide +kernel
theorem d_Ref_safe_53 : decode M_Ref_safe.2.1 53 = .ok (.baload, 1) := by decide +kernel
theorem d_Ref_safe_54 : decode M_Ref_safe.2.1 54 = .ok (.ifCond .eq 9, 3) := by decide +kernel
theorem d_Ref_safe_57 : decode M_Ref_safe.2.1 57 = .ok (.iload_n 3, 1) := by decide +kernel
theorem d_Ref_safe_58 : decode M_Ref_safe.2.1 58 = .ok (.iconst 1, 1) := by decide +kernel
theorem d_Ref_safe_59 : decode M_Ref_safe.2.1 59 = .ok (.iadd, 1) := by decide +kernel
theorem d_Ref_safe_60 : decode M_Ref_safe.2.1 60 = .ok (.goto 4, 3) := by decide +kernel
theorem d_Ref_safe_63 : decode M_Ref_safe.2.1 63 = .ok (.iload_n 3, 1) := by decide +kernel
theorem d_Ref_safe_64 : decode M_Ref_safe.2.1 64 = .ok (.istore_n 3, 1) := by decide +kernel
theorem d_Ref_safe_65 : decode M_Ref_safe.2.1 65 = .ok (.goto 26, 3) := by decide +kernel
theorem d_Ref_safe_68 : decode M_Ref_safe.2.1 68 = .ok (.aload_n 0, 1) := by decide +kernel
theorem d_Ref_safe_69 : decode M_Ref_safe.2.1 69 = .ok (.getfield 50, 3) := by decide +kernel
theorem d_Ref_safe_72 : decode M_Ref_safe.2.1 72 = .ok (.aload_n 0, 1) := by decide +kernel
theorem d_Ref_safe_73 : decode M_Ref_safe.2.1 73 = .ok (.getfield 44, 3) := by decide +kernel
theorem d_Ref_safe_76 : decode M_Ref_safe.2.1 76 = .ok (.iload 4, 2) := by decide +kernel
theorem d_Ref_safe_78 : decode M_Ref_safe.2.1 78 = .ok (.iaload, 1) := by decide +kernel
theorem d_Ref_safe_79 : decode M_Ref_safe.2.1 79 = .ok (.baload, 1) := by decide +kernel
theorem d_Ref_safe_80 : decode M_Ref_safe.2.1 80 = .ok (.ifCond .eq 9, 3) := by decide +kernel
theorem d_Ref_safe_83 : decode M_Ref_safe.2.1 83 = .ok (.iload_n 2, 1) := by decide +kernel
theorem d_Ref_safe_84 : decode M_Ref_safe.2.1 84 = .ok (.iconst 1, 1) := by decide +kernel
theorem d_Ref_safe_85 : decode M_Ref_safe.2.1 85 = .ok (.iadd, 1) := by decide +kernel
theorem d_Ref_safe_86 : decode M_Ref_safe.2.1 86 = .ok (.goto 4, 3) := by decide +kernel
theorem d_Ref_safe_89 : decode M_Ref_safe.2.1 89 = .ok (.iload_n 2, 1) := by decide +kernel
theorem d_Ref_safe_90 : decode M_Ref_safe.2.1 90 = .ok (.istore_n 2, 1) := by decide +kernel
theorem d_Ref_safe_91 : decode M_Ref_safe.2.1 91 = .ok (.iinc 4 1, 3) := by decide +kernel
theorem d_Ref_safe_94 : decode M_Ref_safe.2.1 94 = .ok (.goto (-71), 3) := by decide +kernel
theorem d_Ref_safe_97 : decode M_Ref_safe.2.1 97 = .ok (.iload_n 3, 1) := by decide +kernel
theorem d_Ref_safe_98 : decode M_Ref_safe.2.1 98 = .ok (.ifCond .ne 7, 3) := by decide +kernel
theorem d_Ref_safe_101 : decode M_Ref_safe.2.1 101 = .ok (.iconst 0, 1) := by decide +kernel
theorem d_Ref_safe_102 : decode M_Ref_safe.2.1 102 = .ok (.goto 6, 3) := by decide +kernel
theorem d_Ref_safe_105 : decode M_Ref_safe.2.1 105 = .ok (.iload_n 3, 1) := by decide +kernel
theorem d_Ref_safe_106 : decode M_Ref_safe.2.1 106 = .ok (.iload_n 2, 1) := by decide +kernel
theorem d_Ref_safe_107 : decode M_Ref_safe.2.1 107 = .ok (.iadd, 1) := by decide +kernel
theorem d_Ref_safe_108 : decode M_Ref_safe.2.1 108 = .ok (.ireturn, 1) := by decide +kernel
theorem d_Ref_ago_0 : decode M_Ref_ago.2.1 0 = .ok (.aload_n 0, 1) := by decide +kernel
theorem d_Ref_ago_1 : decode M_Ref_ago.2.1 1 = .ok (.iload_n 1, 1) := by decide +kernel
theorem d_Ref_ago_2 : decode M_Ref_ago.2.1 2 = .ok (.invokevirtual 118, 3) := by decide +kernel
theorem d_Ref_ago_5 : decode M_Ref_ago.2.1 5 = .ok (.ifCond .eq 5, 3) := by decide +kernel
theorem d_Ref_ago_8 : decode M_Ref_ago.2.1 8 = .ok (.iconst 0, 1) := by decide +kernel
theorem d_Ref_ago_9 : decode M_Ref_ago.2.1 9 = .ok (.ireturn, 1) := by decide +kernel
theorem d_Ref_ago_10 : decode M_Ref_ago.2.1 10 = .ok (.aload_n 0, 1) := by decide +kernel
theorem d_Ref_ago_11 : decode M_Ref_ago.2.1 11 = .ok (.getfield 7, 3) := by decide +kernel
theorem d_Ref_ago_14 : decode M_Ref_ago.2.1 14 = .ok (.iload_n 1, 1) := by decide +kernel
theorem d_Ref_ago_15 : decode M_Ref_ago.2.1 15 = .ok (.iaload, 1) := by decide +kernel
theorem d_Ref_ago_16 : decode M_Ref_ago.2.1 16 = .ok (.ifCond .eq 5, 3) := by decide +kernel
theorem d_Ref_ago_19 : decode M_Ref_ago.2.1 19 = .ok (.iconst (-1), 1) := by decide +kernel
theorem d_Ref_ago_20 : decode M_Ref_ago.2.1 20 = .ok (.ireturn, 1) := by decide +kernel
theorem d_Ref_ago_21 : decode M_Ref_ago.2.1 21 = .ok (.aload_n 0, 1) := by decide +kernel
theorem d_Ref_ago_22 : decode M_Ref_ago.2.1 22 = .ok (.iload_n 1, 1) := by decide +kernel
theorem d_Ref_ago_23 : decode M_Ref_ago.2.1 23 = .ok (.aload_n 0, 1) := by decide +kernel
theorem d_Ref_ago_24 : decode M_Ref_ago.2.1 24 = .ok (.invokevirtual 107, 3) := by decide +kernel
theorem d_Ref_ago_27 : decode M_Ref_ago.2.1 27 = .ok (.invokevirtual 111, 3) := by decide +kernel
theorem d_Ref_ago_30 : decode M_Ref_ago.2.1 30 = .ok (.aload_n 0, 1) := by decide +kernel
theorem d_Ref_ago_31 : decode M_Ref_ago.2.1 31 = .ok (.invokevirtual 115, 3) := by decide +kernel
theorem d_Ref_ago_34 : decode M_Ref_ago.2.1 34 = .ok (.istore_n 2, 1) := by decide +kernel
theorem d_Ref_ago_35 : decode M_Ref_ago.2.1 35 = .ok (.iload_n 2, 1) := by decide +kernel
theorem d_Ref_ago_36 : decode M_Ref_ago.2.1 36 = .ok (.ifCond .ge 7, 3) := by decide +kernel
theorem d_Ref_ago_39 : decode M_Ref_ago.2.1 39 = .ok (.iconst (-1), 1) := by decide +kernel
theorem d_Ref_ago_40 : decode M_Ref_ago.2.1 40 = .ok (.goto 9, 3) := by decide +kernel
theorem d_Ref_ago_43 : decode M_Ref_ago.2.1 43 = .ok (.aload_n 0, 1) := by decide +kernel
theorem d_Ref_ago_44 : decode M_Ref_ago.2.1 44 = .ok (.getfield 96, 3) := by decide +kernel
theorem d_Ref_ago_47 : decode M_Ref_ago.2.1 47 = .ok (.iload_n 2, 1) := by decide +kernel
theorem d_Ref_ago_48 : decode M_Ref_ago.2.1 48 = .ok (.isub, 1) := by decide +kernel
theorem d_Ref_ago_49 : decode M_Ref_ago.2.1 49 = .ok (.ireturn, 1) := by decide +kernel
