/-! Decode rows, printed. -/
theorem d_Grid_init_0 : decode M_Grid_init.2.1 0 = .ok (.aload_n 0, 1) := by decide +kernel
theorem d_Grid_init_1 : decode M_Grid_init.2.1 1 = .ok (.invokespecial 3, 3) := by decide +kernel
theorem d_Grid_init_4 : decode M_Grid_init.2.1 4 = .ok (.aload_n 0, 1) := by decide +kernel
theorem d_Grid_init_5 : decode M_Grid_init.2.1 5 = .ok (.iload_n 1, 1) := by decide +kernel
theorem d_Grid_init_6 : decode M_Grid_init.2.1 6 = .ok (.iload_n 1, 1) := by decide +kernel
theorem d_Grid_init_7 : decode M_Grid_init.2.1 7 = .ok (.imul, 1) := by decide +kernel
theorem d_Grid_init_8 : decode M_Grid_init.2.1 8 = .ok (.putfield 9, 3) := by decide +kernel
theorem d_Grid_init_11 : decode M_Grid_init.2.1 11 = .ok (.aload_n 0, 1) := by decide +kernel
theorem d_Grid_init_12 : decode M_Grid_init.2.1 12 = .ok (.iconst 4, 1) := by decide +kernel
theorem d_Grid_init_13 : decode M_Grid_init.2.1 13 = .ok (.aload_n 0, 1) := by decide +kernel
theorem d_Grid_init_14 : decode M_Grid_init.2.1 14 = .ok (.getfield 9, 3) := by decide +kernel
theorem d_Grid_init_17 : decode M_Grid_init.2.1 17 = .ok (.imul, 1) := by decide +kernel
theorem d_Grid_init_18 : decode M_Grid_init.2.1 18 = .ok (.newarray .int, 2) := by decide +kernel
theorem d_Grid_init_20 : decode M_Grid_init.2.1 20 = .ok (.putfield 15, 3) := by decide +kernel
theorem d_Grid_init_23 : decode M_Grid_init.2.1 23 = .ok (.iconst 0, 1) := by decide +kernel
theorem d_Grid_init_24 : decode M_Grid_init.2.1 24 = .ok (.istore_n 2, 1) := by decide +kernel
theorem d_Grid_init_25 : decode M_Grid_init.2.1 25 = .ok (.iload_n 2, 1) := by decide +kernel
theorem d_Grid_init_26 : decode M_Grid_init.2.1 26 = .ok (.iload_n 1, 1) := by decide +kernel
theorem d_Grid_init_27 : decode M_Grid_init.2.1 27 = .ok (.if_icmp .ge 123, 3) := by decide +kernel
theorem d_Grid_init_30 : decode M_Grid_init.2.1 30 = .ok (.iconst 0, 1) := by decide +kernel
theorem d_Grid_init_31 : decode M_Grid_init.2.1 31 = .ok (.istore_n 3, 1) := by decide +kernel
theorem d_Grid_init_32 : decode M_Grid_init.2.1 32 = .ok (.iload_n 3, 1) := by decide +kernel
theorem d_Grid_init_33 : decode M_Grid_init.2.1 33 = .ok (.iload_n 1, 1) := by decide +kernel
theorem d_Grid_init_34 : decode M_Grid_init.2.1 34 = .ok (.if_icmp .ge 110, 3) := by decide +kernel
theorem d_Grid_init_37 : decode M_Grid_init.2.1 37 = .ok (.iload_n 1, 1) := by decide +kernel
theorem d_Grid_init_38 : decode M_Grid_init.2.1 38 = .ok (.iload_n 2, 1) := by decide +kernel
theorem d_Grid_init_39 : decode M_Grid_init.2.1 39 = .ok (.imul, 1) := by decide +kernel
theorem d_Grid_init_40 : decode M_Grid_init.2.1 40 = .ok (.iload_n 3, 1) := by decide +kernel
theorem d_Grid_init_41 : decode M_Grid_init.2.1 41 = .ok (.iadd, 1) := by decide +kernel
theorem d_Grid_init_42 : decode M_Grid_init.2.1 42 = .ok (.istore 4, 2) := by decide +kernel
theorem d_Grid_init_44 : decode M_Grid_init.2.1 44 = .ok (.iconst 4, 1) := by decide +kernel
theorem d_Grid_init_45 : decode M_Grid_init.2.1 45 = .ok (.iload 4, 2) := by decide +kernel
theorem d_Grid_init_47 : decode M_Grid_init.2.1 47 = .ok (.imul, 1) := by decide +kernel
theorem d_Grid_init_48 : decode M_Grid_init.2.1 48 = .ok (.istore 5, 2) := by decide +kernel
theorem d_Grid_init_50 : decode M_Grid_init.2.1 50 = .ok (.aload_n 0, 1) := by decide +kernel
theorem d_Grid_init_51 : decode M_Grid_init.2.1 51 = .ok (.getfield 15, 3) := by decide +kernel
theorem d_Grid_init_54 : decode M_Grid_init.2.1 54 = .ok (.iload 5, 2) := by decide +kernel
theorem d_Grid_init_56 : decode M_Grid_init.2.1 56 = .ok (.iload_n 2, 1) := by decide +kernel
theorem d_Grid_init_57 : decode M_Grid_init.2.1 57 = .ok (.ifCond .le 10, 3) := by decide +kernel
theorem d_Grid_init_60 : decode M_Grid_init.2.1 60 = .ok (.iload 4, 2) := by decide +kernel
theorem d_Grid_init_62 : decode M_Grid_init.2.1 62 = .ok (.iload_n 1, 1) := by decide +kernel
theorem d_Grid_init_63 : decode M_Grid_init.2.1 63 = .ok (.isub, 1) := by decide +kernel
theorem d_Grid_init_64 : decode M_Grid_init.2.1 64 = .ok (.goto 4, 3) := by decide +kernel
theorem d_Grid_init_67 : decode M_Grid_init.2.1 67 = .ok (.iconst (-1), 1) := by decide +kernel
theorem d_Grid_init_68 : decode M_Grid_init.2.1 68 = .ok (.iastore, 1) := by decide +kernel
theorem d_Grid_init_69 : decode M_Grid_init.2.1 69 = .ok (.aload_n 0, 1) := by decide +kernel
theorem d_Grid_init_70 : decode M_Grid_init.2.1 70 = .ok (.getfield 15, 3) := by decide +kernel
theorem d_Grid_init_73 : decode M_Grid_init.2.1 73 = .ok (.iload 5, 2) := by decide +kernel
theorem d_Grid_init_75 : decode M_Grid_init.2.1 75 = .ok (.iconst 1, 1) := by decide +kernel
theorem d_Grid_init_76 : decode M_Grid_init.2.1 76 = .ok (.iadd, 1) := by decide +kernel
theorem d_Grid_init_77 : decode M_Grid_init.2.1 77 = .ok (.iload_n 3, 1) := by decide +kernel
theorem d_Grid_init_78 : decode M_Grid_init.2.1 78 = .ok (.ifCond .le 10, 3) := by decide +kernel
theorem d_Grid_init_81 : decode M_Grid_init.2.1 81 = .ok (.iload 4, 2) := by decide +kernel
theorem d_Grid_init_83 : decode M_Grid_init.2.1 83 = .ok (.iconst 1, 1) := by decide +kernel
theorem d_Grid_init_84 : decode M_Grid_init.2.1 84 = .ok (.isub, 1) := by decide +kernel
theorem d_Grid_init_85 : decode M_Grid_init.2.1 85 = .ok (.goto 4, 3) := by decide +kernel
theorem d_Grid_init_88 : decode M_Grid_init.2.1 88 = .ok (.iconst (-1), 1) := by decide +kernel
theorem d_Grid_init_89 : decode M_Grid_init.2.1 89 = .ok (.iastore, 1) := by decide +kernel
theorem d_Grid_init_90 : decode M_Grid_init.2.1 90 = .ok (.aload_n 0, 1) := by decide +kernel
theorem d_Grid_init_91 : decode M_Grid_init.2.1 91 = .ok (.getfield 15, 3) := by decide +kernel
theorem d_Grid_init_94 : decode M_Grid_init.2.1 94 = .ok (.iload 5, 2) := by decide +kernel
theorem d_Grid_init_96 : decode M_Grid_init.2.1 96 = .ok (.iconst 2, 1) := by decide +kernel
theorem d_Grid_init_97 : decode M_Grid_init.2.1 97 = .ok (.iadd, 1) := by decide +kernel
theorem d_Grid_init_98 : decode M_Grid_init.2.1 98 = .ok (.iload_n 3, 1) := by decide +kernel
theorem d_Grid_init_99 : decode M_Grid_init.2.1 99 = .ok (.iload_n 1, 1) := by decide +kernel
theorem d_Grid_init_100 : decode M_Grid_init.2.1 100 = .ok (.iconst 1, 1) := by decide +kernel
theorem d_Grid_init_101 : decode M_Grid_init.2.1 101 = .ok (.isub, 1) := by decide +kernel
theorem d_Grid_init_102 : decode M_Grid_init.2.1 102 = .ok (.if_icmp .ge 10, 3) := by decide +kernel
theorem d_Grid_init_105 : decode M_Grid_init.2.1 105 = .ok (.iload 4, 2) := by decide +kernel
theorem d_Grid_init_107 : decode M_Grid_init.2.1 107 = .ok (.iconst 1, 1) := by decide +kernel
theorem d_Grid_init_108 : decode M_Grid_init.2.1 108 = .ok (.iadd, 1) := by decide +kernel
theorem d_Grid_init_109 : decode M_Grid_init.2.1 109 = .ok (.goto 4, 3) := by decide +kernel
theorem d_Grid_init_112 : decode M_Grid_init.2.1 112 = .ok (.iconst (-1), 1) := by decide +kernel
theorem d_Grid_init_113 : decode M_Grid_init.2.1 113 = .ok (.iastore, 1) := by decide +kernel
theorem d_Grid_init_114 : decode M_Grid_init.2.1 114 = .ok (.aload_n 0, 1) := by decide +kernel
theorem d_Grid_init_115 : decode M_Grid_init.2.1 115 = .ok (.getfield 15, 3) := by decide +kernel
theorem d_Grid_init_118 : decode M_Grid_init.2.1 118 = .ok (.iload 5, 2) := by decide +kernel
theorem d_Grid_init_120 : decode M_Grid_init.2.1 120 = .ok (.iconst 3, 1) := by decide +kernel
theorem d_Grid_init_121 : decode M_Grid_init.2.1 121 = .ok (.iadd, 1) := by decide +kernel
theorem d_Grid_init_122 : decode M_Grid_init.2.1 122 = .ok (.iload_n 2, 1) := by decide +kernel
theorem d_Grid_init_123 : decode M_Grid_init.2.1 123 = .ok (.iload_n 1, 1) := by decide +kernel
theorem d_Grid_init_124 : decode M_Grid_init.2.1 124 = .ok (.iconst 1, 1) := by decide +kernel
theorem d_Grid_init_125 : decode M_Grid_init.2.1 125 = .ok (.isub, 1) := by decide +kernel
theorem d_Grid_init_126 : decode M_Grid_init.2.1 126 = .ok (.if_icmp .ge 10, 3) := by decide +kernel
theorem d_Grid_init_129 : decode M_Grid_init.2.1 129 = .ok (.iload 4, 2) := by decide +kernel
theorem d_Grid_init_131 : decode M_Grid_init.2.1 131 = .ok (.iload_n 1, 1) := by decide +kernel
theorem d_Grid_init_132 : decode M_Grid_init.2.1 132 = .ok (.iadd, 1) := by decide +kernel
theorem d_Grid_init_133 : decode M_Grid_init.2.1 133 = .ok (.goto 4, 3) := by decide +kernel
theorem d_Grid_init_136 : decode M_Grid_init.2.1 136 = .ok (.iconst (-1), 1) := by decide +kernel
theorem d_Grid_init_137 : decode M_Grid_init.2.1 137 = .ok (.iastore, 1) := by decide +kernel
theorem d_Grid_init_138 : decode M_Grid_init.2.1 138 = .ok (.iinc 3 1, 3) := by decide +kernel
theorem d_Grid_init_141 : decode M_Grid_init.2.1 141 = .ok (.goto (-109), 3) := by decide +kernel
theorem d_Grid_init_144 : decode M_Grid_init.2.1 144 = .ok (.iinc 2 1, 3) := by decide +kernel
theorem d_Grid_init_147 : decode M_Grid_init.2.1 147 = .ok (.goto (-122), 3) := by decide +kernel
theorem d_Grid_init_150 : decode M_Grid_init.2.1 150 = .ok (.return_, 1) := by decide +kernel
theorem d_Areas_init_0 : decode M_Areas_init.2.1 0 = .ok (.aload_n 0, 1) := by decide +kernel
theorem d_Areas_init_1 : decode M_Areas_init.2.1 1 = .ok (.invokespecial 3, 3) := by decide +kernel
theorem d_Areas_init_4 : decode M_Areas_init.2.1 4 = .ok (.aload_n 0, 1) := by decide +kernel
theorem d_Areas_init_5 : decode M_Areas_init.2.1 5 = .ok (.aload_n 1, 1) := by decide +kernel
theorem d_Areas_init_6 : decode M_Areas_init.2.1 6 = .ok (.putfield 9, 3) := by decide +kernel
theorem d_Areas_init_9 : decode M_Areas_init.2.1 9 = .ok (.aload_n 0, 1) := by decide +kernel
theorem d_Areas_init_10 : decode M_Areas_init.2.1 10 = .ok (.aload_n 1, 1) := by decide +kernel
theorem d_Areas_init_11 : decode M_Areas_init.2.1 11 = .ok (.getfield 15, 3) := by decide +kernel
theorem d_Areas_init_14 : decode M_Areas_init.2.1 14 = .ok (.newarray .int, 2) := by decide +kernel
theorem d_Areas_init_16 : decode M_Areas_init.2.1 16 = .ok (.putfield 21, 3) := by decide +kernel
theorem d_Areas_init_19 : decode M_Areas_init.2.1 19 = .ok (.aload_n 0, 1) := by decide +kernel
theorem d_Areas_init_20 : decode M_Areas_init.2.1 20 = .ok (.aload_n 1, 1) := by decide +kernel
theorem d_Areas_init_21 : decode M_Areas_init.2.1 21 = .ok (.getfield 15, 3) := by decide +kernel
theorem d_Areas_init_24 : decode M_Areas_init.2.1 24 = .ok (.newarray .int, 2) := by decide +kernel
theorem d_Areas_init_26 : decode M_Areas_init.2.1 26 = .ok (.putfield 25, 3) := by decide +kernel
theorem d_Areas_init_29 : decode M_Areas_init.2.1 29 = .ok (.aload_n 0, 1) := by decide +kernel
theorem d_Areas_init_30 : decode M_Areas_init.2.1 30 = .ok (.aload_n 1, 1) := by decide +kernel
theorem d_Areas_init_31 : decode M_Areas_init.2.1 31 = .ok (.getfield 15, 3) := by decide +kernel
theorem d_Areas_init_34 : decode M_Areas_init.2.1 34 = .ok (.iconst 1, 1) := by decide +kernel
theorem d_Areas_init_35 : decode M_Areas_init.2.1 35 = .ok (.iadd, 1) := by decide +kernel
theorem d_Areas_init_36 : decode M_Areas_init.2.1 36 = .ok (.newarray .int, 2) := by decide +kernel
theorem d_Areas_init_38 : decode M_Areas_init.2.1 38 = .ok (.putfield 28, 3) := by decide +kernel
theorem d_Areas_init_41 : decode M_Areas_init.2.1 41 = .ok (.return_, 1) := by decide +kernel
theorem d_Areas_split_0 : decode M_Areas_split.2.1 0 = .ok (.aload_n 0, 1) := by decide +kernel
theorem d_Areas_split_1 : decode M_Areas_split.2.1 1 = .ok (.getfield 21, 3) := by decide +kernel
theorem d_Areas_split_4 : decode M_Areas_split.2.1 4 = .ok (.iconst (-1), 1) := by decide +kernel
theorem d_Areas_split_5 : decode M_Areas_split.2.1 5 = .ok (.invokestatic 31, 3) := by decide +kernel
theorem d_Areas_split_8 : decode M_Areas_split.2.1 8 = .ok (.aload_n 0, 1) := by decide +kernel
theorem d_Areas_split_9 : decode M_Areas_split.2.1 9 = .ok (.iconst 0, 1) := by decide +kernel
theorem d_Areas_split_10 : decode M_Areas_split.2.1 10 = .ok (.putfield 37, 3) := by decide +kernel
theorem d_Areas_split_13 : decode M_Areas_split.2.1 13 = .ok (.iconst 0, 1) := by decide +kernel
theorem d_Areas_split_14 : decode M_Areas_split.2.1 14 = .ok (.istore_n 2, 1) := by decide +kernel
theorem d_Areas_split_15 : decode M_Areas_split.2.1 15 = .ok (.iconst 0, 1) := by decide +kernel
theorem d_Areas_split_16 : decode M_Areas_split.2.1 16 = .ok (.istore_n 3, 1) := by decide +kernel
theorem d_Areas_split_17 : decode M_Areas_split.2.1 17 = .ok (.iload_n 3, 1) := by decide +kernel
theorem d_Areas_split_18 : decode M_Areas_split.2.1 18 = .ok (.aload_n 0, 1) := by decide +kernel
theorem d_Areas_split_19 : decode M_Areas_split.2.1 19 = .ok (.getfield 9, 3) := by decide +kernel
theorem d_Areas_split_22 : decode M_Areas_split.2.1 22 = .ok (.getfield 15, 3) := by decide +kernel
theorem d_Areas_split_25 : decode M_Areas_split.2.1 25 = .ok (.if_icmp .ge 47, 3) := by decide +kernel
theorem d_Areas_split_28 : decode M_Areas_split.2.1 28 = .ok (.aload_n 0, 1) := by decide +kernel
theorem d_Areas_split_29 : decode M_Areas_split.2.1 29 = .ok (.getfield 21, 3) := by decide +kernel
theorem d_Areas_split_32 : decode M_Areas_split.2.1 32 = .ok (.iload_n 3, 1) := by decide +kernel
theorem d_Areas_split_33 : decode M_Areas_split.2.1 33 = .ok (.iaload, 1) := by decide +kernel
theorem d_Areas_split_34 : decode M_Areas_split.2.1 34 = .ok (.iconst (-1), 1) := by decide +kernel
theorem d_Areas_split_35 : decode M_Areas_split.2.1 35 = .ok (.if_icmp .ne 31, 3) := by decide +kernel
theorem d_Areas_split_38 : decode M_Areas_split.2.1 38 = .ok (.aload_n 0, 1) := by decide +kernel
theorem d_Areas_split_39 : decode M_Areas_split.2.1 39 = .ok (.getfield 28, 3) := by decide +kernel
theorem d_Areas_split_42 : decode M_Areas_split.2.1 42 = .ok (.aload_n 0, 1) := by decide +kernel
theorem d_Areas_split_43 : decode M_Areas_split.2.1 43 = .ok (.getfield 37, 3) := by decide +kernel
theorem d_Areas_split_46 : decode M_Areas_split.2.1 46 = .ok (.iload_n 2, 1) := by decide +kernel
theorem d_Areas_split_47 : decode M_Areas_split.2.1 47 = .ok (.iastore, 1) := by decide +kernel
theorem d_Areas_split_48 : decode M_Areas_split.2.1 48 = .ok (.aload_n 0, 1) := by decide +kernel
theorem d_Areas_split_49 : decode M_Areas_split.2.1 49 = .ok (.iload_n 3, 1) := by decide +kernel
theorem d_Areas_split_50 : decode M_Areas_split.2.1 50 = .ok (.iload_n 2, 1) := by decide +kernel
theorem d_Areas_split_51 : decode M_Areas_split.2.1 51 = .ok (.aload_n 1, 1) := by decide +kernel
theorem d_Areas_split_52 : decode M_Areas_split.2.1 52 = .ok (.invokevirtual 38, 3) := by decide +kernel
theorem d_Areas_split_55 : decode M_Areas_split.2.1 55 = .ok (.istore_n 2, 1) := by decide +kernel
theorem d_Areas_split_56 : decode M_Areas_split.2.1 56 = .ok (.aload_n 0, 1) := by decide +kernel
theorem d_Areas_split_57 : decode M_Areas_split.2.1 57 = .ok (.dup, 1) := by decide +kernel
theorem d_Areas_split_58 : decode M_Areas_split.2.1 58 = .ok (.getfield 37, 3) := by decide +kernel
theorem d_Areas_split_61 : decode M_Areas_split.2.1 61 = .ok (.iconst 1, 1) := by decide +kernel
theorem d_Areas_split_62 : decode M_Areas_split.2.1 62 = .ok (.iadd, 1) := by decide +kernel
theorem d_Areas_split_63 : decode M_Areas_split.2.1 63 = .ok (.putfield 37, 3) := by decide +kernel
theorem d_Areas_split_66 : decode M_Areas_split.2.1 66 = .ok (.iinc 3 1, 3) := by decide +kernel
theorem d_Areas_split_69 : decode M_Areas_split.2.1 69 = .ok (.goto (-52), 3) := by decide +kernel
theorem d_Areas_split_72 : decode M_Areas_split.2.1 72 = .ok (.aload_n 0, 1) := by decide +kernel
theorem d_Areas_split_73 : decode M_Areas_split.2.1 73 = .ok (.getfield 28, 3) := by decide +kernel
theorem d_Areas_split_76 : decode M_Areas_split.2.1 76 = .ok (.aload_n 0, 1) := by decide +kernel
theorem d_Areas_split_77 : decode M_Areas_split.2.1 77 = .ok (.getfield 37, 3) := by decide +kernel
theorem d_Areas_split_80 : decode M_Areas_split.2.1 80 = .ok (.iload_n 2, 1) := by decide +kernel
theorem d_Areas_split_81 : decode M_Areas_split.2.1 81 = .ok (.iastore, 1) := by decide +kernel
theorem d_Areas_split_82 : decode M_Areas_split.2.1 82 = .ok (.return_, 1) := by decide +kernel
theorem d_Arrays_fill_0 : decode M_Arrays_fill.2.1 0 = .ok (.iconst 0, 1) := by decide +kernel
theorem d_Arrays_fill_1 : decode M_Arrays_fill.2.1 1 = .ok (.istore_n 2, 1) := by decide +kernel
theorem d_Arrays_fill_2 : decode M_Arrays_fill.2.1 2 = .ok (.aload_n 0, 1) := by decide +kernel
theorem d_Arrays_fill_3 : decode M_Arrays_fill.2.1 3 = .ok (.arraylength, 1) := by decide +kernel
theorem d_Arrays_fill_4 : decode M_Arrays_fill.2.1 4 = .ok (.istore_n 3, 1) := by decide +kernel
theorem d_Arrays_fill_5 : decode M_Arrays_fill.2.1 5 = .ok (.iload_n 2, 1) := by decide +kernel
theorem d_Arrays_fill_6 : decode M_Arrays_fill.2.1 6 = .ok (.iload_n 3, 1) := by decide +kernel
theorem d_Arrays_fill_7 : decode M_Arrays_fill.2.1 7 = .ok (.if_icmp .ge 13, 3) := by decide +kernel
theorem d_Arrays_fill_10 : decode M_Arrays_fill.2.1 10 = .ok (.aload_n 0, 1) := by decide +kernel
theorem d_Arrays_fill_11 : decode M_Arrays_fill.2.1 11 = .ok (.iload_n 2, 1) := by decide +kernel
theorem d_Arrays_fill_12 : decode M_Arrays_fill.2.1 12 = .ok (.iload_n 1, 1) := by decide +kernel
theorem d_Arrays_fill_13 : decode M_Arrays_fill.2.1 13 = .ok (.iastore, 1) := by decide +kernel
theorem d_Arrays_fill_14 : decode M_Arrays_fill.2.1 14 = .ok (.iinc 2 1, 3) := by decide +kernel
theorem d_Arrays_fill_17 : decode M_Arrays_fill.2.1 17 = .ok (.goto (-12), 3) := by decide +kernel
theorem d_Arrays_fill_20 : decode M_Arrays_fill.2.1 20 = .ok (.return_, 1) := by decide +kernel
theorem d_Areas_spread_0 : decode M_Areas_spread.2.1 0 = .ok (.aload_n 0, 1) := by decide +kernel
theorem d_Areas_spread_1 : decode M_Areas_spread.2.1 1 = .ok (.getfield 21, 3) := by decide +kernel
theorem d_Areas_spread_4 : decode M_Areas_spread.2.1 4 = .ok (.iload_n 1, 1) := by decide +kernel
theorem d_Areas_spread_5 : decode M_Areas_spread.2.1 5 = .ok (.aload_n 0, 1) := by decide +kernel
theorem d_Areas_spread_6 : decode M_Areas_spread.2.1 6 = .ok (.getfield 37, 3) := by decide +kernel
theorem d_Areas_spread_9 : decode M_Areas_spread.2.1 9 = .ok (.iastore, 1) := by decide +kernel
theorem d_Areas_spread_10 : decode M_Areas_spread.2.1 10 = .ok (.aload_n 0, 1) := by decide +kernel
theorem d_Areas_spread_11 : decode M_Areas_spread.2.1 11 = .ok (.getfield 25, 3) := by decide +kernel
theorem d_Areas_spread_14 : decode M_Areas_spread.2.1 14 = .ok (.iload_n 2, 1) := by decide +kernel
theorem d_Areas_spread_15 : decode M_Areas_spread.2.1 15 = .ok (.iload_n 1, 1) := by decide +kernel
theorem d_Areas_spread_16 : decode M_Areas_spread.2.1 16 = .ok (.iastore, 1) := by decide +kernel
theorem d_Areas_spread_17 : decode M_Areas_spread.2.1 17 = .ok (.iload_n 2, 1) := by decide +kernel
theorem d_Areas_spread_18 : decode M_Areas_spread.2.1 18 = .ok (.iconst 1, 1) := by decide +kernel
theorem d_Areas_spread_19 : decode M_Areas_spread.2.1 19 = .ok (.iadd, 1) := by decide +kernel
theorem d_Areas_spread_20 : decode M_Areas_spread.2.1 20 = .ok (.istore 4, 2) := by decide +kernel
theorem d_Areas_spread_22 : decode M_Areas_spread.2.1 22 = .ok (.iload_n 2, 1) := by decide +kernel
theorem d_Areas_spread_23 : decode M_Areas_spread.2.1 23 = .ok (.istore 5, 2) := by decide +kernel
theorem d_Areas_spread_25 : decode M_Areas_spread.2.1 25 = .ok (.iload 5, 2) := by decide +kernel
theorem d_Areas_spread_27 : decode M_Areas_spread.2.1 27 = .ok (.iload 4, 2) := by decide +kernel
theorem d_Areas_spread_29 : decode M_Areas_spread.2.1 29 = .ok (.if_icmp .ge 104, 3) := by decide +kernel
theorem d_Areas_spread_32 : decode M_Areas_spread.2.1 32 = .ok (.iload 5, 2) := by decide +kernel
theorem d_Areas_spread_34 : decode M_Areas_spread.2.1 34 = .ok (.aload_n 0, 1) := by decide +kernel
theorem d_Areas_spread_35 : decode M_Areas_spread.2.1 35 = .ok (.getfield 9, 3) := by decide +kernel
theorem d_Areas_spread_38 : decode M_Areas_spread.2.1 38 = .ok (.getfield 15, 3) := by decide +kernel
theorem d_Areas_spread_41 : decode M_Areas_spread.2.1 41 = .ok (.if_icmp .ge 92, 3) := by decide +kernel
theorem d_Areas_spread_44 : decode M_Areas_spread.2.1 44 = .ok (.iconst 0, 1) := by decide +kernel
theorem d_Areas_spread_45 : decode M_Areas_spread.2.1 45 = .ok (.istore 6, 2) := by decide +kernel
theorem d_Areas_spread_47 : decode M_Areas_spread.2.1 47 = .ok (.iload 6, 2) := by decide +kernel
theorem d_Areas_spread_49 : decode M_Areas_spread.2.1 49 = .ok (.iconst 4, 1) := by decide +kernel
theorem d_Areas_spread_50 : decode M_Areas_spread.2.1 50 = .ok (.if_icmp .ge 77, 3) := by decide +kernel
theorem d_Areas_spread_53 : decode M_Areas_spread.2.1 53 = .ok (.aload_n 0, 1) := by decide +kernel
theorem d_Areas_spread_54 : decode M_Areas_spread.2.1 54 = .ok (.getfield 9, 3) := by decide +kernel
theorem d_Areas_spread_57 : decode M_Areas_spread.2.1 57 = .ok (.aload_n 0, 1) := by decide +kernel
theorem d_Areas_spread_58 : decode M_Areas_spread.2.1 58 = .ok (.getfield 25, 3) := by decide +kernel
theorem d_Areas_spread_61 : decode M_Areas_spread.2.1 61 = .ok (.iload 5, 2) := by decide +kernel
theorem d_Areas_spread_63 : decode M_Areas_spread.2.1 63 = .ok (.iaload, 1) := by decide +kernel
theorem d_Areas_spread_64 : decode M_Areas_spread.2.1 64 = .ok (.iload 6, 2) := by decide +kernel
theorem d_Areas_spread_66 : decode M_Areas_spread.2.1 66 = .ok (.invokevirtual 42, 3) := by decide +kernel
theorem d_Areas_spread_69 : decode M_Areas_spread.2.1 69 = .ok (.istore 7, 2) := by decide +kernel
theorem d_Areas_spread_71 : decode M_Areas_spread.2.1 71 = .ok (.iload 7, 2) := by decide +kernel
theorem d_Areas_spread_73 : decode M_Areas_spread.2.1 73 = .ok (.iconst (-1), 1) := by decide +kernel
theorem d_Areas_spread_74 : decode M_Areas_spread.2.1 74 = .ok (.if_icmp .eq 47, 3) := by decide +kernel
theorem d_Areas_spread_77 : decode M_Areas_spread.2.1 77 = .ok (.aload_n 0, 1) := by decide +kernel
theorem d_Areas_spread_78 : decode M_Areas_spread.2.1 78 = .ok (.getfield 21, 3) := by decide +kernel
theorem d_Areas_spread_81 : decode M_Areas_spread.2.1 81 = .ok (.iload 7, 2) := by decide +kernel
theorem d_Areas_spread_83 : decode M_Areas_spread.2.1 83 = .ok (.iaload, 1) := by decide +kernel
theorem d_Areas_spread_84 : decode M_Areas_spread.2.1 84 = .ok (.iconst (-1), 1) := by decide +kernel
theorem d_Areas_spread_85 : decode M_Areas_spread.2.1 85 = .ok (.if_icmp .ne 36, 3) := by decide +kernel
theorem d_Areas_spread_88 : decode M_Areas_spread.2.1 88 = .ok (.aload_n 3, 1) := by decide +kernel
theorem d_Areas_spread_89 : decode M_Areas_spread.2.1 89 = .ok (.iload 7, 2) := by decide +kernel
theorem d_Areas_spread_91 : decode M_Areas_spread.2.1 91 = .ok (.iaload, 1) := by decide +kernel
theorem d_Areas_spread_92 : decode M_Areas_spread.2.1 92 = .ok (.aload_n 3, 1) := by decide +kernel
theorem d_Areas_spread_93 : decode M_Areas_spread.2.1 93 = .ok (.iload_n 1, 1) := by decide +kernel
theorem d_Areas_spread_94 : decode M_Areas_spread.2.1 94 = .ok (.iaload, 1) := by decide +kernel
theorem d_Areas_spread_95 : decode M_Areas_spread.2.1 95 = .ok (.if_icmp .ne 26, 3) := by decide +kernel
theorem d_Areas_spread_98 : decode M_Areas_spread.2.1 98 = .ok (.aload_n 0, 1) := by decide +kernel
theorem d_Areas_spread_99 : decode M_Areas_spread.2.1 99 = .ok (.getfield 21, 3) := by decide +kernel
theorem d_Areas_spread_102 : decode M_Areas_spread.2.1 102 = .ok (.iload 7, 2) := by decide +kernel
theorem d_Areas_spread_104 : decode M_Areas_spread.2.1 104 = .ok (.aload_n 0, 1) := by decide +kernel
theorem d_Areas_spread_105 : decode M_Areas_spread.2.1 105 = .ok (.getfield 37, 3) := by decide +kernel
theorem d_Areas_spread_108 : decode M_Areas_spread.2.1 108 = .ok (.iastore, 1) := by decide +kernel
theorem d_Areas_spread_109 : decode M_Areas_spread.2.1 109 = .ok (.aload_n 0, 1) := by decide +kernel
theorem d_Areas_spread_110 : decode M_Areas_spread.2.1 110 = .ok (.getfield 25, 3) := by decide +kernel
theorem d_Areas_spread_113 : decode M_Areas_spread.2.1 113 = .ok (.iload 4, 2) := by decide +kernel
theorem d_Areas_spread_115 : decode M_Areas_spread.2.1 115 = .ok (.iload 7, 2) := by decide +kernel
theorem d_Areas_spread_117 : decode M_Areas_spread.2.1 117 = .ok (.iastore, 1) := by decide +kernel
theorem d_Areas_spread_118 : decode M_Areas_spread.2.1 118 = .ok (.iinc 4 1, 3) := by decide +kernel
theorem d_Areas_spread_121 : decode M_Areas_spread.2.1 121 = .ok (.iinc 6 1, 3) := by decide +kernel
theorem d_Areas_spread_124 : decode M_Areas_spread.2.1 124 = .ok (.goto (-77), 3) := by decide +kernel
theorem d_Areas_spread_127 : decode M_Areas_spread.2.1 127 = .ok (.iinc 5 1, 3) := by decide +kernel
theorem d_Areas_spread_130 : decode M_Areas_spread.2.1 130 = .ok (.goto (-105), 3) := by decide +kernel
theorem d_Areas_spread_133 : decode M_Areas_spread.2.1 133 = .ok (.iload 4, 2) := by decide +kernel
theorem d_Areas_spread_135 : decode M_Areas_spread.2.1 135 = .ok (.ireturn, 1) := by decide +kernel
theorem d_Grid_neighbour_0 : decode M_Grid_neighbour.2.1 0 = .ok (.aload_n 0, 1) := by decide +kernel
theorem d_Grid_neighbour_1 : decode M_Grid_neighbour.2.1 1 = .ok (.getfield 15, 3) := by decide +kernel
theorem d_Grid_neighbour_4 : decode M_Grid_neighbour.2.1 4 = .ok (.iconst 4, 1) := by decide +kernel
theorem d_Grid_neighbour_5 : decode M_Grid_neighbour.2.1 5 = .ok (.iload_n 1, 1) := by decide +kernel
theorem d_Grid_neighbour_6 : decode M_Grid_neighbour.2.1 6 = .ok (.imul, 1) := by decide +kernel
theorem d_Grid_neighbour_7 : decode M_Grid_neighbour.2.1 7 = .ok (.iload_n 2, 1) := by decide +kernel
theorem d_Grid_neighbour_8 : decode M_Grid_neighbour.2.1 8 = .ok (.iadd, 1) := by decide +kernel
theorem d_Grid_neighbour_9 : decode M_Grid_neighbour.2.1 9 = .ok (.iaload, 1) := by decide +kernel
theorem d_Grid_neighbour_10 : decode M_Grid_neighbour.2.1 10 = .ok (.ireturn, 1) := by decide +kernel
theorem d_Areas_leastOf_0 : decode M_Areas_leastOf.2.1 0 = .ok (.aload_n 0, 1) := by decide +kernel
theorem d_Areas_leastOf_1 : decode M_Areas_leastOf.2.1 1 = .ok (.getfield 25, 3) := by decide +kernel
theorem d_Areas_leastOf_4 : decode M_Areas_leastOf.2.1 4 = .ok (.aload_n 0, 1) := by decide +kernel
theorem d_Areas_leastOf_5 : decode M_Areas_leastOf.2.1 5 = .ok (.getfield 28, 3) := by decide +kernel
theorem d_Areas_leastOf_8 : decode M_Areas_leastOf.2.1 8 = .ok (.iload_n 1, 1) := by decide +kernel
theorem d_Areas_leastOf_9 : decode M_Areas_leastOf.2.1 9 = .ok (.iaload, 1) := by decide +kernel
theorem d_Areas_leastOf_10 : decode M_Areas_leastOf.2.1 10 = .ok (.iaload, 1) := by decide +kernel
theorem d_Areas_leastOf_11 : decode M_Areas_leastOf.2.1 11 = .ok (.ireturn, 1) := by decide +kernel
theorem d_Areas_sizeOf_0 : decode M_Areas_sizeOf.2.1 0 = .ok (.aload_n 0, 1) := by decide +kernel
theorem d_Areas_sizeOf_1 : decode M_Areas_sizeOf.2.1 1 = .ok (.getfield 28, 3) := by decide +kernel
theorem d_Areas_sizeOf_4 : decode M_Areas_sizeOf.2.1 4 = .ok (.iload_n 1, 1) := by decide +kernel
theorem d_Areas_sizeOf_5 : decode M_Areas_sizeOf.2.1 5 = .ok (.iconst 1, 1) := by decide +kernel
theorem d_Areas_sizeOf_6 : decode M_Areas_sizeOf.2.1 6 = .ok (.iadd, 1) := by decide +kernel
theorem d_Areas_sizeOf_7 : decode M_Areas_sizeOf.2.1 7 = .ok (.iaload, 1) := by decide +kernel
theorem d_Areas_sizeOf_8 : decode M_Areas_sizeOf.2.1 8 = .ok (.aload_n 0, 1) := by decide +kernel
theorem d_Areas_sizeOf_9 : decode M_Areas_sizeOf.2.1 9 = .ok (.getfield 28, 3) := by decide +kernel
theorem d_Areas_sizeOf_12 : decode M_Areas_sizeOf.2.1 12 = .ok (.iload_n 1, 1) := by decide +kernel
theorem d_Areas_sizeOf_13 : decode M_Areas_sizeOf.2.1 13 = .ok (.iaload, 1) := by decide +kernel
theorem d_Areas_sizeOf_14 : decode M_Areas_sizeOf.2.1 14 = .ok (.isub, 1) := by decide +kernel
theorem d_Areas_sizeOf_15 : decode M_Areas_sizeOf.2.1 15 = .ok (.ireturn, 1) := by decide +kernel
theorem d_Areas_pointOf_0 : decode M_Areas_pointOf.2.1 0 = .ok (.aload_n 0, 1) := by decide +kernel
theorem d_Areas_pointOf_1 : decode M_Areas_pointOf.2.1 1 = .ok (.getfield 25, 3) := by decide +kernel
theorem d_Areas_pointOf_4 : decode M_Areas_pointOf.2.1 4 = .ok (.aload_n 0, 1) := by decide +kernel
theorem d_Areas_pointOf_5 : decode M_Areas_pointOf.2.1 5 = .ok (.getfield 28, 3) := by decide +kernel
theorem d_Areas_pointOf_8 : decode M_Areas_pointOf.2.1 8 = .ok (.iload_n 1, 1) := by decide +kernel
theorem d_Areas_pointOf_9 : decode M_Areas_pointOf.2.1 9 = .ok (.iaload, 1) := by decide +kernel
theorem d_Areas_pointOf_10 : decode M_Areas_pointOf.2.1 10 = .ok (.iload_n 2, 1) := by decide +kernel
theorem d_Areas_pointOf_11 : decode M_Areas_pointOf.2.1 11 = .ok (.iadd, 1) := by decide +kernel
theorem d_Areas_pointOf_12 : decode M_Areas_pointOf.2.1 12 = .ok (.iaload, 1) := by decide +kernel
theorem d_Areas_pointOf_13 : decode M_Areas_pointOf.2.1 13 = .ok (.ireturn, 1) := by decide +kernel
theorem d_Packed_freeBoard_0 : decode M_Packed_freeBoard.2.1 0 = .ok (.iload_n 0, 1) := by decide +kernel
theorem d_Packed_freeBoard_1 : decode M_Packed_freeBoard.2.1 1 = .ok (.bipush 32, 2) := by decide +kernel
theorem d_Packed_freeBoard_3 : decode M_Packed_freeBoard.2.1 3 = .ok (.iadd, 1) := by decide +kernel
theorem d_Packed_freeBoard_4 : decode M_Packed_freeBoard.2.1 4 = .ok (.iconst 1, 1) := by decide +kernel
theorem d_Packed_freeBoard_5 : decode M_Packed_freeBoard.2.1 5 = .ok (.isub, 1) := by decide +kernel
theorem d_Packed_freeBoard_6 : decode M_Packed_freeBoard.2.1 6 = .ok (.bipush 32, 2) := by decide +kernel
theorem d_Packed_freeBoard_8 : decode M_Packed_freeBoard.2.1 8 = .ok (.idiv, 1) := by decide +kernel
theorem d_Packed_freeBoard_9 : decode M_Packed_freeBoard.2.1 9 = .ok (.newarray .long, 2) := by decide +kernel
theorem d_Packed_freeBoard_11 : decode M_Packed_freeBoard.2.1 11 = .ok (.areturn, 1) := by decide +kernel
theorem d_Pos_init_0 : decode M_Pos_init.2.1 0 = .ok (.aload_n 0, 1) := by decide +kernel
theorem d_Pos_init_1 : decode M_Pos_init.2.1 1 = .ok (.invokespecial 1, 3) := by decide +kernel
theorem d_Pos_init_4 : decode M_Pos_init.2.1 4 = .ok (.aload_n 0, 1) := by decide +kernel
theorem d_Pos_init_5 : decode M_Pos_init.2.1 5 = .ok (.aload_n 1, 1) := by decide +kernel
theorem d_Pos_init_6 : decode M_Pos_init.2.1 6 = .ok (.putfield 7, 3) := by decide +kernel
theorem d_Pos_init_9 : decode M_Pos_init.2.1 9 = .ok (.aload_n 0, 1) := by decide +kernel
theorem d_Pos_init_10 : decode M_Pos_init.2.1 10 = .ok (.aload_n 2, 1) := by decide +kernel
theorem d_Pos_init_11 : decode M_Pos_init.2.1 11 = .ok (.putfield 13, 3) := by decide +kernel
theorem d_Pos_init_14 : decode M_Pos_init.2.1 14 = .ok (.aload_n 0, 1) := by decide +kernel
theorem d_Pos_init_15 : decode M_Pos_init.2.1 15 = .ok (.aload_n 3, 1) := by decide +kernel
theorem d_Pos_init_16 : decode M_Pos_init.2.1 16 = .ok (.putfield 16, 3) := by decide +kernel
theorem d_Pos_init_19 : decode M_Pos_init.2.1 19 = .ok (.aload_n 0, 1) := by decide +kernel
theorem d_Pos_init_20 : decode M_Pos_init.2.1 20 = .ok (.aload_n 1, 1) := by decide +kernel
theorem d_Pos_init_21 : decode M_Pos_init.2.1 21 = .ok (.ifnonnull 7, 3) := by decide +kernel
theorem d_Pos_init_24 : decode M_Pos_init.2.1 24 = .ok (.iconst 0, 1) := by decide +kernel
theorem d_Pos_init_25 : decode M_Pos_init.2.1 25 = .ok (.goto 9, 3) := by decide +kernel
theorem d_Pos_init_28 : decode M_Pos_init.2.1 28 = .ok (.aload_n 1, 1) := by decide +kernel
theorem d_Pos_init_29 : decode M_Pos_init.2.1 29 = .ok (.getfield 20, 3) := by decide +kernel
theorem d_Pos_init_32 : decode M_Pos_init.2.1 32 = .ok (.iconst 1, 1) := by decide +kernel
theorem d_Pos_init_33 : decode M_Pos_init.2.1 33 = .ok (.iadd, 1) := by decide +kernel
theorem d_Pos_init_34 : decode M_Pos_init.2.1 34 = .ok (.putfield 20, 3) := by decide +kernel
theorem d_Pos_init_37 : decode M_Pos_init.2.1 37 = .ok (.aload_n 0, 1) := by decide +kernel
theorem d_Pos_init_38 : decode M_Pos_init.2.1 38 = .ok (.iload 4, 2) := by decide +kernel
theorem d_Pos_init_40 : decode M_Pos_init.2.1 40 = .ok (.putfield 24, 3) := by decide +kernel
theorem d_Pos_init_43 : decode M_Pos_init.2.1 43 = .ok (.aload_n 0, 1) := by decide +kernel
theorem d_Pos_init_44 : decode M_Pos_init.2.1 44 = .ok (.iload 5, 2) := by decide +kernel
theorem d_Pos_init_46 : decode M_Pos_init.2.1 46 = .ok (.putfield 27, 3) := by decide +kernel
theorem d_Pos_init_49 : decode M_Pos_init.2.1 49 = .ok (.aload_n 0, 1) := by decide +kernel
theorem d_Pos_init_50 : decode M_Pos_init.2.1 50 = .ok (.iload 6, 2) := by decide +kernel
theorem d_Pos_init_52 : decode M_Pos_init.2.1 52 = .ok (.putfield 30, 3) := by decide +kernel
theorem d_Pos_init_55 : decode M_Pos_init.2.1 55 = .ok (.return_, 1) := by decide +kernel
theorem d_Packed_setKind_0 : decode M_Packed_setKind.2.1 0 = .ok (.iload_n 1, 1) := by decide +kernel
theorem d_Packed_setKind_1 : decode M_Packed_setKind.2.1 1 = .ok (.bipush 32, 2) := by decide +kernel
theorem d_Packed_setKind_3 : decode M_Packed_setKind.2.1 3 = .ok (.idiv, 1) := by decide +kernel
theorem d_Packed_setKind_4 : decode M_Packed_setKind.2.1 4 = .ok (.istore_n 3, 1) := by decide +kernel
theorem d_Packed_setKind_5 : decode M_Packed_setKind.2.1 5 = .ok (.iconst 2, 1) := by decide +kernel
theorem d_Packed_setKind_6 : decode M_Packed_setKind.2.1 6 = .ok (.iload_n 1, 1) := by decide +kernel
theorem d_Packed_setKind_7 : decode M_Packed_setKind.2.1 7 = .ok (.bipush 32, 2) := by decide +kernel
theorem d_Packed_setKind_9 : decode M_Packed_setKind.2.1 9 = .ok (.irem, 1) := by decide +kernel
theorem d_Packed_setKind_10 : decode M_Packed_setKind.2.1 10 = .ok (.imul, 1) := by decide +kernel
theorem d_Packed_setKind_11 : decode M_Packed_setKind.2.1 11 = .ok (.istore 4, 2) := by decide +kernel
theorem d_Packed_setKind_13 : decode M_Packed_setKind.2.1 13 = .ok (.aload_n 0, 1) := by decide +kernel
theorem d_Packed_setKind_14 : decode M_Packed_setKind.2.1 14 = .ok (.iload_n 3, 1) := by decide +kernel
theorem d_Packed_setKind_15 : decode M_Packed_setKind.2.1 15 = .ok (.aload_n 0, 1) := by decide +kernel
theorem d_Packed_setKind_16 : decode M_Packed_setKind.2.1 16 = .ok (.iload_n 3, 1) := by decide +kernel
theorem d_Packed_setKind_17 : decode M_Packed_setKind.2.1 17 = .ok (.laload, 1) := by decide +kernel
theorem d_Packed_setKind_18 : decode M_Packed_setKind.2.1 18 = .ok (.ldc2_w 9, 3) := by decide +kernel
theorem d_Packed_setKind_21 : decode M_Packed_setKind.2.1 21 = .ok (.iload 4, 2) := by decide +kernel
theorem d_Packed_setKind_23 : decode M_Packed_setKind.2.1 23 = .ok (.lshl, 1) := by decide +kernel
theorem d_Packed_setKind_24 : decode M_Packed_setKind.2.1 24 = .ok (.ldc2_w 11, 3) := by decide +kernel
theorem d_Packed_setKind_27 : decode M_Packed_setKind.2.1 27 = .ok (.lxor, 1) := by decide +kernel
theorem d_Packed_setKind_28 : decode M_Packed_setKind.2.1 28 = .ok (.land, 1) := by decide +kernel
theorem d_Packed_setKind_29 : decode M_Packed_setKind.2.1 29 = .ok (.iload_n 2, 1) := by decide +kernel
theorem d_Packed_setKind_30 : decode M_Packed_setKind.2.1 30 = .ok (.i2l, 1) := by decide +kernel
theorem d_Packed_setKind_31 : decode M_Packed_setKind.2.1 31 = .ok (.iload 4, 2) := by decide +kernel
theorem d_Packed_setKind_33 : decode M_Packed_setKind.2.1 33 = .ok (.lshl, 1) := by decide +kernel
theorem d_Packed_setKind_34 : decode M_Packed_setKind.2.1 34 = .ok (.lor, 1) := by decide +kernel
theorem d_Packed_setKind_35 : decode M_Packed_setKind.2.1 35 = .ok (.lastore, 1) := by decide +kernel
theorem d_Packed_setKind_36 : decode M_Packed_setKind.2.1 36 = .ok (.return_, 1) := by decide +kernel
theorem d_Areas_areaAt_0 : decode M_Areas_areaAt.2.1 0 = .ok (.aload_n 0, 1) := by decide +kernel
theorem d_Areas_areaAt_1 : decode M_Areas_areaAt.2.1 1 = .ok (.getfield 21, 3) := by decide +kernel
theorem d_Areas_areaAt_4 : decode M_Areas_areaAt.2.1 4 = .ok (.iload_n 1, 1) := by decide +kernel
theorem d_Areas_areaAt_5 : decode M_Areas_areaAt.2.1 5 = .ok (.iaload, 1) := by decide +kernel
theorem d_Areas_areaAt_6 : decode M_Areas_areaAt.2.1 6 = .ok (.ireturn, 1) := by decide +kernel
theorem d_Packed_kindAt_0 : decode M_Packed_kindAt.2.1 0 = .ok (.iconst 2, 1) := by decide +kernel
theorem d_Packed_kindAt_1 : decode M_Packed_kindAt.2.1 1 = .ok (.iload_n 1, 1) := by decide +kernel
theorem d_Packed_kindAt_2 : decode M_Packed_kindAt.2.1 2 = .ok (.bipush 32, 2) := by decide +kernel
theorem d_Packed_kindAt_4 : decode M_Packed_kindAt.2.1 4 = .ok (.irem, 1) := by decide +kernel
theorem d_Packed_kindAt_5 : decode M_Packed_kindAt.2.1 5 = .ok (.imul, 1) := by decide +kernel
theorem d_Packed_kindAt_6 : decode M_Packed_kindAt.2.1 6 = .ok (.istore_n 2, 1) := by decide +kernel
theorem d_Packed_kindAt_7 : decode M_Packed_kindAt.2.1 7 = .ok (.aload_n 0, 1) := by decide +kernel
theorem d_Packed_kindAt_8 : decode M_Packed_kindAt.2.1 8 = .ok (.iload_n 1, 1) := by decide +kernel
theorem d_Packed_kindAt_9 : decode M_Packed_kindAt.2.1 9 = .ok (.bipush 32, 2) := by decide +kernel
theorem d_Packed_kindAt_11 : decode M_Packed_kindAt.2.1 11 = .ok (.idiv, 1) := by decide +kernel
theorem d_Packed_kindAt_12 : decode M_Packed_kindAt.2.1 12 = .ok (.laload, 1) := by decide +kernel
theorem d_Packed_kindAt_13 : decode M_Packed_kindAt.2.1 13 = .ok (.iload_n 2, 1) := by decide +kernel
theorem d_Packed_kindAt_14 : decode M_Packed_kindAt.2.1 14 = .ok (.lushr, 1) := by decide +kernel
theorem d_Packed_kindAt_15 : decode M_Packed_kindAt.2.1 15 = .ok (.ldc2_w 9, 3) := by decide +kernel
theorem d_Packed_kindAt_18 : decode M_Packed_kindAt.2.1 18 = .ok (.land, 1) := by decide +kernel
theorem d_Packed_kindAt_19 : decode M_Packed_kindAt.2.1 19 = .ok (.l2i, 1) := by decide +kernel
theorem d_Packed_kindAt_20 : decode M_Packed_kindAt.2.1 20 = .ok (.ireturn, 1) := by decide +kernel
theorem d_Pos_hasBoard_0 : decode M_Pos_hasBoard.2.1 0 = .ok (.iconst 0, 1) := by decide +kernel
theorem d_Pos_hasBoard_1 : decode M_Pos_hasBoard.2.1 1 = .ok (.istore_n 2, 1) := by decide +kernel
theorem d_Pos_hasBoard_2 : decode M_Pos_hasBoard.2.1 2 = .ok (.iload_n 2, 1) := by decide +kernel
theorem d_Pos_hasBoard_3 : decode M_Pos_hasBoard.2.1 3 = .ok (.aload_n 0, 1) := by decide +kernel
theorem d_Pos_hasBoard_4 : decode M_Pos_hasBoard.2.1 4 = .ok (.getfield 16, 3) := by decide +kernel
theorem d_Pos_hasBoard_7 : decode M_Pos_hasBoard.2.1 7 = .ok (.arraylength, 1) := by decide +kernel
theorem d_Pos_hasBoard_8 : decode M_Pos_hasBoard.2.1 8 = .ok (.if_icmp .ge 30, 3) := by decide +kernel
theorem d_Pos_hasBoard_11 : decode M_Pos_hasBoard.2.1 11 = .ok (.iload_n 2, 1) := by decide +kernel
theorem d_Pos_hasBoard_12 : decode M_Pos_hasBoard.2.1 12 = .ok (.aload_n 1, 1) := by decide +kernel
theorem d_Pos_hasBoard_13 : decode M_Pos_hasBoard.2.1 13 = .ok (.arraylength, 1) := by decide +kernel
theorem d_Pos_hasBoard_14 : decode M_Pos_hasBoard.2.1 14 = .ok (.if_icmp .ge 24, 3) := by decide +kernel
theorem d_Pos_hasBoard_17 : decode M_Pos_hasBoard.2.1 17 = .ok (.aload_n 0, 1) := by decide +kernel
theorem d_Pos_hasBoard_18 : decode M_Pos_hasBoard.2.1 18 = .ok (.getfield 16, 3) := by decide +kernel
theorem d_Pos_hasBoard_21 : decode M_Pos_hasBoard.2.1 21 = .ok (.iload_n 2, 1) := by decide +kernel
theorem d_Pos_hasBoard_22 : decode M_Pos_hasBoard.2.1 22 = .ok (.laload, 1) := by decide +kernel
theorem d_Pos_hasBoard_23 : decode M_Pos_hasBoard.2.1 23 = .ok (.aload_n 1, 1) := by decide +kernel
theorem d_Pos_hasBoard_24 : decode M_Pos_hasBoard.2.1 24 = .ok (.iload_n 2, 1) := by decide +kernel
theorem d_Pos_hasBoard_25 : decode M_Pos_hasBoard.2.1 25 = .ok (.laload, 1) := by decide +kernel
theorem d_Pos_hasBoard_26 : decode M_Pos_hasBoard.2.1 26 = .ok (.lcmp, 1) := by decide +kernel
theorem d_Pos_hasBoard_27 : decode M_Pos_hasBoard.2.1 27 = .ok (.ifCond .eq 5, 3) := by decide +kernel
theorem d_Pos_hasBoard_30 : decode M_Pos_hasBoard.2.1 30 = .ok (.iconst 0, 1) := by decide +kernel
theorem d_Pos_hasBoard_31 : decode M_Pos_hasBoard.2.1 31 = .ok (.ireturn, 1) := by decide +kernel
theorem d_Pos_hasBoard_32 : decode M_Pos_hasBoard.2.1 32 = .ok (.iinc 2 1, 3) := by decide +kernel
theorem d_Pos_hasBoard_35 : decode M_Pos_hasBoard.2.1 35 = .ok (.goto (-33), 3) := by decide +kernel
theorem d_Pos_hasBoard_38 : decode M_Pos_hasBoard.2.1 38 = .ok (.iconst 1, 1) := by decide +kernel
theorem d_Pos_hasBoard_39 : decode M_Pos_hasBoard.2.1 39 = .ok (.ireturn, 1) := by decide +kernel
theorem d_Packed_unpack_0 : decode M_Packed_unpack.2.1 0 = .ok (.iconst 0, 1) := by decide +kernel
theorem d_Packed_unpack_1 : decode M_Packed_unpack.2.1 1 = .ok (.istore_n 2, 1) := by decide +kernel
theorem d_Packed_unpack_2 : decode M_Packed_unpack.2.1 2 = .ok (.iload_n 2, 1) := by decide +kernel
theorem d_Packed_unpack_3 : decode M_Packed_unpack.2.1 3 = .ok (.aload_n 1, 1) := by decide +kernel
theorem d_Packed_unpack_4 : decode M_Packed_unpack.2.1 4 = .ok (.arraylength, 1) := by decide +kernel
theorem d_Packed_unpack_5 : decode M_Packed_unpack.2.1 5 = .ok (.if_icmp .ge 17, 3) := by decide +kernel
theorem d_Packed_unpack_8 : decode M_Packed_unpack.2.1 8 = .ok (.aload_n 1, 1) := by decide +kernel
theorem d_Packed_unpack_9 : decode M_Packed_unpack.2.1 9 = .ok (.iload_n 2, 1) := by decide +kernel
theorem d_Packed_unpack_10 : decode M_Packed_unpack.2.1 10 = .ok (.aload_n 0, 1) := by decide +kernel
theorem d_Packed_unpack_11 : decode M_Packed_unpack.2.1 11 = .ok (.iload_n 2, 1) := by decide +kernel
theorem d_Packed_unpack_12 : decode M_Packed_unpack.2.1 12 = .ok (.invokestatic 13, 3) := by decide +kernel
theorem d_Packed_unpack_15 : decode M_Packed_unpack.2.1 15 = .ok (.iastore, 1) := by decide +kernel
theorem d_Packed_unpack_16 : decode M_Packed_unpack.2.1 16 = .ok (.iinc 2 1, 3) := by decide +kernel
theorem d_Packed_unpack_19 : decode M_Packed_unpack.2.1 19 = .ok (.goto (-17), 3) := by decide +kernel
theorem d_Packed_unpack_22 : decode M_Packed_unpack.2.1 22 = .ok (.return_, 1) := by decide +kernel
