/-! Decode rows, printed. -/
theorem d_Ref_init_0 : decode M_Ref_init.2.1 0 = .ok (.aload_n 0, 1) := by decide +kernel
theorem d_Ref_init_1 : decode M_Ref_init.2.1 1 = .ok (.invokespecial 1, 3) := by decide +kernel
theorem d_Ref_init_4 : decode M_Ref_init.2.1 4 = .ok (.aload_n 0, 1) := by decide +kernel
theorem d_Ref_init_5 : decode M_Ref_init.2.1 5 = .ok (.sipush 169, 3) := by decide +kernel
theorem d_Ref_init_8 : decode M_Ref_init.2.1 8 = .ok (.newarray .int, 2) := by decide +kernel
theorem d_Ref_init_10 : decode M_Ref_init.2.1 10 = .ok (.putfield 7, 3) := by decide +kernel
theorem d_Ref_init_13 : decode M_Ref_init.2.1 13 = .ok (.aload_n 0, 1) := by decide +kernel
theorem d_Ref_init_14 : decode M_Ref_init.2.1 14 = .ok (.sipush 169, 3) := by decide +kernel
theorem d_Ref_init_17 : decode M_Ref_init.2.1 17 = .ok (.newarray .int, 2) := by decide +kernel
theorem d_Ref_init_19 : decode M_Ref_init.2.1 19 = .ok (.putfield 13, 3) := by decide +kernel
theorem d_Ref_init_22 : decode M_Ref_init.2.1 22 = .ok (.aload_n 0, 1) := by decide +kernel
theorem d_Ref_init_23 : decode M_Ref_init.2.1 23 = .ok (.ldc 16, 2) := by decide +kernel
theorem d_Ref_init_25 : decode M_Ref_init.2.1 25 = .ok (.newarray .byte, 2) := by decide +kernel
theorem d_Ref_init_27 : decode M_Ref_init.2.1 27 = .ok (.putfield 17, 3) := by decide +kernel
theorem d_Ref_init_30 : decode M_Ref_init.2.1 30 = .ok (.aload_n 0, 1) := by decide +kernel
theorem d_Ref_init_31 : decode M_Ref_init.2.1 31 = .ok (.sipush 1000, 3) := by decide +kernel
theorem d_Ref_init_34 : decode M_Ref_init.2.1 34 = .ok (.newarray .int, 2) := by decide +kernel
theorem d_Ref_init_36 : decode M_Ref_init.2.1 36 = .ok (.putfield 21, 3) := by decide +kernel
theorem d_Ref_init_39 : decode M_Ref_init.2.1 39 = .ok (.aload_n 0, 1) := by decide +kernel
theorem d_Ref_init_40 : decode M_Ref_init.2.1 40 = .ok (.sipush 1000, 3) := by decide +kernel
theorem d_Ref_init_43 : decode M_Ref_init.2.1 43 = .ok (.newarray .int, 2) := by decide +kernel
theorem d_Ref_init_45 : decode M_Ref_init.2.1 45 = .ok (.putfield 24, 3) := by decide +kernel
theorem d_Ref_init_48 : decode M_Ref_init.2.1 48 = .ok (.aload_n 0, 1) := by decide +kernel
theorem d_Ref_init_49 : decode M_Ref_init.2.1 49 = .ok (.sipush 1000, 3) := by decide +kernel
theorem d_Ref_init_52 : decode M_Ref_init.2.1 52 = .ok (.newarray .int, 2) := by decide +kernel
theorem d_Ref_init_54 : decode M_Ref_init.2.1 54 = .ok (.putfield 27, 3) := by decide +kernel
theorem d_Ref_init_57 : decode M_Ref_init.2.1 57 = .ok (.aload_n 0, 1) := by decide +kernel
theorem d_Ref_init_58 : decode M_Ref_init.2.1 58 = .ok (.iconst 1, 1) := by decide +kernel
theorem d_Ref_init_59 : decode M_Ref_init.2.1 59 = .ok (.putfield 30, 3) := by decide +kernel
theorem d_Ref_init_62 : decode M_Ref_init.2.1 62 = .ok (.aload_n 0, 1) := by decide +kernel
theorem d_Ref_init_63 : decode M_Ref_init.2.1 63 = .ok (.sipush 169, 3) := by decide +kernel
theorem d_Ref_init_66 : decode M_Ref_init.2.1 66 = .ok (.newarray .boolean, 2) := by decide +kernel
theorem d_Ref_init_68 : decode M_Ref_init.2.1 68 = .ok (.putfield 34, 3) := by decide +kernel
theorem d_Ref_init_71 : decode M_Ref_init.2.1 71 = .ok (.aload_n 0, 1) := by decide +kernel
theorem d_Ref_init_72 : decode M_Ref_init.2.1 72 = .ok (.sipush 169, 3) := by decide +kernel
theorem d_Ref_init_75 : decode M_Ref_init.2.1 75 = .ok (.newarray .int, 2) := by decide +kernel
theorem d_Ref_init_77 : decode M_Ref_init.2.1 77 = .ok (.putfield 38, 3) := by decide +kernel
theorem d_Ref_init_80 : decode M_Ref_init.2.1 80 = .ok (.aload_n 0, 1) := by decide +kernel
theorem d_Ref_init_81 : decode M_Ref_init.2.1 81 = .ok (.sipush 169, 3) := by decide +kernel
theorem d_Ref_init_84 : decode M_Ref_init.2.1 84 = .ok (.newarray .int, 2) := by decide +kernel
theorem d_Ref_init_86 : decode M_Ref_init.2.1 86 = .ok (.putfield 41, 3) := by decide +kernel
theorem d_Ref_init_89 : decode M_Ref_init.2.1 89 = .ok (.aload_n 0, 1) := by decide +kernel
theorem d_Ref_init_90 : decode M_Ref_init.2.1 90 = .ok (.sipush 169, 3) := by decide +kernel
theorem d_Ref_init_93 : decode M_Ref_init.2.1 93 = .ok (.newarray .int, 2) := by decide +kernel
theorem d_Ref_init_95 : decode M_Ref_init.2.1 95 = .ok (.putfield 44, 3) := by decide +kernel
theorem d_Ref_init_98 : decode M_Ref_init.2.1 98 = .ok (.aload_n 0, 1) := by decide +kernel
theorem d_Ref_init_99 : decode M_Ref_init.2.1 99 = .ok (.sipush 170, 3) := by decide +kernel
theorem d_Ref_init_102 : decode M_Ref_init.2.1 102 = .ok (.newarray .boolean, 2) := by decide +kernel
theorem d_Ref_init_104 : decode M_Ref_init.2.1 104 = .ok (.putfield 47, 3) := by decide +kernel
theorem d_Ref_init_107 : decode M_Ref_init.2.1 107 = .ok (.aload_n 0, 1) := by decide +kernel
theorem d_Ref_init_108 : decode M_Ref_init.2.1 108 = .ok (.sipush 170, 3) := by decide +kernel
theorem d_Ref_init_111 : decode M_Ref_init.2.1 111 = .ok (.newarray .boolean, 2) := by decide +kernel
theorem d_Ref_init_113 : decode M_Ref_init.2.1 113 = .ok (.putfield 50, 3) := by decide +kernel
theorem d_Ref_init_116 : decode M_Ref_init.2.1 116 = .ok (.aload_n 0, 1) := by decide +kernel
theorem d_Ref_init_117 : decode M_Ref_init.2.1 117 = .ok (.sipush 169, 3) := by decide +kernel
theorem d_Ref_init_120 : decode M_Ref_init.2.1 120 = .ok (.newarray .boolean, 2) := by decide +kernel
theorem d_Ref_init_122 : decode M_Ref_init.2.1 122 = .ok (.putfield 53, 3) := by decide +kernel
theorem d_Ref_init_125 : decode M_Ref_init.2.1 125 = .ok (.aload_n 0, 1) := by decide +kernel
theorem d_Ref_init_126 : decode M_Ref_init.2.1 126 = .ok (.sipush 170, 3) := by decide +kernel
theorem d_Ref_init_129 : decode M_Ref_init.2.1 129 = .ok (.newarray .boolean, 2) := by decide +kernel
theorem d_Ref_init_131 : decode M_Ref_init.2.1 131 = .ok (.putfield 56, 3) := by decide +kernel
theorem d_Ref_init_134 : decode M_Ref_init.2.1 134 = .ok (.aload_n 0, 1) := by decide +kernel
theorem d_Ref_init_135 : decode M_Ref_init.2.1 135 = .ok (.iload_n 1, 1) := by decide +kernel
theorem d_Ref_init_136 : decode M_Ref_init.2.1 136 = .ok (.iconst 2, 1) := by decide +kernel
theorem d_Ref_init_137 : decode M_Ref_init.2.1 137 = .ok (.if_icmp .ge 7, 3) := by decide +kernel
theorem d_Ref_init_140 : decode M_Ref_init.2.1 140 = .ok (.iconst 2, 1) := by decide +kernel
theorem d_Ref_init_141 : decode M_Ref_init.2.1 141 = .ok (.goto 15, 3) := by decide +kernel
theorem d_Ref_init_144 : decode M_Ref_init.2.1 144 = .ok (.iload_n 1, 1) := by decide +kernel
theorem d_Ref_init_145 : decode M_Ref_init.2.1 145 = .ok (.bipush 13, 2) := by decide +kernel
theorem d_Ref_init_147 : decode M_Ref_init.2.1 147 = .ok (.if_icmp .le 8, 3) := by decide +kernel
theorem d_Ref_init_150 : decode M_Ref_init.2.1 150 = .ok (.bipush 13, 2) := by decide +kernel
theorem d_Ref_init_152 : decode M_Ref_init.2.1 152 = .ok (.goto 4, 3) := by decide +kernel
theorem d_Ref_init_155 : decode M_Ref_init.2.1 155 = .ok (.iload_n 1, 1) := by decide +kernel
theorem d_Ref_init_156 : decode M_Ref_init.2.1 156 = .ok (.putfield 59, 3) := by decide +kernel
theorem d_Ref_init_159 : decode M_Ref_init.2.1 159 = .ok (.aload_n 0, 1) := by decide +kernel
theorem d_Ref_init_160 : decode M_Ref_init.2.1 160 = .ok (.aload_n 0, 1) := by decide +kernel
theorem d_Ref_init_161 : decode M_Ref_init.2.1 161 = .ok (.getfield 59, 3) := by decide +kernel
theorem d_Ref_init_164 : decode M_Ref_init.2.1 164 = .ok (.aload_n 0, 1) := by decide +kernel
theorem d_Ref_init_165 : decode M_Ref_init.2.1 165 = .ok (.getfield 59, 3) := by decide +kernel
theorem d_Ref_init_168 : decode M_Ref_init.2.1 168 = .ok (.imul, 1) := by decide +kernel
theorem d_Ref_init_169 : decode M_Ref_init.2.1 169 = .ok (.putfield 62, 3) := by decide +kernel
theorem d_Ref_init_172 : decode M_Ref_init.2.1 172 = .ok (.return_, 1) := by decide +kernel
theorem d_Ref_thrown_0 : decode M_Ref_thrown.2.1 0 = .ok (.aload_n 0, 1) := by decide +kernel
theorem d_Ref_thrown_1 : decode M_Ref_thrown.2.1 1 = .ok (.getfield 65, 3) := by decide +kernel
theorem d_Ref_thrown_4 : decode M_Ref_thrown.2.1 4 = .ok (.ireturn, 1) := by decide +kernel
theorem d_Ref_size_0 : decode M_Ref_size.2.1 0 = .ok (.aload_n 0, 1) := by decide +kernel
theorem d_Ref_size_1 : decode M_Ref_size.2.1 1 = .ok (.iconst 0, 1) := by decide +kernel
theorem d_Ref_size_2 : decode M_Ref_size.2.1 2 = .ok (.putfield 65, 3) := by decide +kernel
theorem d_Ref_size_5 : decode M_Ref_size.2.1 5 = .ok (.aload_n 0, 1) := by decide +kernel
theorem d_Ref_size_6 : decode M_Ref_size.2.1 6 = .ok (.getfield 59, 3) := by decide +kernel
theorem d_Ref_size_9 : decode M_Ref_size.2.1 9 = .ok (.ireturn, 1) := by decide +kernel
theorem d_Ref_at_0 : decode M_Ref_at.2.1 0 = .ok (.aload_n 0, 1) := by decide +kernel
theorem d_Ref_at_1 : decode M_Ref_at.2.1 1 = .ok (.iload_n 1, 1) := by decide +kernel
theorem d_Ref_at_2 : decode M_Ref_at.2.1 2 = .ok (.invokevirtual 118, 3) := by decide +kernel
theorem d_Ref_at_5 : decode M_Ref_at.2.1 5 = .ok (.ifCond .eq 7, 3) := by decide +kernel
theorem d_Ref_at_8 : decode M_Ref_at.2.1 8 = .ok (.iconst 0, 1) := by decide +kernel
theorem d_Ref_at_9 : decode M_Ref_at.2.1 9 = .ok (.goto 9, 3) := by decide +kernel
theorem d_Ref_at_12 : decode M_Ref_at.2.1 12 = .ok (.aload_n 0, 1) := by decide +kernel
theorem d_Ref_at_13 : decode M_Ref_at.2.1 13 = .ok (.getfield 7, 3) := by decide +kernel
theorem d_Ref_at_16 : decode M_Ref_at.2.1 16 = .ok (.iload_n 1, 1) := by decide +kernel
theorem d_Ref_at_17 : decode M_Ref_at.2.1 17 = .ok (.iaload, 1) := by decide +kernel
theorem d_Ref_at_18 : decode M_Ref_at.2.1 18 = .ok (.ireturn, 1) := by decide +kernel
theorem d_Ref_noPoint_0 : decode M_Ref_noPoint.2.1 0 = .ok (.aload_n 0, 1) := by decide +kernel
theorem d_Ref_noPoint_1 : decode M_Ref_noPoint.2.1 1 = .ok (.iload_n 1, 1) := by decide +kernel
theorem d_Ref_noPoint_2 : decode M_Ref_noPoint.2.1 2 = .ok (.ifCond .lt 11, 3) := by decide +kernel
theorem d_Ref_noPoint_5 : decode M_Ref_noPoint.2.1 5 = .ok (.iload_n 1, 1) := by decide +kernel
theorem d_Ref_noPoint_6 : decode M_Ref_noPoint.2.1 6 = .ok (.aload_n 0, 1) := by decide +kernel
theorem d_Ref_noPoint_7 : decode M_Ref_noPoint.2.1 7 = .ok (.getfield 62, 3) := by decide +kernel
theorem d_Ref_noPoint_10 : decode M_Ref_noPoint.2.1 10 = .ok (.if_icmp .lt 7, 3) := by decide +kernel
theorem d_Ref_noPoint_13 : decode M_Ref_noPoint.2.1 13 = .ok (.iconst 1, 1) := by decide +kernel
theorem d_Ref_noPoint_14 : decode M_Ref_noPoint.2.1 14 = .ok (.goto 4, 3) := by decide +kernel
theorem d_Ref_noPoint_17 : decode M_Ref_noPoint.2.1 17 = .ok (.iconst 0, 1) := by decide +kernel
theorem d_Ref_noPoint_18 : decode M_Ref_noPoint.2.1 18 = .ok (.putfield 65, 3) := by decide +kernel
theorem d_Ref_noPoint_21 : decode M_Ref_noPoint.2.1 21 = .ok (.aload_n 0, 1) := by decide +kernel
theorem d_Ref_noPoint_22 : decode M_Ref_noPoint.2.1 22 = .ok (.getfield 65, 3) := by decide +kernel
theorem d_Ref_noPoint_25 : decode M_Ref_noPoint.2.1 25 = .ok (.ifCond .le 7, 3) := by decide +kernel
theorem d_Ref_noPoint_28 : decode M_Ref_noPoint.2.1 28 = .ok (.iconst 1, 1) := by decide +kernel
theorem d_Ref_noPoint_29 : decode M_Ref_noPoint.2.1 29 = .ok (.goto 4, 3) := by decide +kernel
theorem d_Ref_noPoint_32 : decode M_Ref_noPoint.2.1 32 = .ok (.iconst 0, 1) := by decide +kernel
theorem d_Ref_noPoint_33 : decode M_Ref_noPoint.2.1 33 = .ok (.ireturn, 1) := by decide +kernel
theorem d_Ref_put_0 : decode M_Ref_put.2.1 0 = .ok (.aload_n 0, 1) := by decide +kernel
theorem d_Ref_put_1 : decode M_Ref_put.2.1 1 = .ok (.iload_n 1, 1) := by decide +kernel
theorem d_Ref_put_2 : decode M_Ref_put.2.1 2 = .ok (.invokevirtual 118, 3) := by decide +kernel
theorem d_Ref_put_5 : decode M_Ref_put.2.1 5 = .ok (.ifCond .eq 5, 3) := by decide +kernel
theorem d_Ref_put_8 : decode M_Ref_put.2.1 8 = .ok (.iconst 0, 1) := by decide +kernel
theorem d_Ref_put_9 : decode M_Ref_put.2.1 9 = .ok (.ireturn, 1) := by decide +kernel
theorem d_Ref_put_10 : decode M_Ref_put.2.1 10 = .ok (.aload_n 0, 1) := by decide +kernel
theorem d_Ref_put_11 : decode M_Ref_put.2.1 11 = .ok (.iload_n 2, 1) := by decide +kernel
theorem d_Ref_put_12 : decode M_Ref_put.2.1 12 = .ok (.ifCond .lt 8, 3) := by decide +kernel
theorem d_Ref_put_15 : decode M_Ref_put.2.1 15 = .ok (.iload_n 2, 1) := by decide +kernel
theorem d_Ref_put_16 : decode M_Ref_put.2.1 16 = .ok (.iconst 2, 1) := by decide +kernel
theorem d_Ref_put_17 : decode M_Ref_put.2.1 17 = .ok (.if_icmp .le 7, 3) := by decide +kernel
theorem d_Ref_put_20 : decode M_Ref_put.2.1 20 = .ok (.iconst 2, 1) := by decide +kernel
theorem d_Ref_put_21 : decode M_Ref_put.2.1 21 = .ok (.goto 15, 3) := by decide +kernel
theorem d_Ref_put_24 : decode M_Ref_put.2.1 24 = .ok (.aload_n 0, 1) := by decide +kernel
theorem d_Ref_put_25 : decode M_Ref_put.2.1 25 = .ok (.getfield 96, 3) := by decide +kernel
theorem d_Ref_put_28 : decode M_Ref_put.2.1 28 = .ok (.ifCond .le 7, 3) := by decide +kernel
theorem d_Ref_put_31 : decode M_Ref_put.2.1 31 = .ok (.iconst 3, 1) := by decide +kernel
theorem d_Ref_put_32 : decode M_Ref_put.2.1 32 = .ok (.goto 4, 3) := by decide +kernel
theorem d_Ref_put_35 : decode M_Ref_put.2.1 35 = .ok (.iconst 0, 1) := by decide +kernel
theorem d_Ref_put_36 : decode M_Ref_put.2.1 36 = .ok (.putfield 65, 3) := by decide +kernel
theorem d_Ref_put_39 : decode M_Ref_put.2.1 39 = .ok (.aload_n 0, 1) := by decide +kernel
theorem d_Ref_put_40 : decode M_Ref_put.2.1 40 = .ok (.getfield 65, 3) := by decide +kernel
theorem d_Ref_put_43 : decode M_Ref_put.2.1 43 = .ok (.ifCond .le 5, 3) := by decide +kernel
theorem d_Ref_put_46 : decode M_Ref_put.2.1 46 = .ok (.iconst 0, 1) := by decide +kernel
theorem d_Ref_put_47 : decode M_Ref_put.2.1 47 = .ok (.ireturn, 1) := by decide +kernel
theorem d_Ref_put_48 : decode M_Ref_put.2.1 48 = .ok (.aload_n 0, 1) := by decide +kernel
theorem d_Ref_put_49 : decode M_Ref_put.2.1 49 = .ok (.getfield 7, 3) := by decide +kernel
theorem d_Ref_put_52 : decode M_Ref_put.2.1 52 = .ok (.iload_n 1, 1) := by decide +kernel
theorem d_Ref_put_53 : decode M_Ref_put.2.1 53 = .ok (.iaload, 1) := by decide +kernel
theorem d_Ref_put_54 : decode M_Ref_put.2.1 54 = .ok (.istore_n 3, 1) := by decide +kernel
theorem d_Ref_put_55 : decode M_Ref_put.2.1 55 = .ok (.aload_n 0, 1) := by decide +kernel
theorem d_Ref_put_56 : decode M_Ref_put.2.1 56 = .ok (.getfield 7, 3) := by decide +kernel
theorem d_Ref_put_59 : decode M_Ref_put.2.1 59 = .ok (.iload_n 1, 1) := by decide +kernel
theorem d_Ref_put_60 : decode M_Ref_put.2.1 60 = .ok (.iload_n 2, 1) := by decide +kernel
theorem d_Ref_put_61 : decode M_Ref_put.2.1 61 = .ok (.iastore, 1) := by decide +kernel
theorem d_Ref_put_62 : decode M_Ref_put.2.1 62 = .ok (.aload_n 0, 1) := by decide +kernel
theorem d_Ref_put_63 : decode M_Ref_put.2.1 63 = .ok (.aload_n 0, 1) := by decide +kernel
theorem d_Ref_put_64 : decode M_Ref_put.2.1 64 = .ok (.getfield 7, 3) := by decide +kernel
theorem d_Ref_put_67 : decode M_Ref_put.2.1 67 = .ok (.invokevirtual 121, 3) := by decide +kernel
theorem d_Ref_put_70 : decode M_Ref_put.2.1 70 = .ok (.istore 4, 2) := by decide +kernel
theorem d_Ref_put_72 : decode M_Ref_put.2.1 72 = .ok (.aload_n 0, 1) := by decide +kernel
theorem d_Ref_put_73 : decode M_Ref_put.2.1 73 = .ok (.getfield 7, 3) := by decide +kernel
theorem d_Ref_put_76 : decode M_Ref_put.2.1 76 = .ok (.iload_n 1, 1) := by decide +kernel
theorem d_Ref_put_77 : decode M_Ref_put.2.1 77 = .ok (.iload 4, 2) := by decide +kernel
theorem d_Ref_put_79 : decode M_Ref_put.2.1 79 = .ok (.ifCond .eq 7, 3) := by decide +kernel
theorem d_Ref_put_82 : decode M_Ref_put.2.1 82 = .ok (.iload_n 2, 1) := by decide +kernel
theorem d_Ref_put_83 : decode M_Ref_put.2.1 83 = .ok (.goto 4, 3) := by decide +kernel
theorem d_Ref_put_86 : decode M_Ref_put.2.1 86 = .ok (.iload_n 3, 1) := by decide +kernel
theorem d_Ref_put_87 : decode M_Ref_put.2.1 87 = .ok (.iastore, 1) := by decide +kernel
theorem d_Ref_put_88 : decode M_Ref_put.2.1 88 = .ok (.aload_n 0, 1) := by decide +kernel
theorem d_Ref_put_89 : decode M_Ref_put.2.1 89 = .ok (.iconst 0, 1) := by decide +kernel
theorem d_Ref_put_90 : decode M_Ref_put.2.1 90 = .ok (.invokevirtual 125, 3) := by decide +kernel
theorem d_Ref_put_93 : decode M_Ref_put.2.1 93 = .ok (.iload 4, 2) := by decide +kernel
theorem d_Ref_put_95 : decode M_Ref_put.2.1 95 = .ok (.ireturn, 1) := by decide +kernel
theorem d_Ref_areBreathing_0 : decode M_Ref_areBreathing.2.1 0 = .ok (.iconst 1, 1) := by decide +kernel
theorem d_Ref_areBreathing_1 : decode M_Ref_areBreathing.2.1 1 = .ok (.istore_n 2, 1) := by decide +kernel
theorem d_Ref_areBreathing_2 : decode M_Ref_areBreathing.2.1 2 = .ok (.iconst 0, 1) := by decide +kernel
theorem d_Ref_areBreathing_3 : decode M_Ref_areBreathing.2.1 3 = .ok (.istore_n 3, 1) := by decide +kernel
theorem d_Ref_areBreathing_4 : decode M_Ref_areBreathing.2.1 4 = .ok (.iload_n 3, 1) := by decide +kernel
theorem d_Ref_areBreathing_5 : decode M_Ref_areBreathing.2.1 5 = .ok (.aload_n 0, 1) := by decide +kernel
theorem d_Ref_areBreathing_6 : decode M_Ref_areBreathing.2.1 6 = .ok (.getfield 62, 3) := by decide +kernel
theorem d_Ref_areBreathing_9 : decode M_Ref_areBreathing.2.1 9 = .ok (.if_icmp .ge 39, 3) := by decide +kernel
theorem d_Ref_areBreathing_12 : decode M_Ref_areBreathing.2.1 12 = .ok (.iload_n 2, 1) := by decide +kernel
theorem d_Ref_areBreathing_13 : decode M_Ref_areBreathing.2.1 13 = .ok (.ifCond .eq 35, 3) := by decide +kernel
theorem d_Ref_areBreathing_16 : decode M_Ref_areBreathing.2.1 16 = .ok (.aload_n 1, 1) := by decide +kernel
theorem d_Ref_areBreathing_17 : decode M_Ref_areBreathing.2.1 17 = .ok (.iload_n 3, 1) := by decide +kernel
theorem d_Ref_areBreathing_18 : decode M_Ref_areBreathing.2.1 18 = .ok (.iaload, 1) := by decide +kernel
theorem d_Ref_areBreathing_19 : decode M_Ref_areBreathing.2.1 19 = .ok (.ifCond .eq 23, 3) := by decide +kernel
theorem d_Ref_areBreathing_22 : decode M_Ref_areBreathing.2.1 22 = .ok (.aload_n 0, 1) := by decide +kernel
theorem d_Ref_areBreathing_23 : decode M_Ref_areBreathing.2.1 23 = .ok (.aload_n 1, 1) := by decide +kernel
theorem d_Ref_areBreathing_24 : decode M_Ref_areBreathing.2.1 24 = .ok (.iload_n 3, 1) := by decide +kernel
theorem d_Ref_areBreathing_25 : decode M_Ref_areBreathing.2.1 25 = .ok (.invokevirtual 82, 3) := by decide +kernel
theorem d_Ref_areBreathing_28 : decode M_Ref_areBreathing.2.1 28 = .ok (.aload_n 0, 1) := by decide +kernel
theorem d_Ref_areBreathing_29 : decode M_Ref_areBreathing.2.1 29 = .ok (.aload_n 1, 1) := by decide +kernel
theorem d_Ref_areBreathing_30 : decode M_Ref_areBreathing.2.1 30 = .ok (.invokevirtual 86, 3) := by decide +kernel
theorem d_Ref_areBreathing_33 : decode M_Ref_areBreathing.2.1 33 = .ok (.ifCond .le 7, 3) := by decide +kernel
theorem d_Ref_areBreathing_36 : decode M_Ref_areBreathing.2.1 36 = .ok (.iconst 1, 1) := by decide +kernel
theorem d_Ref_areBreathing_37 : decode M_Ref_areBreathing.2.1 37 = .ok (.goto 4, 3) := by decide +kernel
theorem d_Ref_areBreathing_40 : decode M_Ref_areBreathing.2.1 40 = .ok (.iconst 0, 1) := by decide +kernel
theorem d_Ref_areBreathing_41 : decode M_Ref_areBreathing.2.1 41 = .ok (.istore_n 2, 1) := by decide +kernel
theorem d_Ref_areBreathing_42 : decode M_Ref_areBreathing.2.1 42 = .ok (.iinc 3 1, 3) := by decide +kernel
theorem d_Ref_areBreathing_45 : decode M_Ref_areBreathing.2.1 45 = .ok (.goto (-41), 3) := by decide +kernel
theorem d_Ref_areBreathing_48 : decode M_Ref_areBreathing.2.1 48 = .ok (.iload_n 2, 1) := by decide +kernel
theorem d_Ref_areBreathing_49 : decode M_Ref_areBreathing.2.1 49 = .ok (.ireturn, 1) := by decide +kernel
theorem d_Ref_gather_0 : decode M_Ref_gather.2.1 0 = .ok (.iconst 0, 1) := by decide +kernel
theorem d_Ref_gather_1 : decode M_Ref_gather.2.1 1 = .ok (.istore_n 3, 1) := by decide +kernel
theorem d_Ref_gather_2 : decode M_Ref_gather.2.1 2 = .ok (.iload_n 3, 1) := by decide +kernel
theorem d_Ref_gather_3 : decode M_Ref_gather.2.1 3 = .ok (.aload_n 0, 1) := by decide +kernel
theorem d_Ref_gather_4 : decode M_Ref_gather.2.1 4 = .ok (.getfield 62, 3) := by decide +kernel
theorem d_Ref_gather_7 : decode M_Ref_gather.2.1 7 = .ok (.if_icmp .ge 16, 3) := by decide +kernel
theorem d_Ref_gather_10 : decode M_Ref_gather.2.1 10 = .ok (.aload_n 0, 1) := by decide +kernel
theorem d_Ref_gather_11 : decode M_Ref_gather.2.1 11 = .ok (.getfield 34, 3) := by decide +kernel
theorem d_Ref_gather_14 : decode M_Ref_gather.2.1 14 = .ok (.iload_n 3, 1) := by decide +kernel
theorem d_Ref_gather_15 : decode M_Ref_gather.2.1 15 = .ok (.iconst 0, 1) := by decide +kernel
theorem d_Ref_gather_16 : decode M_Ref_gather.2.1 16 = .ok (.bastore, 1) := by decide +kernel
theorem d_Ref_gather_17 : decode M_Ref_gather.2.1 17 = .ok (.iinc 3 1, 3) := by decide +kernel
theorem d_Ref_gather_20 : decode M_Ref_gather.2.1 20 = .ok (.goto (-18), 3) := by decide +kernel
theorem d_Ref_gather_23 : decode M_Ref_gather.2.1 23 = .ok (.aload_n 0, 1) := by decide +kernel
theorem d_Ref_gather_24 : decode M_Ref_gather.2.1 24 = .ok (.getfield 34, 3) := by decide +kernel
theorem d_Ref_gather_27 : decode M_Ref_gather.2.1 27 = .ok (.iload_n 2, 1) := by decide +kernel
theorem d_Ref_gather_28 : decode M_Ref_gather.2.1 28 = .ok (.iconst 1, 1) := by decide +kernel
theorem d_Ref_gather_29 : decode M_Ref_gather.2.1 29 = .ok (.bastore, 1) := by decide +kernel
theorem d_Ref_gather_30 : decode M_Ref_gather.2.1 30 = .ok (.aload_n 0, 1) := by decide +kernel
theorem d_Ref_gather_31 : decode M_Ref_gather.2.1 31 = .ok (.getfield 38, 3) := by decide +kernel
theorem d_Ref_gather_34 : decode M_Ref_gather.2.1 34 = .ok (.iconst 0, 1) := by decide +kernel
theorem d_Ref_gather_35 : decode M_Ref_gather.2.1 35 = .ok (.iload_n 2, 1) := by decide +kernel
theorem d_Ref_gather_36 : decode M_Ref_gather.2.1 36 = .ok (.iastore, 1) := by decide +kernel
theorem d_Ref_gather_37 : decode M_Ref_gather.2.1 37 = .ok (.aload_n 0, 1) := by decide +kernel
theorem d_Ref_gather_38 : decode M_Ref_gather.2.1 38 = .ok (.iconst 1, 1) := by decide +kernel
theorem d_Ref_gather_39 : decode M_Ref_gather.2.1 39 = .ok (.putfield 68, 3) := by decide +kernel
theorem d_Ref_gather_42 : decode M_Ref_gather.2.1 42 = .ok (.iconst 0, 1) := by decide +kernel
theorem d_Ref_gather_43 : decode M_Ref_gather.2.1 43 = .ok (.istore_n 3, 1) := by decide +kernel
theorem d_Ref_gather_44 : decode M_Ref_gather.2.1 44 = .ok (.iload_n 3, 1) := by decide +kernel
theorem d_Ref_gather_45 : decode M_Ref_gather.2.1 45 = .ok (.aload_n 0, 1) := by decide +kernel
theorem d_Ref_gather_46 : decode M_Ref_gather.2.1 46 = .ok (.getfield 68, 3) := by decide +kernel
theorem d_Ref_gather_49 : decode M_Ref_gather.2.1 49 = .ok (.if_icmp .ge 92, 3) := by decide +kernel
theorem d_Ref_gather_52 : decode M_Ref_gather.2.1 52 = .ok (.iconst 0, 1) := by decide +kernel
theorem d_Ref_gather_53 : decode M_Ref_gather.2.1 53 = .ok (.istore 4, 2) := by decide +kernel
theorem d_Ref_gather_55 : decode M_Ref_gather.2.1 55 = .ok (.iload 4, 2) := by decide +kernel
theorem d_Ref_gather_57 : decode M_Ref_gather.2.1 57 = .ok (.iconst 4, 1) := by decide +kernel
theorem d_Ref_gather_58 : decode M_Ref_gather.2.1 58 = .ok (.if_icmp .ge 77, 3) := by decide +kernel
theorem d_Ref_gather_61 : decode M_Ref_gather.2.1 61 = .ok (.aload_n 0, 1) := by decide +kernel
theorem d_Ref_gather_62 : decode M_Ref_gather.2.1 62 = .ok (.aload_n 0, 1) := by decide +kernel
theorem d_Ref_gather_63 : decode M_Ref_gather.2.1 63 = .ok (.getfield 38, 3) := by decide +kernel
theorem d_Ref_gather_66 : decode M_Ref_gather.2.1 66 = .ok (.iload_n 3, 1) := by decide +kernel
theorem d_Ref_gather_67 : decode M_Ref_gather.2.1 67 = .ok (.iaload, 1) := by decide +kernel
theorem d_Ref_gather_68 : decode M_Ref_gather.2.1 68 = .ok (.iload 4, 2) := by decide +kernel
theorem d_Ref_gather_70 : decode M_Ref_gather.2.1 70 = .ok (.invokevirtual 71, 3) := by decide +kernel
theorem d_Ref_gather_73 : decode M_Ref_gather.2.1 73 = .ok (.istore 5, 2) := by decide +kernel
theorem d_Ref_gather_75 : decode M_Ref_gather.2.1 75 = .ok (.iload 5, 2) := by decide +kernel
theorem d_Ref_gather_77 : decode M_Ref_gather.2.1 77 = .ok (.ifCond .lt 52, 3) := by decide +kernel
theorem d_Ref_gather_80 : decode M_Ref_gather.2.1 80 = .ok (.aload_n 0, 1) := by decide +kernel
theorem d_Ref_gather_81 : decode M_Ref_gather.2.1 81 = .ok (.getfield 34, 3) := by decide +kernel
theorem d_Ref_gather_84 : decode M_Ref_gather.2.1 84 = .ok (.iload 5, 2) := by decide +kernel
theorem d_Ref_gather_86 : decode M_Ref_gather.2.1 86 = .ok (.baload, 1) := by decide +kernel
theorem d_Ref_gather_87 : decode M_Ref_gather.2.1 87 = .ok (.ifCond .ne 42, 3) := by decide +kernel
theorem d_Ref_gather_90 : decode M_Ref_gather.2.1 90 = .ok (.aload_n 1, 1) := by decide +kernel
theorem d_Ref_gather_91 : decode M_Ref_gather.2.1 91 = .ok (.iload 5, 2) := by decide +kernel
theorem d_Ref_gather_93 : decode M_Ref_gather.2.1 93 = .ok (.iaload, 1) := by decide +kernel
theorem d_Ref_gather_94 : decode M_Ref_gather.2.1 94 = .ok (.aload_n 1, 1) := by decide +kernel
theorem d_Ref_gather_95 : decode M_Ref_gather.2.1 95 = .ok (.iload_n 2, 1) := by decide +kernel
theorem d_Ref_gather_96 : decode M_Ref_gather.2.1 96 = .ok (.iaload, 1) := by decide +kernel
theorem d_Ref_gather_97 : decode M_Ref_gather.2.1 97 = .ok (.if_icmp .ne 32, 3) := by decide +kernel
theorem d_Ref_gather_100 : decode M_Ref_gather.2.1 100 = .ok (.aload_n 0, 1) := by decide +kernel
theorem d_Ref_gather_101 : decode M_Ref_gather.2.1 101 = .ok (.getfield 34, 3) := by decide +kernel
theorem d_Ref_gather_104 : decode M_Ref_gather.2.1 104 = .ok (.iload 5, 2) := by decide +kernel
theorem d_Ref_gather_106 : decode M_Ref_gather.2.1 106 = .ok (.iconst 1, 1) := by decide +kernel
theorem d_Ref_gather_107 : decode M_Ref_gather.2.1 107 = .ok (.bastore, 1) := by decide +kernel
theorem d_Ref_gather_108 : decode M_Ref_gather.2.1 108 = .ok (.aload_n 0, 1) := by decide +kernel
theorem d_Ref_gather_109 : decode M_Ref_gather.2.1 109 = .ok (.getfield 38, 3) := by decide +kernel
theorem d_Ref_gather_112 : decode M_Ref_gather.2.1 112 = .ok (.aload_n 0, 1) := by decide +kernel
theorem d_Ref_gather_113 : decode M_Ref_gather.2.1 113 = .ok (.getfield 68, 3) := by decide +kernel
theorem d_Ref_gather_116 : decode M_Ref_gather.2.1 116 = .ok (.iload 5, 2) := by decide +kernel
theorem d_Ref_gather_118 : decode M_Ref_gather.2.1 118 = .ok (.iastore, 1) := by decide +kernel
theorem d_Ref_gather_119 : decode M_Ref_gather.2.1 119 = .ok (.aload_n 0, 1) := by decide +kernel
theorem d_Ref_gather_120 : decode M_Ref_gather.2.1 120 = .ok (.dup, 1) := by decide +kernel
theorem d_Ref_gather_121 : decode M_Ref_gather.2.1 121 = .ok (.getfield 68, 3) := by decide +kernel
theorem d_Ref_gather_124 : decode M_Ref_gather.2.1 124 = .ok (.iconst 1, 1) := by decide +kernel
theorem d_Ref_gather_125 : decode M_Ref_gather.2.1 125 = .ok (.iadd, 1) := by decide +kernel
theorem d_Ref_gather_126 : decode M_Ref_gather.2.1 126 = .ok (.putfield 68, 3) := by decide +kernel
theorem d_Ref_gather_129 : decode M_Ref_gather.2.1 129 = .ok (.iinc 4 1, 3) := by decide +kernel
theorem d_Ref_gather_132 : decode M_Ref_gather.2.1 132 = .ok (.goto (-77), 3) := by decide +kernel
theorem d_Ref_gather_135 : decode M_Ref_gather.2.1 135 = .ok (.iinc 3 1, 3) := by decide +kernel
theorem d_Ref_gather_138 : decode M_Ref_gather.2.1 138 = .ok (.goto (-94), 3) := by decide +kernel
theorem d_Ref_gather_141 : decode M_Ref_gather.2.1 141 = .ok (.return_, 1) := by decide +kernel
theorem d_Ref_beside_0 : decode M_Ref_beside.2.1 0 = .ok (.iload_n 1, 1) := by decide +kernel
theorem d_Ref_beside_1 : decode M_Ref_beside.2.1 1 = .ok (.aload_n 0, 1) := by decide +kernel
theorem d_Ref_beside_2 : decode M_Ref_beside.2.1 2 = .ok (.getfield 59, 3) := by decide +kernel
theorem d_Ref_beside_5 : decode M_Ref_beside.2.1 5 = .ok (.idiv, 1) := by decide +kernel
theorem d_Ref_beside_6 : decode M_Ref_beside.2.1 6 = .ok (.istore_n 3, 1) := by decide +kernel
theorem d_Ref_beside_7 : decode M_Ref_beside.2.1 7 = .ok (.iload_n 1, 1) := by decide +kernel
theorem d_Ref_beside_8 : decode M_Ref_beside.2.1 8 = .ok (.aload_n 0, 1) := by decide +kernel
theorem d_Ref_beside_9 : decode M_Ref_beside.2.1 9 = .ok (.getfield 59, 3) := by decide +kernel
theorem d_Ref_beside_12 : decode M_Ref_beside.2.1 12 = .ok (.irem, 1) := by decide +kernel
theorem d_Ref_beside_13 : decode M_Ref_beside.2.1 13 = .ok (.istore 4, 2) := by decide +kernel
theorem d_Ref_beside_15 : decode M_Ref_beside.2.1 15 = .ok (.iload_n 2, 1) := by decide +kernel
theorem d_Ref_beside_16 : decode M_Ref_beside.2.1 16 = .ok (.tableswitch 77 0 2 #[28, 43, 64], 28) := by decide +kernel
theorem d_Ref_beside_44 : decode M_Ref_beside.2.1 44 = .ok (.iload_n 3, 1) := by decide +kernel
theorem d_Ref_beside_45 : decode M_Ref_beside.2.1 45 = .ok (.ifCond .le 12, 3) := by decide +kernel
theorem d_Ref_beside_48 : decode M_Ref_beside.2.1 48 = .ok (.iload_n 1, 1) := by decide +kernel
theorem d_Ref_beside_49 : decode M_Ref_beside.2.1 49 = .ok (.aload_n 0, 1) := by decide +kernel
theorem d_Ref_beside_50 : decode M_Ref_beside.2.1 50 = .ok (.getfield 59, 3) := by decide +kernel
theorem d_Ref_beside_53 : decode M_Ref_beside.2.1 53 = .ok (.isub, 1) := by decide +kernel
theorem d_Ref_beside_54 : decode M_Ref_beside.2.1 54 = .ok (.goto 4, 3) := by decide +kernel
theorem d_Ref_beside_57 : decode M_Ref_beside.2.1 57 = .ok (.iconst (-1), 1) := by decide +kernel
theorem d_Ref_beside_58 : decode M_Ref_beside.2.1 58 = .ok (.ireturn, 1) := by decide +kernel
theorem d_Ref_beside_59 : decode M_Ref_beside.2.1 59 = .ok (.iload_n 3, 1) := by decide +kernel
theorem d_Ref_beside_60 : decode M_Ref_beside.2.1 60 = .ok (.aload_n 0, 1) := by decide +kernel
theorem d_Ref_beside_61 : decode M_Ref_beside.2.1 61 = .ok (.getfield 59, 3) := by decide +kernel
theorem d_Ref_beside_64 : decode M_Ref_beside.2.1 64 = .ok (.iconst 1, 1) := by decide +kernel
theorem d_Ref_beside_65 : decode M_Ref_beside.2.1 65 = .ok (.isub, 1) := by decide +kernel
theorem d_Ref_beside_66 : decode M_Ref_beside.2.1 66 = .ok (.if_icmp .ge 12, 3) := by decide +kernel
theorem d_Ref_beside_69 : decode M_Ref_beside.2.1 69 = .ok (.iload_n 1, 1) := by decide +kernel
theorem d_Ref_beside_70 : decode M_Ref_beside.2.1 70 = .ok (.aload_n 0, 1) := by decide +kernel
theorem d_Ref_beside_71 : decode M_Ref_beside.2.1 71 = .ok (.getfield 59, 3) := by decide +kernel
theorem d_Ref_beside_74 : decode M_Ref_beside.2.1 74 = .ok (.iadd, 1) := by decide +kernel
theorem d_Ref_beside_75 : decode M_Ref_beside.2.1 75 = .ok (.goto 4, 3) := by decide +kernel
theorem d_Ref_beside_78 : decode M_Ref_beside.2.1 78 = .ok (.iconst (-1), 1) := by decide +kernel
theorem d_Ref_beside_79 : decode M_Ref_beside.2.1 79 = .ok (.ireturn, 1) := by decide +kernel
theorem d_Ref_beside_80 : decode M_Ref_beside.2.1 80 = .ok (.iload 4, 2) := by decide +kernel
theorem d_Ref_beside_82 : decode M_Ref_beside.2.1 82 = .ok (.ifCond .le 9, 3) := by decide +kernel
theorem d_Ref_beside_85 : decode M_Ref_beside.2.1 85 = .ok (.iload_n 1, 1) := by decide +kernel
theorem d_Ref_beside_86 : decode M_Ref_beside.2.1 86 = .ok (.iconst 1, 1) := by decide +kernel
theorem d_Ref_beside_87 : decode M_Ref_beside.2.1 87 = .ok (.isub, 1) := by decide +kernel
theorem d_Ref_beside_88 : decode M_Ref_beside.2.1 88 = .ok (.goto 4, 3) := by decide +kernel
theorem d_Ref_beside_91 : decode M_Ref_beside.2.1 91 = .ok (.iconst (-1), 1) := by decide +kernel
theorem d_Ref_beside_92 : decode M_Ref_beside.2.1 92 = .ok (.ireturn, 1) := by decide +kernel
theorem d_Ref_beside_93 : decode M_Ref_beside.2.1 93 = .ok (.iload 4, 2) := by decide +kernel
theorem d_Ref_beside_95 : decode M_Ref_beside.2.1 95 = .ok (.aload_n 0, 1) := by decide +kernel
theorem d_Ref_beside_96 : decode M_Ref_beside.2.1 96 = .ok (.getfield 59, 3) := by decide +kernel
theorem d_Ref_beside_99 : decode M_Ref_beside.2.1 99 = .ok (.iconst 1, 1) := by decide +kernel
theorem d_Ref_beside_100 : decode M_Ref_beside.2.1 100 = .ok (.isub, 1) := by decide +kernel
theorem d_Ref_beside_101 : decode M_Ref_beside.2.1 101 = .ok (.if_icmp .ge 9, 3) := by decide +kernel
theorem d_Ref_beside_104 : decode M_Ref_beside.2.1 104 = .ok (.iload_n 1, 1) := by decide +kernel
theorem d_Ref_beside_105 : decode M_Ref_beside.2.1 105 = .ok (.iconst 1, 1) := by decide +kernel
theorem d_Ref_beside_106 : decode M_Ref_beside.2.1 106 = .ok (.iadd, 1) := by decide +kernel
theorem d_Ref_beside_107 : decode M_Ref_beside.2.1 107 = .ok (.goto 4, 3) := by decide +kernel
theorem d_Ref_beside_110 : decode M_Ref_beside.2.1 110 = .ok (.iconst (-1), 1) := by decide +kernel
theorem d_Ref_beside_111 : decode M_Ref_beside.2.1 111 = .ok (.ireturn, 1) := by decide +kernel
theorem d_Ref_breaths_0 : decode M_Ref_breaths.2.1 0 = .ok (.iconst 0, 1) := by decide +kernel
theorem d_Ref_breaths_1 : decode M_Ref_breaths.2.1 1 = .ok (.istore_n 2, 1) := by decide +kernel
theorem d_Ref_breaths_2 : decode M_Ref_breaths.2.1 2 = .ok (.iconst 0, 1) := by decide +kernel
theorem d_Ref_breaths_3 : decode M_Ref_breaths.2.1 3 = .ok (.istore_n 3, 1) := by decide +kernel
theorem d_Ref_breaths_4 : decode M_Ref_breaths.2.1 4 = .ok (.iload_n 3, 1) := by decide +kernel
theorem d_Ref_breaths_5 : decode M_Ref_breaths.2.1 5 = .ok (.aload_n 0, 1) := by decide +kernel
theorem d_Ref_breaths_6 : decode M_Ref_breaths.2.1 6 = .ok (.getfield 62, 3) := by decide +kernel
theorem d_Ref_breaths_9 : decode M_Ref_breaths.2.1 9 = .ok (.if_icmp .ge 26, 3) := by decide +kernel
theorem d_Ref_breaths_12 : decode M_Ref_breaths.2.1 12 = .ok (.aload_n 0, 1) := by decide +kernel
theorem d_Ref_breaths_13 : decode M_Ref_breaths.2.1 13 = .ok (.aload_n 1, 1) := by decide +kernel
theorem d_Ref_breaths_14 : decode M_Ref_breaths.2.1 14 = .ok (.iload_n 3, 1) := by decide +kernel
theorem d_Ref_breaths_15 : decode M_Ref_breaths.2.1 15 = .ok (.invokevirtual 75, 3) := by decide +kernel
theorem d_Ref_breaths_18 : decode M_Ref_breaths.2.1 18 = .ok (.ifCond .eq 9, 3) := by decide +kernel
theorem d_Ref_breaths_21 : decode M_Ref_breaths.2.1 21 = .ok (.iload_n 2, 1) := by decide +kernel
theorem d_Ref_breaths_22 : decode M_Ref_breaths.2.1 22 = .ok (.iconst 1, 1) := by decide +kernel
theorem d_Ref_breaths_23 : decode M_Ref_breaths.2.1 23 = .ok (.iadd, 1) := by decide +kernel
theorem d_Ref_breaths_24 : decode M_Ref_breaths.2.1 24 = .ok (.goto 4, 3) := by decide +kernel
theorem d_Ref_breaths_27 : decode M_Ref_breaths.2.1 27 = .ok (.iload_n 2, 1) := by decide +kernel
theorem d_Ref_breaths_28 : decode M_Ref_breaths.2.1 28 = .ok (.istore_n 2, 1) := by decide +kernel
theorem d_Ref_breaths_29 : decode M_Ref_breaths.2.1 29 = .ok (.iinc 3 1, 3) := by decide +kernel
theorem d_Ref_breaths_32 : decode M_Ref_breaths.2.1 32 = .ok (.goto (-28), 3) := by decide +kernel
theorem d_Ref_breaths_35 : decode M_Ref_breaths.2.1 35 = .ok (.iload_n 2, 1) := by decide +kernel
theorem d_Ref_breaths_36 : decode M_Ref_breaths.2.1 36 = .ok (.ireturn, 1) := by decide +kernel
theorem d_Ref_isBreath_0 : decode M_Ref_isBreath.2.1 0 = .ok (.iconst 0, 1) := by decide +kernel
theorem d_Ref_isBreath_1 : decode M_Ref_isBreath.2.1 1 = .ok (.istore_n 3, 1) := by decide +kernel
theorem d_Ref_isBreath_2 : decode M_Ref_isBreath.2.1 2 = .ok (.iconst 0, 1) := by decide +kernel
theorem d_Ref_isBreath_3 : decode M_Ref_isBreath.2.1 3 = .ok (.istore 4, 2) := by decide +kernel
theorem d_Ref_isBreath_5 : decode M_Ref_isBreath.2.1 5 = .ok (.iload 4, 2) := by decide +kernel
theorem d_Ref_isBreath_7 : decode M_Ref_isBreath.2.1 7 = .ok (.iconst 4, 1) := by decide +kernel
theorem d_Ref_isBreath_8 : decode M_Ref_isBreath.2.1 8 = .ok (.if_icmp .ge 49, 3) := by decide +kernel
theorem d_Ref_isBreath_11 : decode M_Ref_isBreath.2.1 11 = .ok (.aload_n 1, 1) := by decide +kernel
theorem d_Ref_isBreath_12 : decode M_Ref_isBreath.2.1 12 = .ok (.iload_n 2, 1) := by decide +kernel
theorem d_Ref_isBreath_13 : decode M_Ref_isBreath.2.1 13 = .ok (.iaload, 1) := by decide +kernel
theorem d_Ref_isBreath_14 : decode M_Ref_isBreath.2.1 14 = .ok (.ifCond .ne 43, 3) := by decide +kernel
theorem d_Ref_isBreath_17 : decode M_Ref_isBreath.2.1 17 = .ok (.aload_n 0, 1) := by decide +kernel
theorem d_Ref_isBreath_18 : decode M_Ref_isBreath.2.1 18 = .ok (.iload_n 2, 1) := by decide +kernel
theorem d_Ref_isBreath_19 : decode M_Ref_isBreath.2.1 19 = .ok (.iload 4, 2) := by decide +kernel
theorem d_Ref_isBreath_21 : decode M_Ref_isBreath.2.1 21 = .ok (.invokevirtual 71, 3) := by decide +kernel
theorem d_Ref_isBreath_24 : decode M_Ref_isBreath.2.1 24 = .ok (.istore 5, 2) := by decide +kernel
theorem d_Ref_isBreath_26 : decode M_Ref_isBreath.2.1 26 = .ok (.iload_n 3, 1) := by decide +kernel
theorem d_Ref_isBreath_27 : decode M_Ref_isBreath.2.1 27 = .ok (.ifCond .ne 18, 3) := by decide +kernel
theorem d_Ref_isBreath_30 : decode M_Ref_isBreath.2.1 30 = .ok (.iload 5, 2) := by decide +kernel
theorem d_Ref_isBreath_32 : decode M_Ref_isBreath.2.1 32 = .ok (.ifCond .lt 17, 3) := by decide +kernel
theorem d_Ref_isBreath_35 : decode M_Ref_isBreath.2.1 35 = .ok (.aload_n 0, 1) := by decide +kernel
theorem d_Ref_isBreath_36 : decode M_Ref_isBreath.2.1 36 = .ok (.getfield 34, 3) := by decide +kernel
theorem d_Ref_isBreath_39 : decode M_Ref_isBreath.2.1 39 = .ok (.iload 5, 2) := by decide +kernel
theorem d_Ref_isBreath_41 : decode M_Ref_isBreath.2.1 41 = .ok (.baload, 1) := by decide +kernel
theorem d_Ref_isBreath_42 : decode M_Ref_isBreath.2.1 42 = .ok (.ifCond .eq 7, 3) := by decide +kernel
theorem d_Ref_isBreath_45 : decode M_Ref_isBreath.2.1 45 = .ok (.iconst 1, 1) := by decide +kernel
theorem d_Ref_isBreath_46 : decode M_Ref_isBreath.2.1 46 = .ok (.goto 4, 3) := by decide +kernel
theorem d_Ref_isBreath_49 : decode M_Ref_isBreath.2.1 49 = .ok (.iconst 0, 1) := by decide +kernel
theorem d_Ref_isBreath_50 : decode M_Ref_isBreath.2.1 50 = .ok (.istore_n 3, 1) := by decide +kernel
theorem d_Ref_isBreath_51 : decode M_Ref_isBreath.2.1 51 = .ok (.iinc 4 1, 3) := by decide +kernel
theorem d_Ref_isBreath_54 : decode M_Ref_isBreath.2.1 54 = .ok (.goto (-49), 3) := by decide +kernel
theorem d_Ref_isBreath_57 : decode M_Ref_isBreath.2.1 57 = .ok (.iload_n 3, 1) := by decide +kernel
theorem d_Ref_isBreath_58 : decode M_Ref_isBreath.2.1 58 = .ok (.ireturn, 1) := by decide +kernel
theorem d_Ref_keep_0 : decode M_Ref_keep.2.1 0 = .ok (.iconst 0, 1) := by decide +kernel
theorem d_Ref_keep_1 : decode M_Ref_keep.2.1 1 = .ok (.istore_n 2, 1) := by decide +kernel
theorem d_Ref_keep_2 : decode M_Ref_keep.2.1 2 = .ok (.iload_n 2, 1) := by decide +kernel
theorem d_Ref_keep_3 : decode M_Ref_keep.2.1 3 = .ok (.aload_n 0, 1) := by decide +kernel
theorem d_Ref_keep_4 : decode M_Ref_keep.2.1 4 = .ok (.getfield 62, 3) := by decide +kernel
theorem d_Ref_keep_7 : decode M_Ref_keep.2.1 7 = .ok (.if_icmp .ge 28, 3) := by decide +kernel
theorem d_Ref_keep_10 : decode M_Ref_keep.2.1 10 = .ok (.aload_n 0, 1) := by decide +kernel
theorem d_Ref_keep_11 : decode M_Ref_keep.2.1 11 = .ok (.getfield 17, 3) := by decide +kernel
theorem d_Ref_keep_14 : decode M_Ref_keep.2.1 14 = .ok (.sipush 169, 3) := by decide +kernel
theorem d_Ref_keep_17 : decode M_Ref_keep.2.1 17 = .ok (.iload_n 1, 1) := by decide +kernel
theorem d_Ref_keep_18 : decode M_Ref_keep.2.1 18 = .ok (.imul, 1) := by decide +kernel
theorem d_Ref_keep_19 : decode M_Ref_keep.2.1 19 = .ok (.iload_n 2, 1) := by decide +kernel
theorem d_Ref_keep_20 : decode M_Ref_keep.2.1 20 = .ok (.iadd, 1) := by decide +kernel
theorem d_Ref_keep_21 : decode M_Ref_keep.2.1 21 = .ok (.aload_n 0, 1) := by decide +kernel
theorem d_Ref_keep_22 : decode M_Ref_keep.2.1 22 = .ok (.getfield 7, 3) := by decide +kernel
theorem d_Ref_keep_25 : decode M_Ref_keep.2.1 25 = .ok (.iload_n 2, 1) := by decide +kernel
theorem d_Ref_keep_26 : decode M_Ref_keep.2.1 26 = .ok (.iaload, 1) := by decide +kernel
theorem d_Ref_keep_27 : decode M_Ref_keep.2.1 27 = .ok (.i2b, 1) := by decide +kernel
theorem d_Ref_keep_28 : decode M_Ref_keep.2.1 28 = .ok (.bastore, 1) := by decide +kernel
theorem d_Ref_keep_29 : decode M_Ref_keep.2.1 29 = .ok (.iinc 2 1, 3) := by decide +kernel
theorem d_Ref_keep_32 : decode M_Ref_keep.2.1 32 = .ok (.goto (-30), 3) := by decide +kernel
theorem d_Ref_keep_35 : decode M_Ref_keep.2.1 35 = .ok (.return_, 1) := by decide +kernel
theorem d_Ref_first_0 : decode M_Ref_first.2.1 0 = .ok (.aload_n 0, 1) := by decide +kernel
theorem d_Ref_first_1 : decode M_Ref_first.2.1 1 = .ok (.iload_n 1, 1) := by decide +kernel
theorem d_Ref_first_2 : decode M_Ref_first.2.1 2 = .ok (.iconst 1, 1) := by decide +kernel
theorem d_Ref_first_3 : decode M_Ref_first.2.1 3 = .ok (.if_icmp .lt 8, 3) := by decide +kernel
theorem d_Ref_first_6 : decode M_Ref_first.2.1 6 = .ok (.iload_n 1, 1) := by decide +kernel
theorem d_Ref_first_7 : decode M_Ref_first.2.1 7 = .ok (.iconst 2, 1) := by decide +kernel
theorem d_Ref_first_8 : decode M_Ref_first.2.1 8 = .ok (.if_icmp .le 7, 3) := by decide +kernel
theorem d_Ref_first_11 : decode M_Ref_first.2.1 11 = .ok (.iconst 1, 1) := by decide +kernel
theorem d_Ref_first_12 : decode M_Ref_first.2.1 12 = .ok (.goto 15, 3) := by decide +kernel
theorem d_Ref_first_15 : decode M_Ref_first.2.1 15 = .ok (.aload_n 0, 1) := by decide +kernel
theorem d_Ref_first_16 : decode M_Ref_first.2.1 16 = .ok (.getfield 96, 3) := by decide +kernel
theorem d_Ref_first_19 : decode M_Ref_first.2.1 19 = .ok (.ifCond .le 7, 3) := by decide +kernel
theorem d_Ref_first_22 : decode M_Ref_first.2.1 22 = .ok (.iconst 2, 1) := by decide +kernel
theorem d_Ref_first_23 : decode M_Ref_first.2.1 23 = .ok (.goto 4, 3) := by decide +kernel
theorem d_Ref_first_26 : decode M_Ref_first.2.1 26 = .ok (.iconst 0, 1) := by decide +kernel
theorem d_Ref_first_27 : decode M_Ref_first.2.1 27 = .ok (.putfield 65, 3) := by decide +kernel
theorem d_Ref_first_30 : decode M_Ref_first.2.1 30 = .ok (.aload_n 0, 1) := by decide +kernel
theorem d_Ref_first_31 : decode M_Ref_first.2.1 31 = .ok (.getfield 65, 3) := by decide +kernel
theorem d_Ref_first_34 : decode M_Ref_first.2.1 34 = .ok (.ifCond .ne 8, 3) := by decide +kernel
theorem d_Ref_first_37 : decode M_Ref_first.2.1 37 = .ok (.aload_n 0, 1) := by decide +kernel
theorem d_Ref_first_38 : decode M_Ref_first.2.1 38 = .ok (.iload_n 1, 1) := by decide +kernel
theorem d_Ref_first_39 : decode M_Ref_first.2.1 39 = .ok (.putfield 30, 3) := by decide +kernel
theorem d_Ref_first_42 : decode M_Ref_first.2.1 42 = .ok (.return_, 1) := by decide +kernel
theorem d_Ref_turn_0 : decode M_Ref_turn.2.1 0 = .ok (.aload_n 0, 1) := by decide +kernel
theorem d_Ref_turn_1 : decode M_Ref_turn.2.1 1 = .ok (.iconst 0, 1) := by decide +kernel
theorem d_Ref_turn_2 : decode M_Ref_turn.2.1 2 = .ok (.putfield 65, 3) := by decide +kernel
theorem d_Ref_turn_5 : decode M_Ref_turn.2.1 5 = .ok (.aload_n 0, 1) := by decide +kernel
theorem d_Ref_turn_6 : decode M_Ref_turn.2.1 6 = .ok (.invokevirtual 107, 3) := by decide +kernel
theorem d_Ref_turn_9 : decode M_Ref_turn.2.1 9 = .ok (.ireturn, 1) := by decide +kernel
theorem d_Ref_turnNow_0 : decode M_Ref_turnNow.2.1 0 = .ok (.aload_n 0, 1) := by decide +kernel
theorem d_Ref_turnNow_1 : decode M_Ref_turnNow.2.1 1 = .ok (.getfield 96, 3) := by decide +kernel
theorem d_Ref_turnNow_4 : decode M_Ref_turnNow.2.1 4 = .ok (.iconst 2, 1) := by decide +kernel
theorem d_Ref_turnNow_5 : decode M_Ref_turnNow.2.1 5 = .ok (.irem, 1) := by decide +kernel
theorem d_Ref_turnNow_6 : decode M_Ref_turnNow.2.1 6 = .ok (.ifCond .ne 10, 3) := by decide +kernel
theorem d_Ref_turnNow_9 : decode M_Ref_turnNow.2.1 9 = .ok (.aload_n 0, 1) := by decide +kernel
theorem d_Ref_turnNow_10 : decode M_Ref_turnNow.2.1 10 = .ok (.getfield 30, 3) := by decide +kernel
theorem d_Ref_turnNow_13 : decode M_Ref_turnNow.2.1 13 = .ok (.goto 9, 3) := by decide +kernel
theorem d_Ref_turnNow_16 : decode M_Ref_turnNow.2.1 16 = .ok (.iconst 3, 1) := by decide +kernel
theorem d_Ref_turnNow_17 : decode M_Ref_turnNow.2.1 17 = .ok (.aload_n 0, 1) := by decide +kernel
theorem d_Ref_turnNow_18 : decode M_Ref_turnNow.2.1 18 = .ok (.getfield 30, 3) := by decide +kernel
theorem d_Ref_turnNow_21 : decode M_Ref_turnNow.2.1 21 = .ok (.isub, 1) := by decide +kernel
theorem d_Ref_turnNow_22 : decode M_Ref_turnNow.2.1 22 = .ok (.ireturn, 1) := by decide +kernel
theorem d_Ref_play_0 : decode M_Ref_play.2.1 0 = .ok (.aload_n 0, 1) := by decide +kernel
theorem d_Ref_play_1 : decode M_Ref_play.2.1 1 = .ok (.iload_n 1, 1) := by decide +kernel
theorem d_Ref_play_2 : decode M_Ref_play.2.1 2 = .ok (.invokevirtual 118, 3) := by decide +kernel
theorem d_Ref_play_5 : decode M_Ref_play.2.1 5 = .ok (.ifCond .eq 5, 3) := by decide +kernel
theorem d_Ref_play_8 : decode M_Ref_play.2.1 8 = .ok (.iconst 0, 1) := by decide +kernel
theorem d_Ref_play_9 : decode M_Ref_play.2.1 9 = .ok (.ireturn, 1) := by decide +kernel
theorem d_Ref_play_10 : decode M_Ref_play.2.1 10 = .ok (.aload_n 0, 1) := by decide +kernel
theorem d_Ref_play_11 : decode M_Ref_play.2.1 11 = .ok (.aload_n 0, 1) := by decide +kernel
theorem d_Ref_play_12 : decode M_Ref_play.2.1 12 = .ok (.getfield 96, 3) := by decide +kernel
theorem d_Ref_play_15 : decode M_Ref_play.2.1 15 = .ok (.sipush 1000, 3) := by decide +kernel
theorem d_Ref_play_18 : decode M_Ref_play.2.1 18 = .ok (.if_icmp .eq 11, 3) := by decide +kernel
theorem d_Ref_play_21 : decode M_Ref_play.2.1 21 = .ok (.aload_n 0, 1) := by decide +kernel
theorem d_Ref_play_22 : decode M_Ref_play.2.1 22 = .ok (.iload_n 1, 1) := by decide +kernel
theorem d_Ref_play_23 : decode M_Ref_play.2.1 23 = .ok (.invokevirtual 129, 3) := by decide +kernel
theorem d_Ref_play_26 : decode M_Ref_play.2.1 26 = .ok (.ifCond .le 7, 3) := by decide +kernel
theorem d_Ref_play_29 : decode M_Ref_play.2.1 29 = .ok (.iconst 2, 1) := by decide +kernel
theorem d_Ref_play_30 : decode M_Ref_play.2.1 30 = .ok (.goto 4, 3) := by decide +kernel
theorem d_Ref_play_33 : decode M_Ref_play.2.1 33 = .ok (.iconst 0, 1) := by decide +kernel
theorem d_Ref_play_34 : decode M_Ref_play.2.1 34 = .ok (.putfield 65, 3) := by decide +kernel
theorem d_Ref_play_37 : decode M_Ref_play.2.1 37 = .ok (.aload_n 0, 1) := by decide +kernel
theorem d_Ref_play_38 : decode M_Ref_play.2.1 38 = .ok (.getfield 65, 3) := by decide +kernel
theorem d_Ref_play_41 : decode M_Ref_play.2.1 41 = .ok (.ifCond .le 5, 3) := by decide +kernel
theorem d_Ref_play_44 : decode M_Ref_play.2.1 44 = .ok (.iconst 0, 1) := by decide +kernel
theorem d_Ref_play_45 : decode M_Ref_play.2.1 45 = .ok (.ireturn, 1) := by decide +kernel
theorem d_Ref_play_46 : decode M_Ref_play.2.1 46 = .ok (.aload_n 0, 1) := by decide +kernel
theorem d_Ref_play_47 : decode M_Ref_play.2.1 47 = .ok (.invokevirtual 107, 3) := by decide +kernel
theorem d_Ref_play_50 : decode M_Ref_play.2.1 50 = .ok (.istore_n 2, 1) := by decide +kernel
theorem d_Ref_play_51 : decode M_Ref_play.2.1 51 = .ok (.iconst 0, 1) := by decide +kernel
theorem d_Ref_play_52 : decode M_Ref_play.2.1 52 = .ok (.istore_n 3, 1) := by decide +kernel
theorem d_Ref_play_53 : decode M_Ref_play.2.1 53 = .ok (.iload_n 3, 1) := by decide +kernel
theorem d_Ref_play_54 : decode M_Ref_play.2.1 54 = .ok (.aload_n 0, 1) := by decide +kernel
theorem d_Ref_play_55 : decode M_Ref_play.2.1 55 = .ok (.getfield 62, 3) := by decide +kernel
theorem d_Ref_play_58 : decode M_Ref_play.2.1 58 = .ok (.if_icmp .ge 21, 3) := by decide +kernel
theorem d_Ref_play_61 : decode M_Ref_play.2.1 61 = .ok (.aload_n 0, 1) := by decide +kernel
theorem d_Ref_play_62 : decode M_Ref_play.2.1 62 = .ok (.getfield 7, 3) := by decide +kernel
theorem d_Ref_play_65 : decode M_Ref_play.2.1 65 = .ok (.iload_n 3, 1) := by decide +kernel
theorem d_Ref_play_66 : decode M_Ref_play.2.1 66 = .ok (.aload_n 0, 1) := by decide +kernel
theorem d_Ref_play_67 : decode M_Ref_play.2.1 67 = .ok (.getfield 13, 3) := by decide +kernel
theorem d_Ref_play_70 : decode M_Ref_play.2.1 70 = .ok (.iload_n 3, 1) := by decide +kernel
theorem d_Ref_play_71 : decode M_Ref_play.2.1 71 = .ok (.iaload, 1) := by decide +kernel
theorem d_Ref_play_72 : decode M_Ref_play.2.1 72 = .ok (.iastore, 1) := by decide +kernel
theorem d_Ref_play_73 : decode M_Ref_play.2.1 73 = .ok (.iinc 3 1, 3) := by decide +kernel
theorem d_Ref_play_76 : decode M_Ref_play.2.1 76 = .ok (.goto (-23), 3) := by decide +kernel
theorem d_Ref_play_79 : decode M_Ref_play.2.1 79 = .ok (.aload_n 0, 1) := by decide +kernel
theorem d_Ref_play_80 : decode M_Ref_play.2.1 80 = .ok (.getfield 24, 3) := by decide +kernel
theorem d_Ref_play_83 : decode M_Ref_play.2.1 83 = .ok (.aload_n 0, 1) := by decide +kernel
theorem d_Ref_play_84 : decode M_Ref_play.2.1 84 = .ok (.getfield 96, 3) := by decide +kernel
theorem d_Ref_play_87 : decode M_Ref_play.2.1 87 = .ok (.iload_n 2, 1) := by decide +kernel
theorem d_Ref_play_88 : decode M_Ref_play.2.1 88 = .ok (.iconst 1, 1) := by decide +kernel
theorem d_Ref_play_89 : decode M_Ref_play.2.1 89 = .ok (.if_icmp .ne 10, 3) := by decide +kernel
theorem d_Ref_play_92 : decode M_Ref_play.2.1 92 = .ok (.aload_n 0, 1) := by decide +kernel
theorem d_Ref_play_93 : decode M_Ref_play.2.1 93 = .ok (.getfield 93, 3) := by decide +kernel
theorem d_Ref_play_96 : decode M_Ref_play.2.1 96 = .ok (.goto 7, 3) := by decide +kernel
theorem d_Ref_play_99 : decode M_Ref_play.2.1 99 = .ok (.aload_n 0, 1) := by decide +kernel
theorem d_Ref_play_100 : decode M_Ref_play.2.1 100 = .ok (.getfield 79, 3) := by decide +kernel
theorem d_Ref_play_103 : decode M_Ref_play.2.1 103 = .ok (.iastore, 1) := by decide +kernel
theorem d_Ref_play_104 : decode M_Ref_play.2.1 104 = .ok (.aload_n 0, 1) := by decide +kernel
theorem d_Ref_play_105 : decode M_Ref_play.2.1 105 = .ok (.getfield 27, 3) := by decide +kernel
theorem d_Ref_play_108 : decode M_Ref_play.2.1 108 = .ok (.aload_n 0, 1) := by decide +kernel
theorem d_Ref_play_109 : decode M_Ref_play.2.1 109 = .ok (.getfield 96, 3) := by decide +kernel
theorem d_Ref_play_112 : decode M_Ref_play.2.1 112 = .ok (.iload_n 2, 1) := by decide +kernel
theorem d_Ref_play_113 : decode M_Ref_play.2.1 113 = .ok (.iconst 2, 1) := by decide +kernel
theorem d_Ref_play_114 : decode M_Ref_play.2.1 114 = .ok (.if_icmp .ne 10, 3) := by decide +kernel
theorem d_Ref_play_117 : decode M_Ref_play.2.1 117 = .ok (.aload_n 0, 1) := by decide +kernel
theorem d_Ref_play_118 : decode M_Ref_play.2.1 118 = .ok (.getfield 93, 3) := by decide +kernel
theorem d_Ref_play_121 : decode M_Ref_play.2.1 121 = .ok (.goto 7, 3) := by decide +kernel
theorem d_Ref_play_124 : decode M_Ref_play.2.1 124 = .ok (.aload_n 0, 1) := by decide +kernel
theorem d_Ref_play_125 : decode M_Ref_play.2.1 125 = .ok (.getfield 79, 3) := by decide +kernel
theorem d_Ref_play_128 : decode M_Ref_play.2.1 128 = .ok (.iastore, 1) := by decide +kernel
theorem d_Ref_play_129 : decode M_Ref_play.2.1 129 = .ok (.aload_n 0, 1) := by decide +kernel
theorem d_Ref_play_130 : decode M_Ref_play.2.1 130 = .ok (.getfield 21, 3) := by decide +kernel
theorem d_Ref_play_133 : decode M_Ref_play.2.1 133 = .ok (.aload_n 0, 1) := by decide +kernel
theorem d_Ref_play_134 : decode M_Ref_play.2.1 134 = .ok (.getfield 96, 3) := by decide +kernel
theorem d_Ref_play_137 : decode M_Ref_play.2.1 137 = .ok (.iload_n 1, 1) := by decide +kernel
theorem d_Ref_play_138 : decode M_Ref_play.2.1 138 = .ok (.iastore, 1) := by decide +kernel
theorem d_Ref_play_139 : decode M_Ref_play.2.1 139 = .ok (.aload_n 0, 1) := by decide +kernel
theorem d_Ref_play_140 : decode M_Ref_play.2.1 140 = .ok (.dup, 1) := by decide +kernel
theorem d_Ref_play_141 : decode M_Ref_play.2.1 141 = .ok (.getfield 96, 3) := by decide +kernel
theorem d_Ref_play_144 : decode M_Ref_play.2.1 144 = .ok (.iconst 1, 1) := by decide +kernel
theorem d_Ref_play_145 : decode M_Ref_play.2.1 145 = .ok (.iadd, 1) := by decide +kernel
theorem d_Ref_play_146 : decode M_Ref_play.2.1 146 = .ok (.putfield 96, 3) := by decide +kernel
theorem d_Ref_play_149 : decode M_Ref_play.2.1 149 = .ok (.aload_n 0, 1) := by decide +kernel
theorem d_Ref_play_150 : decode M_Ref_play.2.1 150 = .ok (.aload_n 0, 1) := by decide +kernel
theorem d_Ref_play_151 : decode M_Ref_play.2.1 151 = .ok (.getfield 96, 3) := by decide +kernel
theorem d_Ref_play_154 : decode M_Ref_play.2.1 154 = .ok (.invokevirtual 125, 3) := by decide +kernel
theorem d_Ref_play_157 : decode M_Ref_play.2.1 157 = .ok (.aload_n 0, 1) := by decide +kernel
theorem d_Ref_play_158 : decode M_Ref_play.2.1 158 = .ok (.getfield 93, 3) := by decide +kernel
theorem d_Ref_play_161 : decode M_Ref_play.2.1 161 = .ok (.aload_n 0, 1) := by decide +kernel
theorem d_Ref_play_162 : decode M_Ref_play.2.1 162 = .ok (.getfield 79, 3) := by decide +kernel
theorem d_Ref_play_165 : decode M_Ref_play.2.1 165 = .ok (.iadd, 1) := by decide +kernel
theorem d_Ref_play_166 : decode M_Ref_play.2.1 166 = .ok (.ireturn, 1) := by decide +kernel
theorem d_Ref_whyNot_0 : decode M_Ref_whyNot.2.1 0 = .ok (.aload_n 0, 1) := by decide +kernel
theorem d_Ref_whyNot_1 : decode M_Ref_whyNot.2.1 1 = .ok (.invokevirtual 103, 3) := by decide +kernel
theorem d_Ref_whyNot_4 : decode M_Ref_whyNot.2.1 4 = .ok (.ifCond .eq 5, 3) := by decide +kernel
theorem d_Ref_whyNot_7 : decode M_Ref_whyNot.2.1 7 = .ok (.iconst 1, 1) := by decide +kernel
theorem d_Ref_whyNot_8 : decode M_Ref_whyNot.2.1 8 = .ok (.ireturn, 1) := by decide +kernel
theorem d_Ref_whyNot_9 : decode M_Ref_whyNot.2.1 9 = .ok (.aload_n 0, 1) := by decide +kernel
theorem d_Ref_whyNot_10 : decode M_Ref_whyNot.2.1 10 = .ok (.getfield 7, 3) := by decide +kernel
theorem d_Ref_whyNot_13 : decode M_Ref_whyNot.2.1 13 = .ok (.iload_n 1, 1) := by decide +kernel
theorem d_Ref_whyNot_14 : decode M_Ref_whyNot.2.1 14 = .ok (.iaload, 1) := by decide +kernel
theorem d_Ref_whyNot_15 : decode M_Ref_whyNot.2.1 15 = .ok (.ifCond .eq 5, 3) := by decide +kernel
theorem d_Ref_whyNot_18 : decode M_Ref_whyNot.2.1 18 = .ok (.iconst 2, 1) := by decide +kernel
theorem d_Ref_whyNot_19 : decode M_Ref_whyNot.2.1 19 = .ok (.ireturn, 1) := by decide +kernel
theorem d_Ref_whyNot_20 : decode M_Ref_whyNot.2.1 20 = .ok (.aload_n 0, 1) := by decide +kernel
theorem d_Ref_whyNot_21 : decode M_Ref_whyNot.2.1 21 = .ok (.iload_n 1, 1) := by decide +kernel
theorem d_Ref_whyNot_22 : decode M_Ref_whyNot.2.1 22 = .ok (.aload_n 0, 1) := by decide +kernel
theorem d_Ref_whyNot_23 : decode M_Ref_whyNot.2.1 23 = .ok (.invokevirtual 107, 3) := by decide +kernel
theorem d_Ref_whyNot_26 : decode M_Ref_whyNot.2.1 26 = .ok (.invokevirtual 111, 3) := by decide +kernel
theorem d_Ref_whyNot_29 : decode M_Ref_whyNot.2.1 29 = .ok (.aload_n 0, 1) := by decide +kernel
theorem d_Ref_whyNot_30 : decode M_Ref_whyNot.2.1 30 = .ok (.invokevirtual 115, 3) := by decide +kernel
theorem d_Ref_whyNot_33 : decode M_Ref_whyNot.2.1 33 = .ok (.ifCond .lt 7, 3) := by decide +kernel
theorem d_Ref_whyNot_36 : decode M_Ref_whyNot.2.1 36 = .ok (.iconst 3, 1) := by decide +kernel
theorem d_Ref_whyNot_37 : decode M_Ref_whyNot.2.1 37 = .ok (.goto 4, 3) := by decide +kernel
theorem d_Ref_whyNot_40 : decode M_Ref_whyNot.2.1 40 = .ok (.iconst 0, 1) := by decide +kernel
theorem d_Ref_whyNot_41 : decode M_Ref_whyNot.2.1 41 = .ok (.ireturn, 1) := by decide +kernel
theorem d_Ref_isEnded_0 : decode M_Ref_isEnded.2.1 0 = .ok (.aload_n 0, 1) := by decide +kernel
theorem d_Ref_isEnded_1 : decode M_Ref_isEnded.2.1 1 = .ok (.getfield 96, 3) := by decide +kernel
theorem d_Ref_isEnded_4 : decode M_Ref_isEnded.2.1 4 = .ok (.iconst 1, 1) := by decide +kernel
theorem d_Ref_isEnded_5 : decode M_Ref_isEnded.2.1 5 = .ok (.if_icmp .le 35, 3) := by decide +kernel
theorem d_Ref_isEnded_8 : decode M_Ref_isEnded.2.1 8 = .ok (.aload_n 0, 1) := by decide +kernel
theorem d_Ref_isEnded_9 : decode M_Ref_isEnded.2.1 9 = .ok (.getfield 21, 3) := by decide +kernel
theorem d_Ref_isEnded_12 : decode M_Ref_isEnded.2.1 12 = .ok (.aload_n 0, 1) := by decide +kernel
theorem d_Ref_isEnded_13 : decode M_Ref_isEnded.2.1 13 = .ok (.getfield 96, 3) := by decide +kernel
theorem d_Ref_isEnded_16 : decode M_Ref_isEnded.2.1 16 = .ok (.iconst 1, 1) := by decide +kernel
theorem d_Ref_isEnded_17 : decode M_Ref_isEnded.2.1 17 = .ok (.isub, 1) := by decide +kernel
theorem d_Ref_isEnded_18 : decode M_Ref_isEnded.2.1 18 = .ok (.iaload, 1) := by decide +kernel
theorem d_Ref_isEnded_19 : decode M_Ref_isEnded.2.1 19 = .ok (.ifCond .ge 21, 3) := by decide +kernel
theorem d_Ref_isEnded_22 : decode M_Ref_isEnded.2.1 22 = .ok (.aload_n 0, 1) := by decide +kernel
theorem d_Ref_isEnded_23 : decode M_Ref_isEnded.2.1 23 = .ok (.getfield 21, 3) := by decide +kernel
theorem d_Ref_isEnded_26 : decode M_Ref_isEnded.2.1 26 = .ok (.aload_n 0, 1) := by decide +kernel
theorem d_Ref_isEnded_27 : decode M_Ref_isEnded.2.1 27 = .ok (.getfield 96, 3) := by decide +kernel
theorem d_Ref_isEnded_30 : decode M_Ref_isEnded.2.1 30 = .ok (.iconst 2, 1) := by decide +kernel
theorem d_Ref_isEnded_31 : decode M_Ref_isEnded.2.1 31 = .ok (.isub, 1) := by decide +kernel
theorem d_Ref_isEnded_32 : decode M_Ref_isEnded.2.1 32 = .ok (.iaload, 1) := by decide +kernel
theorem d_Ref_isEnded_33 : decode M_Ref_isEnded.2.1 33 = .ok (.ifCond .ge 7, 3) := by decide +kernel
theorem d_Ref_isEnded_36 : decode M_Ref_isEnded.2.1 36 = .ok (.iconst 1, 1) := by decide +kernel
theorem d_Ref_isEnded_37 : decode M_Ref_isEnded.2.1 37 = .ok (.goto 4, 3) := by decide +kernel
theorem d_Ref_isEnded_40 : decode M_Ref_isEnded.2.1 40 = .ok (.iconst 0, 1) := by decide +kernel
theorem d_Ref_isEnded_41 : decode M_Ref_isEnded.2.1 41 = .ok (.ireturn, 1) := by decide +kernel
theorem d_Ref_attempt_0 : decode M_Ref_attempt.2.1 0 = .ok (.iconst 0, 1) := by decide +kernel
theorem d_Ref_attempt_1 : decode M_Ref_attempt.2.1 1 = .ok (.istore_n 3, 1) := by decide +kernel
theorem d_Ref_attempt_2 : decode M_Ref_attempt.2.1 2 = .ok (.iload_n 3, 1) := by decide +kernel
theorem d_Ref_attempt_3 : decode M_Ref_attempt.2.1 3 = .ok (.aload_n 0, 1) := by decide +kernel
theorem d_Ref_attempt_4 : decode M_Ref_attempt.2.1 4 = .ok (.getfield 62, 3) := by decide +kernel
theorem d_Ref_attempt_7 : decode M_Ref_attempt.2.1 7 = .ok (.if_icmp .ge 21, 3) := by decide +kernel
theorem d_Ref_attempt_10 : decode M_Ref_attempt.2.1 10 = .ok (.aload_n 0, 1) := by decide +kernel
theorem d_Ref_attempt_11 : decode M_Ref_attempt.2.1 11 = .ok (.getfield 13, 3) := by decide +kernel
theorem d_Ref_attempt_14 : decode M_Ref_attempt.2.1 14 = .ok (.iload_n 3, 1) := by decide +kernel
theorem d_Ref_attempt_15 : decode M_Ref_attempt.2.1 15 = .ok (.aload_n 0, 1) := by decide +kernel
theorem d_Ref_attempt_16 : decode M_Ref_attempt.2.1 16 = .ok (.getfield 7, 3) := by decide +kernel
theorem d_Ref_attempt_19 : decode M_Ref_attempt.2.1 19 = .ok (.iload_n 3, 1) := by decide +kernel
theorem d_Ref_attempt_20 : decode M_Ref_attempt.2.1 20 = .ok (.iaload, 1) := by decide +kernel
theorem d_Ref_attempt_21 : decode M_Ref_attempt.2.1 21 = .ok (.iastore, 1) := by decide +kernel
theorem d_Ref_attempt_22 : decode M_Ref_attempt.2.1 22 = .ok (.iinc 3 1, 3) := by decide +kernel
theorem d_Ref_attempt_25 : decode M_Ref_attempt.2.1 25 = .ok (.goto (-23), 3) := by decide +kernel
theorem d_Ref_attempt_28 : decode M_Ref_attempt.2.1 28 = .ok (.aload_n 0, 1) := by decide +kernel
theorem d_Ref_attempt_29 : decode M_Ref_attempt.2.1 29 = .ok (.getfield 13, 3) := by decide +kernel
theorem d_Ref_attempt_32 : decode M_Ref_attempt.2.1 32 = .ok (.iload_n 1, 1) := by decide +kernel
theorem d_Ref_attempt_33 : decode M_Ref_attempt.2.1 33 = .ok (.iload_n 2, 1) := by decide +kernel
theorem d_Ref_attempt_34 : decode M_Ref_attempt.2.1 34 = .ok (.iastore, 1) := by decide +kernel
theorem d_Ref_attempt_35 : decode M_Ref_attempt.2.1 35 = .ok (.aload_n 0, 1) := by decide +kernel
theorem d_Ref_attempt_36 : decode M_Ref_attempt.2.1 36 = .ok (.iconst 0, 1) := by decide +kernel
theorem d_Ref_attempt_37 : decode M_Ref_attempt.2.1 37 = .ok (.putfield 79, 3) := by decide +kernel
theorem d_Ref_attempt_40 : decode M_Ref_attempt.2.1 40 = .ok (.aload_n 0, 1) := by decide +kernel
theorem d_Ref_attempt_41 : decode M_Ref_attempt.2.1 41 = .ok (.getfield 53, 3) := by decide +kernel
theorem d_Ref_attempt_44 : decode M_Ref_attempt.2.1 44 = .ok (.astore_n 3, 1) := by decide +kernel
theorem d_Ref_attempt_45 : decode M_Ref_attempt.2.1 45 = .ok (.iconst 0, 1) := by decide +kernel
theorem d_Ref_attempt_46 : decode M_Ref_attempt.2.1 46 = .ok (.istore 4, 2) := by decide +kernel
theorem d_Ref_attempt_48 : decode M_Ref_attempt.2.1 48 = .ok (.iload 4, 2) := by decide +kernel
theorem d_Ref_attempt_50 : decode M_Ref_attempt.2.1 50 = .ok (.aload_n 0, 1) := by decide +kernel
theorem d_Ref_attempt_51 : decode M_Ref_attempt.2.1 51 = .ok (.getfield 62, 3) := by decide +kernel
theorem d_Ref_attempt_54 : decode M_Ref_attempt.2.1 54 = .ok (.if_icmp .ge 14, 3) := by decide +kernel
theorem d_Ref_attempt_57 : decode M_Ref_attempt.2.1 57 = .ok (.aload_n 3, 1) := by decide +kernel
theorem d_Ref_attempt_58 : decode M_Ref_attempt.2.1 58 = .ok (.iload 4, 2) := by decide +kernel
theorem d_Ref_attempt_60 : decode M_Ref_attempt.2.1 60 = .ok (.iconst 0, 1) := by decide +kernel
theorem d_Ref_attempt_61 : decode M_Ref_attempt.2.1 61 = .ok (.bastore, 1) := by decide +kernel
theorem d_Ref_attempt_62 : decode M_Ref_attempt.2.1 62 = .ok (.iinc 4 1, 3) := by decide +kernel
theorem d_Ref_attempt_65 : decode M_Ref_attempt.2.1 65 = .ok (.goto (-17), 3) := by decide +kernel
theorem d_Ref_attempt_68 : decode M_Ref_attempt.2.1 68 = .ok (.iconst 0, 1) := by decide +kernel
theorem d_Ref_attempt_69 : decode M_Ref_attempt.2.1 69 = .ok (.istore 4, 2) := by decide +kernel
theorem d_Ref_attempt_71 : decode M_Ref_attempt.2.1 71 = .ok (.iload 4, 2) := by decide +kernel
theorem d_Ref_attempt_73 : decode M_Ref_attempt.2.1 73 = .ok (.iconst 4, 1) := by decide +kernel
theorem d_Ref_attempt_74 : decode M_Ref_attempt.2.1 74 = .ok (.if_icmp .ge 85, 3) := by decide +kernel
theorem d_Ref_attempt_77 : decode M_Ref_attempt.2.1 77 = .ok (.aload_n 0, 1) := by decide +kernel
theorem d_Ref_attempt_78 : decode M_Ref_attempt.2.1 78 = .ok (.iload_n 1, 1) := by decide +kernel
theorem d_Ref_attempt_79 : decode M_Ref_attempt.2.1 79 = .ok (.iload 4, 2) := by decide +kernel
theorem d_Ref_attempt_81 : decode M_Ref_attempt.2.1 81 = .ok (.invokevirtual 71, 3) := by decide +kernel
theorem d_Ref_attempt_84 : decode M_Ref_attempt.2.1 84 = .ok (.istore 5, 2) := by decide +kernel
theorem d_Ref_attempt_86 : decode M_Ref_attempt.2.1 86 = .ok (.iload 5, 2) := by decide +kernel
theorem d_Ref_attempt_88 : decode M_Ref_attempt.2.1 88 = .ok (.ifCond .lt 65, 3) := by decide +kernel
theorem d_Ref_attempt_91 : decode M_Ref_attempt.2.1 91 = .ok (.aload_n 0, 1) := by decide +kernel
theorem d_Ref_attempt_92 : decode M_Ref_attempt.2.1 92 = .ok (.getfield 13, 3) := by decide +kernel
theorem d_Ref_attempt_95 : decode M_Ref_attempt.2.1 95 = .ok (.iload 5, 2) := by decide +kernel
theorem d_Ref_attempt_97 : decode M_Ref_attempt.2.1 97 = .ok (.iaload, 1) := by decide +kernel
theorem d_Ref_attempt_98 : decode M_Ref_attempt.2.1 98 = .ok (.iconst 3, 1) := by decide +kernel
theorem d_Ref_attempt_99 : decode M_Ref_attempt.2.1 99 = .ok (.iload_n 2, 1) := by decide +kernel
theorem d_Ref_attempt_100 : decode M_Ref_attempt.2.1 100 = .ok (.isub, 1) := by decide +kernel
theorem d_Ref_attempt_101 : decode M_Ref_attempt.2.1 101 = .ok (.if_icmp .ne 52, 3) := by decide +kernel
theorem d_Ref_attempt_104 : decode M_Ref_attempt.2.1 104 = .ok (.aload_n 0, 1) := by decide +kernel
theorem d_Ref_attempt_105 : decode M_Ref_attempt.2.1 105 = .ok (.aload_n 0, 1) := by decide +kernel
theorem d_Ref_attempt_106 : decode M_Ref_attempt.2.1 106 = .ok (.getfield 13, 3) := by decide +kernel
theorem d_Ref_attempt_109 : decode M_Ref_attempt.2.1 109 = .ok (.iload 5, 2) := by decide +kernel
theorem d_Ref_attempt_111 : decode M_Ref_attempt.2.1 111 = .ok (.invokevirtual 82, 3) := by decide +kernel
theorem d_Ref_attempt_114 : decode M_Ref_attempt.2.1 114 = .ok (.aload_n 0, 1) := by decide +kernel
theorem d_Ref_attempt_115 : decode M_Ref_attempt.2.1 115 = .ok (.aload_n 0, 1) := by decide +kernel
theorem d_Ref_attempt_116 : decode M_Ref_attempt.2.1 116 = .ok (.getfield 13, 3) := by decide +kernel
theorem d_Ref_attempt_119 : decode M_Ref_attempt.2.1 119 = .ok (.invokevirtual 86, 3) := by decide +kernel
theorem d_Ref_attempt_122 : decode M_Ref_attempt.2.1 122 = .ok (.ifCond .ne 31, 3) := by decide +kernel
theorem d_Ref_attempt_125 : decode M_Ref_attempt.2.1 125 = .ok (.iconst 0, 1) := by decide +kernel
theorem d_Ref_attempt_126 : decode M_Ref_attempt.2.1 126 = .ok (.istore 6, 2) := by decide +kernel
theorem d_Ref_attempt_128 : decode M_Ref_attempt.2.1 128 = .ok (.iload 6, 2) := by decide +kernel
theorem d_Ref_attempt_130 : decode M_Ref_attempt.2.1 130 = .ok (.aload_n 0, 1) := by decide +kernel
theorem d_Ref_attempt_131 : decode M_Ref_attempt.2.1 131 = .ok (.getfield 68, 3) := by decide +kernel
theorem d_Ref_attempt_134 : decode M_Ref_attempt.2.1 134 = .ok (.if_icmp .ge 19, 3) := by decide +kernel
theorem d_Ref_attempt_137 : decode M_Ref_attempt.2.1 137 = .ok (.aload_n 3, 1) := by decide +kernel
theorem d_Ref_attempt_138 : decode M_Ref_attempt.2.1 138 = .ok (.aload_n 0, 1) := by decide +kernel
theorem d_Ref_attempt_139 : decode M_Ref_attempt.2.1 139 = .ok (.getfield 38, 3) := by decide +kernel
theorem d_Ref_attempt_142 : decode M_Ref_attempt.2.1 142 = .ok (.iload 6, 2) := by decide +kernel
theorem d_Ref_attempt_144 : decode M_Ref_attempt.2.1 144 = .ok (.iaload, 1) := by decide +kernel
theorem d_Ref_attempt_145 : decode M_Ref_attempt.2.1 145 = .ok (.iconst 1, 1) := by decide +kernel
theorem d_Ref_attempt_146 : decode M_Ref_attempt.2.1 146 = .ok (.bastore, 1) := by decide +kernel
theorem d_Ref_attempt_147 : decode M_Ref_attempt.2.1 147 = .ok (.iinc 6 1, 3) := by decide +kernel
theorem d_Ref_attempt_150 : decode M_Ref_attempt.2.1 150 = .ok (.goto (-22), 3) := by decide +kernel
theorem d_Ref_attempt_153 : decode M_Ref_attempt.2.1 153 = .ok (.iinc 4 1, 3) := by decide +kernel
theorem d_Ref_attempt_156 : decode M_Ref_attempt.2.1 156 = .ok (.goto (-85), 3) := by decide +kernel
theorem d_Ref_attempt_159 : decode M_Ref_attempt.2.1 159 = .ok (.iconst 0, 1) := by decide +kernel
theorem d_Ref_attempt_160 : decode M_Ref_attempt.2.1 160 = .ok (.istore 4, 2) := by decide +kernel
theorem d_Ref_attempt_162 : decode M_Ref_attempt.2.1 162 = .ok (.iload 4, 2) := by decide +kernel
theorem d_Ref_attempt_164 : decode M_Ref_attempt.2.1 164 = .ok (.aload_n 0, 1) := by decide +kernel
theorem d_Ref_attempt_165 : decode M_Ref_attempt.2.1 165 = .ok (.getfield 62, 3) := by decide +kernel
theorem d_Ref_attempt_168 : decode M_Ref_attempt.2.1 168 = .ok (.if_icmp .ge 34, 3) := by decide +kernel
theorem d_Ref_attempt_171 : decode M_Ref_attempt.2.1 171 = .ok (.aload_n 3, 1) := by decide +kernel
theorem d_Ref_attempt_172 : decode M_Ref_attempt.2.1 172 = .ok (.iload 4, 2) := by decide +kernel
theorem d_Ref_attempt_174 : decode M_Ref_attempt.2.1 174 = .ok (.baload, 1) := by decide +kernel
theorem d_Ref_attempt_175 : decode M_Ref_attempt.2.1 175 = .ok (.ifCond .eq 21, 3) := by decide +kernel
theorem d_Ref_attempt_178 : decode M_Ref_attempt.2.1 178 = .ok (.aload_n 0, 1) := by decide +kernel
theorem d_Ref_attempt_179 : decode M_Ref_attempt.2.1 179 = .ok (.getfield 13, 3) := by decide +kernel
theorem d_Ref_attempt_182 : decode M_Ref_attempt.2.1 182 = .ok (.iload 4, 2) := by decide +kernel
theorem d_Ref_attempt_184 : decode M_Ref_attempt.2.1 184 = .ok (.iconst 0, 1) := by decide +kernel
theorem d_Ref_attempt_185 : decode M_Ref_attempt.2.1 185 = .ok (.iastore, 1) := by decide +kernel
theorem d_Ref_attempt_186 : decode M_Ref_attempt.2.1 186 = .ok (.aload_n 0, 1) := by decide +kernel
theorem d_Ref_attempt_187 : decode M_Ref_attempt.2.1 187 = .ok (.dup, 1) := by decide +kernel
theorem d_Ref_attempt_188 : decode M_Ref_attempt.2.1 188 = .ok (.getfield 79, 3) := by decide +kernel
theorem d_Ref_attempt_191 : decode M_Ref_attempt.2.1 191 = .ok (.iconst 1, 1) := by decide +kernel
theorem d_Ref_attempt_192 : decode M_Ref_attempt.2.1 192 = .ok (.iadd, 1) := by decide +kernel
theorem d_Ref_attempt_193 : decode M_Ref_attempt.2.1 193 = .ok (.putfield 79, 3) := by decide +kernel
theorem d_Ref_attempt_196 : decode M_Ref_attempt.2.1 196 = .ok (.iinc 4 1, 3) := by decide +kernel
theorem d_Ref_attempt_199 : decode M_Ref_attempt.2.1 199 = .ok (.goto (-37), 3) := by decide +kernel
theorem d_Ref_attempt_202 : decode M_Ref_attempt.2.1 202 = .ok (.aload_n 0, 1) := by decide +kernel
theorem d_Ref_attempt_203 : decode M_Ref_attempt.2.1 203 = .ok (.aload_n 0, 1) := by decide +kernel
theorem d_Ref_attempt_204 : decode M_Ref_attempt.2.1 204 = .ok (.getfield 13, 3) := by decide +kernel
theorem d_Ref_attempt_207 : decode M_Ref_attempt.2.1 207 = .ok (.iload_n 1, 1) := by decide +kernel
theorem d_Ref_attempt_208 : decode M_Ref_attempt.2.1 208 = .ok (.invokevirtual 82, 3) := by decide +kernel
theorem d_Ref_attempt_211 : decode M_Ref_attempt.2.1 211 = .ok (.aload_n 0, 1) := by decide +kernel
theorem d_Ref_attempt_212 : decode M_Ref_attempt.2.1 212 = .ok (.aload_n 0, 1) := by decide +kernel
theorem d_Ref_attempt_213 : decode M_Ref_attempt.2.1 213 = .ok (.aload_n 0, 1) := by decide +kernel
theorem d_Ref_attempt_214 : decode M_Ref_attempt.2.1 214 = .ok (.getfield 13, 3) := by decide +kernel
theorem d_Ref_attempt_217 : decode M_Ref_attempt.2.1 217 = .ok (.invokevirtual 86, 3) := by decide +kernel
theorem d_Ref_attempt_220 : decode M_Ref_attempt.2.1 220 = .ok (.ifCond .ne 14, 3) := by decide +kernel
theorem d_Ref_attempt_223 : decode M_Ref_attempt.2.1 223 = .ok (.aload_n 0, 1) := by decide +kernel
theorem d_Ref_attempt_224 : decode M_Ref_attempt.2.1 224 = .ok (.aload_n 0, 1) := by decide +kernel
theorem d_Ref_attempt_225 : decode M_Ref_attempt.2.1 225 = .ok (.getfield 13, 3) := by decide +kernel
theorem d_Ref_attempt_228 : decode M_Ref_attempt.2.1 228 = .ok (.invokevirtual 90, 3) := by decide +kernel
theorem d_Ref_attempt_231 : decode M_Ref_attempt.2.1 231 = .ok (.goto 4, 3) := by decide +kernel
theorem d_Ref_attempt_234 : decode M_Ref_attempt.2.1 234 = .ok (.iconst 0, 1) := by decide +kernel
theorem d_Ref_attempt_235 : decode M_Ref_attempt.2.1 235 = .ok (.putfield 93, 3) := by decide +kernel
theorem d_Ref_attempt_238 : decode M_Ref_attempt.2.1 238 = .ok (.return_, 1) := by decide +kernel
theorem d_Ref_takeOff_0 : decode M_Ref_takeOff.2.1 0 = .ok (.iconst 0, 1) := by decide +kernel
theorem d_Ref_takeOff_1 : decode M_Ref_takeOff.2.1 1 = .ok (.istore_n 2, 1) := by decide +kernel
theorem d_Ref_takeOff_2 : decode M_Ref_takeOff.2.1 2 = .ok (.iload_n 2, 1) := by decide +kernel
theorem d_Ref_takeOff_3 : decode M_Ref_takeOff.2.1 3 = .ok (.aload_n 0, 1) := by decide +kernel
theorem d_Ref_takeOff_4 : decode M_Ref_takeOff.2.1 4 = .ok (.getfield 68, 3) := by decide +kernel
theorem d_Ref_takeOff_7 : decode M_Ref_takeOff.2.1 7 = .ok (.if_icmp .ge 18, 3) := by decide +kernel
theorem d_Ref_takeOff_10 : decode M_Ref_takeOff.2.1 10 = .ok (.aload_n 1, 1) := by decide +kernel
theorem d_Ref_takeOff_11 : decode M_Ref_takeOff.2.1 11 = .ok (.aload_n 0, 1) := by decide +kernel
theorem d_Ref_takeOff_12 : decode M_Ref_takeOff.2.1 12 = .ok (.getfield 38, 3) := by decide +kernel
theorem d_Ref_takeOff_15 : decode M_Ref_takeOff.2.1 15 = .ok (.iload_n 2, 1) := by decide +kernel
theorem d_Ref_takeOff_16 : decode M_Ref_takeOff.2.1 16 = .ok (.iaload, 1) := by decide +kernel
theorem d_Ref_takeOff_17 : decode M_Ref_takeOff.2.1 17 = .ok (.iconst 0, 1) := by decide +kernel
theorem d_Ref_takeOff_18 : decode M_Ref_takeOff.2.1 18 = .ok (.iastore, 1) := by decide +kernel
theorem d_Ref_takeOff_19 : decode M_Ref_takeOff.2.1 19 = .ok (.iinc 2 1, 3) := by decide +kernel
theorem d_Ref_takeOff_22 : decode M_Ref_takeOff.2.1 22 = .ok (.goto (-20), 3) := by decide +kernel
theorem d_Ref_takeOff_25 : decode M_Ref_takeOff.2.1 25 = .ok (.aload_n 0, 1) := by decide +kernel
theorem d_Ref_takeOff_26 : decode M_Ref_takeOff.2.1 26 = .ok (.getfield 68, 3) := by decide +kernel
theorem d_Ref_takeOff_29 : decode M_Ref_takeOff.2.1 29 = .ok (.ireturn, 1) := by decide +kernel
theorem d_Ref_latest_0 : decode M_Ref_latest.2.1 0 = .ok (.aload_n 0, 1) := by decide +kernel
theorem d_Ref_latest_1 : decode M_Ref_latest.2.1 1 = .ok (.getfield 96, 3) := by decide +kernel
theorem d_Ref_latest_4 : decode M_Ref_latest.2.1 4 = .ok (.istore_n 1, 1) := by decide +kernel
theorem d_Ref_latest_5 : decode M_Ref_latest.2.1 5 = .ok (.iload_n 1, 1) := by decide +kernel
theorem d_Ref_latest_6 : decode M_Ref_latest.2.1 6 = .ok (.ifCond .lt 17, 3) := by decide +kernel
theorem d_Ref_latest_9 : decode M_Ref_latest.2.1 9 = .ok (.aload_n 0, 1) := by decide +kernel
theorem d_Ref_latest_10 : decode M_Ref_latest.2.1 10 = .ok (.iload_n 1, 1) := by decide +kernel
theorem d_Ref_latest_11 : decode M_Ref_latest.2.1 11 = .ok (.invokevirtual 99, 3) := by decide +kernel
theorem d_Ref_latest_14 : decode M_Ref_latest.2.1 14 = .ok (.ifCond .ne 9, 3) := by decide +kernel
theorem d_Ref_latest_17 : decode M_Ref_latest.2.1 17 = .ok (.iinc 1 (-1), 3) := by decide +kernel
theorem d_Ref_latest_20 : decode M_Ref_latest.2.1 20 = .ok (.goto (-15), 3) := by decide +kernel
theorem d_Ref_latest_23 : decode M_Ref_latest.2.1 23 = .ok (.iload_n 1, 1) := by decide +kernel
theorem d_Ref_latest_24 : decode M_Ref_latest.2.1 24 = .ok (.ireturn, 1) := by decide +kernel
theorem d_Ref_isTrial_0 : decode M_Ref_isTrial.2.1 0 = .ok (.iconst 1, 1) := by decide +kernel
theorem d_Ref_isTrial_1 : decode M_Ref_isTrial.2.1 1 = .ok (.istore_n 2, 1) := by decide +kernel
theorem d_Ref_isTrial_2 : decode M_Ref_isTrial.2.1 2 = .ok (.iconst 0, 1) := by decide +kernel
theorem d_Ref_isTrial_3 : decode M_Ref_isTrial.2.1 3 = .ok (.istore_n 3, 1) := by decide +kernel
theorem d_Ref_isTrial_4 : decode M_Ref_isTrial.2.1 4 = .ok (.iload_n 3, 1) := by decide +kernel
theorem d_Ref_isTrial_5 : decode M_Ref_isTrial.2.1 5 = .ok (.aload_n 0, 1) := by decide +kernel
theorem d_Ref_isTrial_6 : decode M_Ref_isTrial.2.1 6 = .ok (.getfield 62, 3) := by decide +kernel
theorem d_Ref_isTrial_9 : decode M_Ref_isTrial.2.1 9 = .ok (.if_icmp .ge 40, 3) := by decide +kernel
theorem d_Ref_isTrial_12 : decode M_Ref_isTrial.2.1 12 = .ok (.iload_n 2, 1) := by decide +kernel
theorem d_Ref_isTrial_13 : decode M_Ref_isTrial.2.1 13 = .ok (.ifCond .eq 36, 3) := by decide +kernel
theorem d_Ref_isTrial_16 : decode M_Ref_isTrial.2.1 16 = .ok (.aload_n 0, 1) := by decide +kernel
theorem d_Ref_isTrial_17 : decode M_Ref_isTrial.2.1 17 = .ok (.getfield 17, 3) := by decide +kernel
theorem d_Ref_isTrial_20 : decode M_Ref_isTrial.2.1 20 = .ok (.sipush 169, 3) := by decide +kernel
theorem d_Ref_isTrial_23 : decode M_Ref_isTrial.2.1 23 = .ok (.iload_n 1, 1) := by decide +kernel
theorem d_Ref_isTrial_24 : decode M_Ref_isTrial.2.1 24 = .ok (.imul, 1) := by decide +kernel
theorem d_Ref_isTrial_25 : decode M_Ref_isTrial.2.1 25 = .ok (.iload_n 3, 1) := by decide +kernel
theorem d_Ref_isTrial_26 : decode M_Ref_isTrial.2.1 26 = .ok (.iadd, 1) := by decide +kernel
theorem d_Ref_isTrial_27 : decode M_Ref_isTrial.2.1 27 = .ok (.baload, 1) := by decide +kernel
theorem d_Ref_isTrial_28 : decode M_Ref_isTrial.2.1 28 = .ok (.aload_n 0, 1) := by decide +kernel
theorem d_Ref_isTrial_29 : decode M_Ref_isTrial.2.1 29 = .ok (.getfield 13, 3) := by decide +kernel
theorem d_Ref_isTrial_32 : decode M_Ref_isTrial.2.1 32 = .ok (.iload_n 3, 1) := by decide +kernel
theorem d_Ref_isTrial_33 : decode M_Ref_isTrial.2.1 33 = .ok (.iaload, 1) := by decide +kernel
theorem d_Ref_isTrial_34 : decode M_Ref_isTrial.2.1 34 = .ok (.if_icmp .ne 7, 3) := by decide +kernel
theorem d_Ref_isTrial_37 : decode M_Ref_isTrial.2.1 37 = .ok (.iconst 1, 1) := by decide +kernel
theorem d_Ref_isTrial_38 : decode M_Ref_isTrial.2.1 38 = .ok (.goto 4, 3) := by decide +kernel
theorem d_Ref_isTrial_41 : decode M_Ref_isTrial.2.1 41 = .ok (.iconst 0, 1) := by decide +kernel
theorem d_Ref_isTrial_42 : decode M_Ref_isTrial.2.1 42 = .ok (.istore_n 2, 1) := by decide +kernel
theorem d_Ref_isTrial_43 : decode M_Ref_isTrial.2.1 43 = .ok (.iinc 3 1, 3) := by decide +kernel
theorem d_Ref_isTrial_46 : decode M_Ref_isTrial.2.1 46 = .ok (.goto (-42), 3) := by decide +kernel
theorem d_Ref_isTrial_49 : decode M_Ref_isTrial.2.1 49 = .ok (.iload_n 2, 1) := by decide +kernel
theorem d_Ref_isTrial_50 : decode M_Ref_isTrial.2.1 50 = .ok (.ireturn, 1) := by decide +kernel
theorem d_Ref_why_0 : decode M_Ref_why.2.1 0 = .ok (.aload_n 0, 1) := by decide +kernel
theorem d_Ref_why_1 : decode M_Ref_why.2.1 1 = .ok (.iload_n 1, 1) := by decide +kernel
theorem d_Ref_why_2 : decode M_Ref_why.2.1 2 = .ok (.invokevirtual 118, 3) := by decide +kernel
theorem d_Ref_why_5 : decode M_Ref_why.2.1 5 = .ok (.ifCond .eq 7, 3) := by decide +kernel
theorem d_Ref_why_8 : decode M_Ref_why.2.1 8 = .ok (.iconst 0, 1) := by decide +kernel
theorem d_Ref_why_9 : decode M_Ref_why.2.1 9 = .ok (.goto 8, 3) := by decide +kernel
theorem d_Ref_why_12 : decode M_Ref_why.2.1 12 = .ok (.aload_n 0, 1) := by decide +kernel
theorem d_Ref_why_13 : decode M_Ref_why.2.1 13 = .ok (.iload_n 1, 1) := by decide +kernel
theorem d_Ref_why_14 : decode M_Ref_why.2.1 14 = .ok (.invokevirtual 129, 3) := by decide +kernel
theorem d_Ref_why_17 : decode M_Ref_why.2.1 17 = .ok (.ireturn, 1) := by decide +kernel
