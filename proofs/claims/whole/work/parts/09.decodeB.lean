/-! Decode rows, printed. -/
theorem d_Chart_init_0 : decode M_Chart_init.2.1 0 = .ok (.aload_n 0, 1) := by decide +kernel
theorem d_Chart_init_1 : decode M_Chart_init.2.1 1 = .ok (.invokespecial 3, 3) := by decide +kernel
theorem d_Chart_init_4 : decode M_Chart_init.2.1 4 = .ok (.aload_n 0, 1) := by decide +kernel
theorem d_Chart_init_5 : decode M_Chart_init.2.1 5 = .ok (.aload_n 1, 1) := by decide +kernel
theorem d_Chart_init_6 : decode M_Chart_init.2.1 6 = .ok (.putfield 9, 3) := by decide +kernel
theorem d_Chart_init_9 : decode M_Chart_init.2.1 9 = .ok (.aload_n 0, 1) := by decide +kernel
theorem d_Chart_init_10 : decode M_Chart_init.2.1 10 = .ok (.aload_n 2, 1) := by decide +kernel
theorem d_Chart_init_11 : decode M_Chart_init.2.1 11 = .ok (.putfield 15, 3) := by decide +kernel
theorem d_Chart_init_14 : decode M_Chart_init.2.1 14 = .ok (.aload_n 0, 1) := by decide +kernel
theorem d_Chart_init_15 : decode M_Chart_init.2.1 15 = .ok (.new 19, 3) := by decide +kernel
theorem d_Chart_init_18 : decode M_Chart_init.2.1 18 = .ok (.dup, 1) := by decide +kernel
theorem d_Chart_init_19 : decode M_Chart_init.2.1 19 = .ok (.aload_n 1, 1) := by decide +kernel
theorem d_Chart_init_20 : decode M_Chart_init.2.1 20 = .ok (.invokespecial 21, 3) := by decide +kernel
theorem d_Chart_init_23 : decode M_Chart_init.2.1 23 = .ok (.putfield 24, 3) := by decide +kernel
theorem d_Chart_init_26 : decode M_Chart_init.2.1 26 = .ok (.aload_n 0, 1) := by decide +kernel
theorem d_Chart_init_27 : decode M_Chart_init.2.1 27 = .ok (.aload_n 1, 1) := by decide +kernel
theorem d_Chart_init_28 : decode M_Chart_init.2.1 28 = .ok (.getfield 28, 3) := by decide +kernel
theorem d_Chart_init_31 : decode M_Chart_init.2.1 31 = .ok (.newarray .int, 2) := by decide +kernel
theorem d_Chart_init_33 : decode M_Chart_init.2.1 33 = .ok (.putfield 34, 3) := by decide +kernel
theorem d_Chart_init_36 : decode M_Chart_init.2.1 36 = .ok (.aload_n 0, 1) := by decide +kernel
theorem d_Chart_init_37 : decode M_Chart_init.2.1 37 = .ok (.aload_n 1, 1) := by decide +kernel
theorem d_Chart_init_38 : decode M_Chart_init.2.1 38 = .ok (.getfield 28, 3) := by decide +kernel
theorem d_Chart_init_41 : decode M_Chart_init.2.1 41 = .ok (.newarray .int, 2) := by decide +kernel
theorem d_Chart_init_43 : decode M_Chart_init.2.1 43 = .ok (.putfield 37, 3) := by decide +kernel
theorem d_Chart_init_46 : decode M_Chart_init.2.1 46 = .ok (.aload_n 0, 1) := by decide +kernel
theorem d_Chart_init_47 : decode M_Chart_init.2.1 47 = .ok (.aload_n 1, 1) := by decide +kernel
theorem d_Chart_init_48 : decode M_Chart_init.2.1 48 = .ok (.getfield 28, 3) := by decide +kernel
theorem d_Chart_init_51 : decode M_Chart_init.2.1 51 = .ok (.newarray .int, 2) := by decide +kernel
theorem d_Chart_init_53 : decode M_Chart_init.2.1 53 = .ok (.putfield 40, 3) := by decide +kernel
theorem d_Chart_init_56 : decode M_Chart_init.2.1 56 = .ok (.aload_n 0, 1) := by decide +kernel
theorem d_Chart_init_57 : decode M_Chart_init.2.1 57 = .ok (.aload_n 1, 1) := by decide +kernel
theorem d_Chart_init_58 : decode M_Chart_init.2.1 58 = .ok (.getfield 28, 3) := by decide +kernel
theorem d_Chart_init_61 : decode M_Chart_init.2.1 61 = .ok (.newarray .int, 2) := by decide +kernel
theorem d_Chart_init_63 : decode M_Chart_init.2.1 63 = .ok (.putfield 43, 3) := by decide +kernel
theorem d_Chart_init_66 : decode M_Chart_init.2.1 66 = .ok (.aload_n 0, 1) := by decide +kernel
theorem d_Chart_init_67 : decode M_Chart_init.2.1 67 = .ok (.invokevirtual 46, 3) := by decide +kernel
theorem d_Chart_init_70 : decode M_Chart_init.2.1 70 = .ok (.return_, 1) := by decide +kernel
theorem d_Chart_draw_0 : decode M_Chart_draw.2.1 0 = .ok (.aload_n 0, 1) := by decide +kernel
theorem d_Chart_draw_1 : decode M_Chart_draw.2.1 1 = .ok (.getfield 24, 3) := by decide +kernel
theorem d_Chart_draw_4 : decode M_Chart_draw.2.1 4 = .ok (.aload_n 0, 1) := by decide +kernel
theorem d_Chart_draw_5 : decode M_Chart_draw.2.1 5 = .ok (.getfield 15, 3) := by decide +kernel
theorem d_Chart_draw_8 : decode M_Chart_draw.2.1 8 = .ok (.invokevirtual 49, 3) := by decide +kernel
theorem d_Chart_draw_11 : decode M_Chart_draw.2.1 11 = .ok (.aload_n 0, 1) := by decide +kernel
theorem d_Chart_draw_12 : decode M_Chart_draw.2.1 12 = .ok (.getfield 43, 3) := by decide +kernel
theorem d_Chart_draw_15 : decode M_Chart_draw.2.1 15 = .ok (.iconst (-1), 1) := by decide +kernel
theorem d_Chart_draw_16 : decode M_Chart_draw.2.1 16 = .ok (.invokestatic 53, 3) := by decide +kernel
theorem d_Chart_draw_19 : decode M_Chart_draw.2.1 19 = .ok (.iconst 0, 1) := by decide +kernel
theorem d_Chart_draw_20 : decode M_Chart_draw.2.1 20 = .ok (.istore_n 1, 1) := by decide +kernel
theorem d_Chart_draw_21 : decode M_Chart_draw.2.1 21 = .ok (.iload_n 1, 1) := by decide +kernel
theorem d_Chart_draw_22 : decode M_Chart_draw.2.1 22 = .ok (.aload_n 0, 1) := by decide +kernel
theorem d_Chart_draw_23 : decode M_Chart_draw.2.1 23 = .ok (.getfield 24, 3) := by decide +kernel
theorem d_Chart_draw_26 : decode M_Chart_draw.2.1 26 = .ok (.getfield 59, 3) := by decide +kernel
theorem d_Chart_draw_29 : decode M_Chart_draw.2.1 29 = .ok (.if_icmp .ge 55, 3) := by decide +kernel
theorem d_Chart_draw_32 : decode M_Chart_draw.2.1 32 = .ok (.aload_n 0, 1) := by decide +kernel
theorem d_Chart_draw_33 : decode M_Chart_draw.2.1 33 = .ok (.iload_n 1, 1) := by decide +kernel
theorem d_Chart_draw_34 : decode M_Chart_draw.2.1 34 = .ok (.invokevirtual 60, 3) := by decide +kernel
theorem d_Chart_draw_37 : decode M_Chart_draw.2.1 37 = .ok (.ifCond .eq 17, 3) := by decide +kernel
theorem d_Chart_draw_40 : decode M_Chart_draw.2.1 40 = .ok (.aload_n 0, 1) := by decide +kernel
theorem d_Chart_draw_41 : decode M_Chart_draw.2.1 41 = .ok (.getfield 40, 3) := by decide +kernel
theorem d_Chart_draw_44 : decode M_Chart_draw.2.1 44 = .ok (.iload_n 1, 1) := by decide +kernel
theorem d_Chart_draw_45 : decode M_Chart_draw.2.1 45 = .ok (.aload_n 0, 1) := by decide +kernel
theorem d_Chart_draw_46 : decode M_Chart_draw.2.1 46 = .ok (.iload_n 1, 1) := by decide +kernel
theorem d_Chart_draw_47 : decode M_Chart_draw.2.1 47 = .ok (.invokevirtual 64, 3) := by decide +kernel
theorem d_Chart_draw_50 : decode M_Chart_draw.2.1 50 = .ok (.iastore, 1) := by decide +kernel
theorem d_Chart_draw_51 : decode M_Chart_draw.2.1 51 = .ok (.goto 27, 3) := by decide +kernel
theorem d_Chart_draw_54 : decode M_Chart_draw.2.1 54 = .ok (.aload_n 0, 1) := by decide +kernel
theorem d_Chart_draw_55 : decode M_Chart_draw.2.1 55 = .ok (.getfield 40, 3) := by decide +kernel
theorem d_Chart_draw_58 : decode M_Chart_draw.2.1 58 = .ok (.iload_n 1, 1) := by decide +kernel
theorem d_Chart_draw_59 : decode M_Chart_draw.2.1 59 = .ok (.aload_n 0, 1) := by decide +kernel
theorem d_Chart_draw_60 : decode M_Chart_draw.2.1 60 = .ok (.getfield 15, 3) := by decide +kernel
theorem d_Chart_draw_63 : decode M_Chart_draw.2.1 63 = .ok (.aload_n 0, 1) := by decide +kernel
theorem d_Chart_draw_64 : decode M_Chart_draw.2.1 64 = .ok (.getfield 24, 3) := by decide +kernel
theorem d_Chart_draw_67 : decode M_Chart_draw.2.1 67 = .ok (.iload_n 1, 1) := by decide +kernel
theorem d_Chart_draw_68 : decode M_Chart_draw.2.1 68 = .ok (.invokevirtual 68, 3) := by decide +kernel
theorem d_Chart_draw_71 : decode M_Chart_draw.2.1 71 = .ok (.iaload, 1) := by decide +kernel
theorem d_Chart_draw_72 : decode M_Chart_draw.2.1 72 = .ok (.iastore, 1) := by decide +kernel
theorem d_Chart_draw_73 : decode M_Chart_draw.2.1 73 = .ok (.aload_n 0, 1) := by decide +kernel
theorem d_Chart_draw_74 : decode M_Chart_draw.2.1 74 = .ok (.iload_n 1, 1) := by decide +kernel
theorem d_Chart_draw_75 : decode M_Chart_draw.2.1 75 = .ok (.invokevirtual 71, 3) := by decide +kernel
theorem d_Chart_draw_78 : decode M_Chart_draw.2.1 78 = .ok (.iinc 1 1, 3) := by decide +kernel
theorem d_Chart_draw_81 : decode M_Chart_draw.2.1 81 = .ok (.goto (-60), 3) := by decide +kernel
theorem d_Chart_draw_84 : decode M_Chart_draw.2.1 84 = .ok (.return_, 1) := by decide +kernel
theorem d_Chart_isFree_0 : decode M_Chart_isFree.2.1 0 = .ok (.aload_n 0, 1) := by decide +kernel
theorem d_Chart_isFree_1 : decode M_Chart_isFree.2.1 1 = .ok (.getfield 15, 3) := by decide +kernel
theorem d_Chart_isFree_4 : decode M_Chart_isFree.2.1 4 = .ok (.aload_n 0, 1) := by decide +kernel
theorem d_Chart_isFree_5 : decode M_Chart_isFree.2.1 5 = .ok (.getfield 24, 3) := by decide +kernel
theorem d_Chart_isFree_8 : decode M_Chart_isFree.2.1 8 = .ok (.iload_n 1, 1) := by decide +kernel
theorem d_Chart_isFree_9 : decode M_Chart_isFree.2.1 9 = .ok (.invokevirtual 68, 3) := by decide +kernel
theorem d_Chart_isFree_12 : decode M_Chart_isFree.2.1 12 = .ok (.iaload, 1) := by decide +kernel
theorem d_Chart_isFree_13 : decode M_Chart_isFree.2.1 13 = .ok (.ifCond .ne 7, 3) := by decide +kernel
theorem d_Chart_isFree_16 : decode M_Chart_isFree.2.1 16 = .ok (.iconst 1, 1) := by decide +kernel
theorem d_Chart_isFree_17 : decode M_Chart_isFree.2.1 17 = .ok (.goto 4, 3) := by decide +kernel
theorem d_Chart_isFree_20 : decode M_Chart_isFree.2.1 20 = .ok (.iconst 0, 1) := by decide +kernel
theorem d_Chart_isFree_21 : decode M_Chart_isFree.2.1 21 = .ok (.ireturn, 1) := by decide +kernel
theorem d_Chart_findHolder_0 : decode M_Chart_findHolder.2.1 0 = .ok (.iconst 0, 1) := by decide +kernel
theorem d_Chart_findHolder_1 : decode M_Chart_findHolder.2.1 1 = .ok (.istore_n 2, 1) := by decide +kernel
theorem d_Chart_findHolder_2 : decode M_Chart_findHolder.2.1 2 = .ok (.iconst 0, 1) := by decide +kernel
theorem d_Chart_findHolder_3 : decode M_Chart_findHolder.2.1 3 = .ok (.istore_n 3, 1) := by decide +kernel
theorem d_Chart_findHolder_4 : decode M_Chart_findHolder.2.1 4 = .ok (.iload_n 3, 1) := by decide +kernel
theorem d_Chart_findHolder_5 : decode M_Chart_findHolder.2.1 5 = .ok (.aload_n 0, 1) := by decide +kernel
theorem d_Chart_findHolder_6 : decode M_Chart_findHolder.2.1 6 = .ok (.getfield 24, 3) := by decide +kernel
theorem d_Chart_findHolder_9 : decode M_Chart_findHolder.2.1 9 = .ok (.iload_n 1, 1) := by decide +kernel
theorem d_Chart_findHolder_10 : decode M_Chart_findHolder.2.1 10 = .ok (.invokevirtual 75, 3) := by decide +kernel
theorem d_Chart_findHolder_13 : decode M_Chart_findHolder.2.1 13 = .ok (.if_icmp .ge 87, 3) := by decide +kernel
theorem d_Chart_findHolder_16 : decode M_Chart_findHolder.2.1 16 = .ok (.iconst 0, 1) := by decide +kernel
theorem d_Chart_findHolder_17 : decode M_Chart_findHolder.2.1 17 = .ok (.istore 4, 2) := by decide +kernel
theorem d_Chart_findHolder_19 : decode M_Chart_findHolder.2.1 19 = .ok (.iload 4, 2) := by decide +kernel
theorem d_Chart_findHolder_21 : decode M_Chart_findHolder.2.1 21 = .ok (.iconst 4, 1) := by decide +kernel
theorem d_Chart_findHolder_22 : decode M_Chart_findHolder.2.1 22 = .ok (.if_icmp .ge 72, 3) := by decide +kernel
theorem d_Chart_findHolder_25 : decode M_Chart_findHolder.2.1 25 = .ok (.aload_n 0, 1) := by decide +kernel
theorem d_Chart_findHolder_26 : decode M_Chart_findHolder.2.1 26 = .ok (.getfield 9, 3) := by decide +kernel
theorem d_Chart_findHolder_29 : decode M_Chart_findHolder.2.1 29 = .ok (.aload_n 0, 1) := by decide +kernel
theorem d_Chart_findHolder_30 : decode M_Chart_findHolder.2.1 30 = .ok (.getfield 24, 3) := by decide +kernel
theorem d_Chart_findHolder_33 : decode M_Chart_findHolder.2.1 33 = .ok (.iload_n 1, 1) := by decide +kernel
theorem d_Chart_findHolder_34 : decode M_Chart_findHolder.2.1 34 = .ok (.iload_n 3, 1) := by decide +kernel
theorem d_Chart_findHolder_35 : decode M_Chart_findHolder.2.1 35 = .ok (.invokevirtual 78, 3) := by decide +kernel
theorem d_Chart_findHolder_38 : decode M_Chart_findHolder.2.1 38 = .ok (.iload 4, 2) := by decide +kernel
theorem d_Chart_findHolder_40 : decode M_Chart_findHolder.2.1 40 = .ok (.invokevirtual 82, 3) := by decide +kernel
theorem d_Chart_findHolder_43 : decode M_Chart_findHolder.2.1 43 = .ok (.istore 5, 2) := by decide +kernel
theorem d_Chart_findHolder_45 : decode M_Chart_findHolder.2.1 45 = .ok (.iload 5, 2) := by decide +kernel
theorem d_Chart_findHolder_47 : decode M_Chart_findHolder.2.1 47 = .ok (.iconst (-1), 1) := by decide +kernel
theorem d_Chart_findHolder_48 : decode M_Chart_findHolder.2.1 48 = .ok (.if_icmp .eq 40, 3) := by decide +kernel
theorem d_Chart_findHolder_51 : decode M_Chart_findHolder.2.1 51 = .ok (.aload_n 0, 1) := by decide +kernel
theorem d_Chart_findHolder_52 : decode M_Chart_findHolder.2.1 52 = .ok (.getfield 15, 3) := by decide +kernel
theorem d_Chart_findHolder_55 : decode M_Chart_findHolder.2.1 55 = .ok (.iload 5, 2) := by decide +kernel
theorem d_Chart_findHolder_57 : decode M_Chart_findHolder.2.1 57 = .ok (.iaload, 1) := by decide +kernel
theorem d_Chart_findHolder_58 : decode M_Chart_findHolder.2.1 58 = .ok (.ifCond .ne 6, 3) := by decide +kernel
theorem d_Chart_findHolder_61 : decode M_Chart_findHolder.2.1 61 = .ok (.goto 27, 3) := by decide +kernel
theorem d_Chart_findHolder_64 : decode M_Chart_findHolder.2.1 64 = .ok (.iload_n 2, 1) := by decide +kernel
theorem d_Chart_findHolder_65 : decode M_Chart_findHolder.2.1 65 = .ok (.aload_n 0, 1) := by decide +kernel
theorem d_Chart_findHolder_66 : decode M_Chart_findHolder.2.1 66 = .ok (.getfield 15, 3) := by decide +kernel
theorem d_Chart_findHolder_69 : decode M_Chart_findHolder.2.1 69 = .ok (.iload 5, 2) := by decide +kernel
theorem d_Chart_findHolder_71 : decode M_Chart_findHolder.2.1 71 = .ok (.iaload, 1) := by decide +kernel
theorem d_Chart_findHolder_72 : decode M_Chart_findHolder.2.1 72 = .ok (.invokestatic 85, 3) := by decide +kernel
theorem d_Chart_findHolder_75 : decode M_Chart_findHolder.2.1 75 = .ok (.if_icmp .ne 5, 3) := by decide +kernel
theorem d_Chart_findHolder_78 : decode M_Chart_findHolder.2.1 78 = .ok (.iconst 0, 1) := by decide +kernel
theorem d_Chart_findHolder_79 : decode M_Chart_findHolder.2.1 79 = .ok (.ireturn, 1) := by decide +kernel
theorem d_Chart_findHolder_80 : decode M_Chart_findHolder.2.1 80 = .ok (.aload_n 0, 1) := by decide +kernel
theorem d_Chart_findHolder_81 : decode M_Chart_findHolder.2.1 81 = .ok (.getfield 15, 3) := by decide +kernel
theorem d_Chart_findHolder_84 : decode M_Chart_findHolder.2.1 84 = .ok (.iload 5, 2) := by decide +kernel
theorem d_Chart_findHolder_86 : decode M_Chart_findHolder.2.1 86 = .ok (.iaload, 1) := by decide +kernel
theorem d_Chart_findHolder_87 : decode M_Chart_findHolder.2.1 87 = .ok (.istore_n 2, 1) := by decide +kernel
theorem d_Chart_findHolder_88 : decode M_Chart_findHolder.2.1 88 = .ok (.iinc 4 1, 3) := by decide +kernel
theorem d_Chart_findHolder_91 : decode M_Chart_findHolder.2.1 91 = .ok (.goto (-72), 3) := by decide +kernel
theorem d_Chart_findHolder_94 : decode M_Chart_findHolder.2.1 94 = .ok (.iinc 3 1, 3) := by decide +kernel
theorem d_Chart_findHolder_97 : decode M_Chart_findHolder.2.1 97 = .ok (.goto (-93), 3) := by decide +kernel
theorem d_Chart_findHolder_100 : decode M_Chart_findHolder.2.1 100 = .ok (.iload_n 2, 1) := by decide +kernel
theorem d_Chart_findHolder_101 : decode M_Chart_findHolder.2.1 101 = .ok (.ireturn, 1) := by decide +kernel
theorem d_Chart_countBreaths_0 : decode M_Chart_countBreaths.2.1 0 = .ok (.iconst 0, 1) := by decide +kernel
theorem d_Chart_countBreaths_1 : decode M_Chart_countBreaths.2.1 1 = .ok (.istore_n 2, 1) := by decide +kernel
theorem d_Chart_countBreaths_2 : decode M_Chart_countBreaths.2.1 2 = .ok (.aload_n 0, 1) := by decide +kernel
theorem d_Chart_countBreaths_3 : decode M_Chart_countBreaths.2.1 3 = .ok (.getfield 9, 3) := by decide +kernel
theorem d_Chart_countBreaths_6 : decode M_Chart_countBreaths.2.1 6 = .ok (.getfield 28, 3) := by decide +kernel
theorem d_Chart_countBreaths_9 : decode M_Chart_countBreaths.2.1 9 = .ok (.istore_n 3, 1) := by decide +kernel
theorem d_Chart_countBreaths_10 : decode M_Chart_countBreaths.2.1 10 = .ok (.iconst 0, 1) := by decide +kernel
theorem d_Chart_countBreaths_11 : decode M_Chart_countBreaths.2.1 11 = .ok (.istore 4, 2) := by decide +kernel
theorem d_Chart_countBreaths_13 : decode M_Chart_countBreaths.2.1 13 = .ok (.iload 4, 2) := by decide +kernel
theorem d_Chart_countBreaths_15 : decode M_Chart_countBreaths.2.1 15 = .ok (.aload_n 0, 1) := by decide +kernel
theorem d_Chart_countBreaths_16 : decode M_Chart_countBreaths.2.1 16 = .ok (.getfield 24, 3) := by decide +kernel
theorem d_Chart_countBreaths_19 : decode M_Chart_countBreaths.2.1 19 = .ok (.iload_n 1, 1) := by decide +kernel
theorem d_Chart_countBreaths_20 : decode M_Chart_countBreaths.2.1 20 = .ok (.invokevirtual 75, 3) := by decide +kernel
theorem d_Chart_countBreaths_23 : decode M_Chart_countBreaths.2.1 23 = .ok (.if_icmp .ge 90, 3) := by decide +kernel
theorem d_Chart_countBreaths_26 : decode M_Chart_countBreaths.2.1 26 = .ok (.iconst 0, 1) := by decide +kernel
theorem d_Chart_countBreaths_27 : decode M_Chart_countBreaths.2.1 27 = .ok (.istore 5, 2) := by decide +kernel
theorem d_Chart_countBreaths_29 : decode M_Chart_countBreaths.2.1 29 = .ok (.iload 5, 2) := by decide +kernel
theorem d_Chart_countBreaths_31 : decode M_Chart_countBreaths.2.1 31 = .ok (.iconst 4, 1) := by decide +kernel
theorem d_Chart_countBreaths_32 : decode M_Chart_countBreaths.2.1 32 = .ok (.if_icmp .ge 75, 3) := by decide +kernel
theorem d_Chart_countBreaths_35 : decode M_Chart_countBreaths.2.1 35 = .ok (.aload_n 0, 1) := by decide +kernel
theorem d_Chart_countBreaths_36 : decode M_Chart_countBreaths.2.1 36 = .ok (.getfield 9, 3) := by decide +kernel
theorem d_Chart_countBreaths_39 : decode M_Chart_countBreaths.2.1 39 = .ok (.aload_n 0, 1) := by decide +kernel
theorem d_Chart_countBreaths_40 : decode M_Chart_countBreaths.2.1 40 = .ok (.getfield 24, 3) := by decide +kernel
theorem d_Chart_countBreaths_43 : decode M_Chart_countBreaths.2.1 43 = .ok (.iload_n 1, 1) := by decide +kernel
theorem d_Chart_countBreaths_44 : decode M_Chart_countBreaths.2.1 44 = .ok (.iload 4, 2) := by decide +kernel
theorem d_Chart_countBreaths_46 : decode M_Chart_countBreaths.2.1 46 = .ok (.invokevirtual 78, 3) := by decide +kernel
theorem d_Chart_countBreaths_49 : decode M_Chart_countBreaths.2.1 49 = .ok (.iload 5, 2) := by decide +kernel
theorem d_Chart_countBreaths_51 : decode M_Chart_countBreaths.2.1 51 = .ok (.invokevirtual 82, 3) := by decide +kernel
theorem d_Chart_countBreaths_54 : decode M_Chart_countBreaths.2.1 54 = .ok (.istore 6, 2) := by decide +kernel
theorem d_Chart_countBreaths_56 : decode M_Chart_countBreaths.2.1 56 = .ok (.iload 6, 2) := by decide +kernel
theorem d_Chart_countBreaths_58 : decode M_Chart_countBreaths.2.1 58 = .ok (.iconst (-1), 1) := by decide +kernel
theorem d_Chart_countBreaths_59 : decode M_Chart_countBreaths.2.1 59 = .ok (.if_icmp .eq 42, 3) := by decide +kernel
theorem d_Chart_countBreaths_62 : decode M_Chart_countBreaths.2.1 62 = .ok (.aload_n 0, 1) := by decide +kernel
theorem d_Chart_countBreaths_63 : decode M_Chart_countBreaths.2.1 63 = .ok (.getfield 15, 3) := by decide +kernel
theorem d_Chart_countBreaths_66 : decode M_Chart_countBreaths.2.1 66 = .ok (.iload 6, 2) := by decide +kernel
theorem d_Chart_countBreaths_68 : decode M_Chart_countBreaths.2.1 68 = .ok (.iaload, 1) := by decide +kernel
theorem d_Chart_countBreaths_69 : decode M_Chart_countBreaths.2.1 69 = .ok (.ifCond .ne 32, 3) := by decide +kernel
theorem d_Chart_countBreaths_72 : decode M_Chart_countBreaths.2.1 72 = .ok (.aload_n 0, 1) := by decide +kernel
theorem d_Chart_countBreaths_73 : decode M_Chart_countBreaths.2.1 73 = .ok (.getfield 43, 3) := by decide +kernel
theorem d_Chart_countBreaths_76 : decode M_Chart_countBreaths.2.1 76 = .ok (.iload 6, 2) := by decide +kernel
theorem d_Chart_countBreaths_78 : decode M_Chart_countBreaths.2.1 78 = .ok (.iaload, 1) := by decide +kernel
theorem d_Chart_countBreaths_79 : decode M_Chart_countBreaths.2.1 79 = .ok (.iload_n 1, 1) := by decide +kernel
theorem d_Chart_countBreaths_80 : decode M_Chart_countBreaths.2.1 80 = .ok (.if_icmp .eq 21, 3) := by decide +kernel
theorem d_Chart_countBreaths_83 : decode M_Chart_countBreaths.2.1 83 = .ok (.aload_n 0, 1) := by decide +kernel
theorem d_Chart_countBreaths_84 : decode M_Chart_countBreaths.2.1 84 = .ok (.getfield 43, 3) := by decide +kernel
theorem d_Chart_countBreaths_87 : decode M_Chart_countBreaths.2.1 87 = .ok (.iload 6, 2) := by decide +kernel
theorem d_Chart_countBreaths_89 : decode M_Chart_countBreaths.2.1 89 = .ok (.iload_n 1, 1) := by decide +kernel
theorem d_Chart_countBreaths_90 : decode M_Chart_countBreaths.2.1 90 = .ok (.iastore, 1) := by decide +kernel
theorem d_Chart_countBreaths_91 : decode M_Chart_countBreaths.2.1 91 = .ok (.iinc 2 1, 3) := by decide +kernel
theorem d_Chart_countBreaths_94 : decode M_Chart_countBreaths.2.1 94 = .ok (.iload_n 3, 1) := by decide +kernel
theorem d_Chart_countBreaths_95 : decode M_Chart_countBreaths.2.1 95 = .ok (.iload 6, 2) := by decide +kernel
theorem d_Chart_countBreaths_97 : decode M_Chart_countBreaths.2.1 97 = .ok (.invokestatic 88, 3) := by decide +kernel
theorem d_Chart_countBreaths_100 : decode M_Chart_countBreaths.2.1 100 = .ok (.istore_n 3, 1) := by decide +kernel
theorem d_Chart_countBreaths_101 : decode M_Chart_countBreaths.2.1 101 = .ok (.iinc 5 1, 3) := by decide +kernel
theorem d_Chart_countBreaths_104 : decode M_Chart_countBreaths.2.1 104 = .ok (.goto (-75), 3) := by decide +kernel
theorem d_Chart_countBreaths_107 : decode M_Chart_countBreaths.2.1 107 = .ok (.iinc 4 1, 3) := by decide +kernel
theorem d_Chart_countBreaths_110 : decode M_Chart_countBreaths.2.1 110 = .ok (.goto (-97), 3) := by decide +kernel
theorem d_Chart_countBreaths_113 : decode M_Chart_countBreaths.2.1 113 = .ok (.aload_n 0, 1) := by decide +kernel
theorem d_Chart_countBreaths_114 : decode M_Chart_countBreaths.2.1 114 = .ok (.getfield 34, 3) := by decide +kernel
theorem d_Chart_countBreaths_117 : decode M_Chart_countBreaths.2.1 117 = .ok (.iload_n 1, 1) := by decide +kernel
theorem d_Chart_countBreaths_118 : decode M_Chart_countBreaths.2.1 118 = .ok (.iload_n 2, 1) := by decide +kernel
theorem d_Chart_countBreaths_119 : decode M_Chart_countBreaths.2.1 119 = .ok (.iastore, 1) := by decide +kernel
theorem d_Chart_countBreaths_120 : decode M_Chart_countBreaths.2.1 120 = .ok (.aload_n 0, 1) := by decide +kernel
theorem d_Chart_countBreaths_121 : decode M_Chart_countBreaths.2.1 121 = .ok (.getfield 37, 3) := by decide +kernel
theorem d_Chart_countBreaths_124 : decode M_Chart_countBreaths.2.1 124 = .ok (.iload_n 1, 1) := by decide +kernel
theorem d_Chart_countBreaths_125 : decode M_Chart_countBreaths.2.1 125 = .ok (.iload_n 3, 1) := by decide +kernel
theorem d_Chart_countBreaths_126 : decode M_Chart_countBreaths.2.1 126 = .ok (.iastore, 1) := by decide +kernel
theorem d_Chart_countBreaths_127 : decode M_Chart_countBreaths.2.1 127 = .ok (.return_, 1) := by decide +kernel
theorem d_Trial_init_0 : decode M_Trial_init.2.1 0 = .ok (.aload_n 0, 1) := by decide +kernel
theorem d_Trial_init_1 : decode M_Trial_init.2.1 1 = .ok (.invokespecial 3, 3) := by decide +kernel
theorem d_Trial_init_4 : decode M_Trial_init.2.1 4 = .ok (.aload_n 0, 1) := by decide +kernel
theorem d_Trial_init_5 : decode M_Trial_init.2.1 5 = .ok (.aload_n 1, 1) := by decide +kernel
theorem d_Trial_init_6 : decode M_Trial_init.2.1 6 = .ok (.putfield 9, 3) := by decide +kernel
theorem d_Trial_init_9 : decode M_Trial_init.2.1 9 = .ok (.aload_n 0, 1) := by decide +kernel
theorem d_Trial_init_10 : decode M_Trial_init.2.1 10 = .ok (.aload_n 2, 1) := by decide +kernel
theorem d_Trial_init_11 : decode M_Trial_init.2.1 11 = .ok (.putfield 15, 3) := by decide +kernel
theorem d_Trial_init_14 : decode M_Trial_init.2.1 14 = .ok (.aload_n 0, 1) := by decide +kernel
theorem d_Trial_init_15 : decode M_Trial_init.2.1 15 = .ok (.aload_n 3, 1) := by decide +kernel
theorem d_Trial_init_16 : decode M_Trial_init.2.1 16 = .ok (.putfield 19, 3) := by decide +kernel
theorem d_Trial_init_19 : decode M_Trial_init.2.1 19 = .ok (.aload_n 0, 1) := by decide +kernel
theorem d_Trial_init_20 : decode M_Trial_init.2.1 20 = .ok (.aload_n 1, 1) := by decide +kernel
theorem d_Trial_init_21 : decode M_Trial_init.2.1 21 = .ok (.getfield 23, 3) := by decide +kernel
theorem d_Trial_init_24 : decode M_Trial_init.2.1 24 = .ok (.invokestatic 29, 3) := by decide +kernel
theorem d_Trial_init_27 : decode M_Trial_init.2.1 27 = .ok (.putfield 35, 3) := by decide +kernel
theorem d_Trial_init_30 : decode M_Trial_init.2.1 30 = .ok (.return_, 1) := by decide +kernel
theorem d_Trial_attempt_0 : decode M_Trial_attempt.2.1 0 = .ok (.aload_n 1, 1) := by decide +kernel
theorem d_Trial_attempt_1 : decode M_Trial_attempt.2.1 1 = .ok (.iconst 0, 1) := by decide +kernel
theorem d_Trial_attempt_2 : decode M_Trial_attempt.2.1 2 = .ok (.aload_n 0, 1) := by decide +kernel
theorem d_Trial_attempt_3 : decode M_Trial_attempt.2.1 3 = .ok (.getfield 35, 3) := by decide +kernel
theorem d_Trial_attempt_6 : decode M_Trial_attempt.2.1 6 = .ok (.iconst 0, 1) := by decide +kernel
theorem d_Trial_attempt_7 : decode M_Trial_attempt.2.1 7 = .ok (.aload_n 0, 1) := by decide +kernel
theorem d_Trial_attempt_8 : decode M_Trial_attempt.2.1 8 = .ok (.getfield 35, 3) := by decide +kernel
theorem d_Trial_attempt_11 : decode M_Trial_attempt.2.1 11 = .ok (.arraylength, 1) := by decide +kernel
theorem d_Trial_attempt_12 : decode M_Trial_attempt.2.1 12 = .ok (.invokestatic 39, 3) := by decide +kernel
theorem d_Trial_attempt_15 : decode M_Trial_attempt.2.1 15 = .ok (.aload_n 0, 1) := by decide +kernel
theorem d_Trial_attempt_16 : decode M_Trial_attempt.2.1 16 = .ok (.getfield 35, 3) := by decide +kernel
theorem d_Trial_attempt_19 : decode M_Trial_attempt.2.1 19 = .ok (.iload_n 2, 1) := by decide +kernel
theorem d_Trial_attempt_20 : decode M_Trial_attempt.2.1 20 = .ok (.iload_n 3, 1) := by decide +kernel
theorem d_Trial_attempt_21 : decode M_Trial_attempt.2.1 21 = .ok (.invokestatic 45, 3) := by decide +kernel
theorem d_Trial_attempt_24 : decode M_Trial_attempt.2.1 24 = .ok (.aload_n 0, 1) := by decide +kernel
theorem d_Trial_attempt_25 : decode M_Trial_attempt.2.1 25 = .ok (.iconst 0, 1) := by decide +kernel
theorem d_Trial_attempt_26 : decode M_Trial_attempt.2.1 26 = .ok (.putfield 49, 3) := by decide +kernel
theorem d_Trial_attempt_29 : decode M_Trial_attempt.2.1 29 = .ok (.aload_n 0, 1) := by decide +kernel
theorem d_Trial_attempt_30 : decode M_Trial_attempt.2.1 30 = .ok (.iload_n 3, 1) := by decide +kernel
theorem d_Trial_attempt_31 : decode M_Trial_attempt.2.1 31 = .ok (.invokestatic 52, 3) := by decide +kernel
theorem d_Trial_attempt_34 : decode M_Trial_attempt.2.1 34 = .ok (.putfield 56, 3) := by decide +kernel
theorem d_Trial_attempt_37 : decode M_Trial_attempt.2.1 37 = .ok (.aload_n 0, 1) := by decide +kernel
theorem d_Trial_attempt_38 : decode M_Trial_attempt.2.1 38 = .ok (.iload_n 2, 1) := by decide +kernel
theorem d_Trial_attempt_39 : decode M_Trial_attempt.2.1 39 = .ok (.aload_n 0, 1) := by decide +kernel
theorem d_Trial_attempt_40 : decode M_Trial_attempt.2.1 40 = .ok (.getfield 56, 3) := by decide +kernel
theorem d_Trial_attempt_43 : decode M_Trial_attempt.2.1 43 = .ok (.invokevirtual 59, 3) := by decide +kernel
theorem d_Trial_attempt_46 : decode M_Trial_attempt.2.1 46 = .ok (.aload_n 0, 1) := by decide +kernel
theorem d_Trial_attempt_47 : decode M_Trial_attempt.2.1 47 = .ok (.getfield 49, 3) := by decide +kernel
theorem d_Trial_attempt_50 : decode M_Trial_attempt.2.1 50 = .ok (.ifCond .ne 42, 3) := by decide +kernel
theorem d_Trial_attempt_53 : decode M_Trial_attempt.2.1 53 = .ok (.aload_n 0, 1) := by decide +kernel
theorem d_Trial_attempt_54 : decode M_Trial_attempt.2.1 54 = .ok (.iload_n 2, 1) := by decide +kernel
theorem d_Trial_attempt_55 : decode M_Trial_attempt.2.1 55 = .ok (.iload_n 3, 1) := by decide +kernel
theorem d_Trial_attempt_56 : decode M_Trial_attempt.2.1 56 = .ok (.invokevirtual 63, 3) := by decide +kernel
theorem d_Trial_attempt_59 : decode M_Trial_attempt.2.1 59 = .ok (.ifCond .ne 33, 3) := by decide +kernel
theorem d_Trial_attempt_62 : decode M_Trial_attempt.2.1 62 = .ok (.aload_n 0, 1) := by decide +kernel
theorem d_Trial_attempt_63 : decode M_Trial_attempt.2.1 63 = .ok (.iload_n 3, 1) := by decide +kernel
theorem d_Trial_attempt_64 : decode M_Trial_attempt.2.1 64 = .ok (.putfield 56, 3) := by decide +kernel
theorem d_Trial_attempt_67 : decode M_Trial_attempt.2.1 67 = .ok (.aload_n 0, 1) := by decide +kernel
theorem d_Trial_attempt_68 : decode M_Trial_attempt.2.1 68 = .ok (.iload_n 2, 1) := by decide +kernel
theorem d_Trial_attempt_69 : decode M_Trial_attempt.2.1 69 = .ok (.iload_n 3, 1) := by decide +kernel
theorem d_Trial_attempt_70 : decode M_Trial_attempt.2.1 70 = .ok (.invokevirtual 59, 3) := by decide +kernel
theorem d_Trial_attempt_73 : decode M_Trial_attempt.2.1 73 = .ok (.aload_n 0, 1) := by decide +kernel
theorem d_Trial_attempt_74 : decode M_Trial_attempt.2.1 74 = .ok (.getfield 35, 3) := by decide +kernel
theorem d_Trial_attempt_77 : decode M_Trial_attempt.2.1 77 = .ok (.iload_n 2, 1) := by decide +kernel
theorem d_Trial_attempt_78 : decode M_Trial_attempt.2.1 78 = .ok (.iconst 0, 1) := by decide +kernel
theorem d_Trial_attempt_79 : decode M_Trial_attempt.2.1 79 = .ok (.invokestatic 45, 3) := by decide +kernel
theorem d_Trial_attempt_82 : decode M_Trial_attempt.2.1 82 = .ok (.aload_n 0, 1) := by decide +kernel
theorem d_Trial_attempt_83 : decode M_Trial_attempt.2.1 83 = .ok (.dup, 1) := by decide +kernel
theorem d_Trial_attempt_84 : decode M_Trial_attempt.2.1 84 = .ok (.getfield 49, 3) := by decide +kernel
theorem d_Trial_attempt_87 : decode M_Trial_attempt.2.1 87 = .ok (.iconst 1, 1) := by decide +kernel
theorem d_Trial_attempt_88 : decode M_Trial_attempt.2.1 88 = .ok (.iadd, 1) := by decide +kernel
theorem d_Trial_attempt_89 : decode M_Trial_attempt.2.1 89 = .ok (.putfield 49, 3) := by decide +kernel
theorem d_Trial_attempt_92 : decode M_Trial_attempt.2.1 92 = .ok (.return_, 1) := by decide +kernel
theorem d_Trial_takeClosedStrings_0 : decode M_Trial_takeClosedStrings.2.1 0 = .ok (.iconst 0, 1) := by decide +kernel
theorem d_Trial_takeClosedStrings_1 : decode M_Trial_takeClosedStrings.2.1 1 = .ok (.istore_n 3, 1) := by decide +kernel
theorem d_Trial_takeClosedStrings_2 : decode M_Trial_takeClosedStrings.2.1 2 = .ok (.iload_n 3, 1) := by decide +kernel
theorem d_Trial_takeClosedStrings_3 : decode M_Trial_takeClosedStrings.2.1 3 = .ok (.iconst 4, 1) := by decide +kernel
theorem d_Trial_takeClosedStrings_4 : decode M_Trial_takeClosedStrings.2.1 4 = .ok (.if_icmp .ge 75, 3) := by decide +kernel
theorem d_Trial_takeClosedStrings_7 : decode M_Trial_takeClosedStrings.2.1 7 = .ok (.aload_n 0, 1) := by decide +kernel
theorem d_Trial_takeClosedStrings_8 : decode M_Trial_takeClosedStrings.2.1 8 = .ok (.getfield 9, 3) := by decide +kernel
theorem d_Trial_takeClosedStrings_11 : decode M_Trial_takeClosedStrings.2.1 11 = .ok (.iload_n 1, 1) := by decide +kernel
theorem d_Trial_takeClosedStrings_12 : decode M_Trial_takeClosedStrings.2.1 12 = .ok (.iload_n 3, 1) := by decide +kernel
theorem d_Trial_takeClosedStrings_13 : decode M_Trial_takeClosedStrings.2.1 13 = .ok (.invokevirtual 67, 3) := by decide +kernel
theorem d_Trial_takeClosedStrings_16 : decode M_Trial_takeClosedStrings.2.1 16 = .ok (.istore 4, 2) := by decide +kernel
theorem d_Trial_takeClosedStrings_18 : decode M_Trial_takeClosedStrings.2.1 18 = .ok (.iload 4, 2) := by decide +kernel
theorem d_Trial_takeClosedStrings_20 : decode M_Trial_takeClosedStrings.2.1 20 = .ok (.iconst (-1), 1) := by decide +kernel
theorem d_Trial_takeClosedStrings_21 : decode M_Trial_takeClosedStrings.2.1 21 = .ok (.if_icmp .eq 52, 3) := by decide +kernel
theorem d_Trial_takeClosedStrings_24 : decode M_Trial_takeClosedStrings.2.1 24 = .ok (.aload_n 0, 1) := by decide +kernel
theorem d_Trial_takeClosedStrings_25 : decode M_Trial_takeClosedStrings.2.1 25 = .ok (.getfield 15, 3) := by decide +kernel
theorem d_Trial_takeClosedStrings_28 : decode M_Trial_takeClosedStrings.2.1 28 = .ok (.iload 4, 2) := by decide +kernel
theorem d_Trial_takeClosedStrings_30 : decode M_Trial_takeClosedStrings.2.1 30 = .ok (.iaload, 1) := by decide +kernel
theorem d_Trial_takeClosedStrings_31 : decode M_Trial_takeClosedStrings.2.1 31 = .ok (.iload_n 2, 1) := by decide +kernel
theorem d_Trial_takeClosedStrings_32 : decode M_Trial_takeClosedStrings.2.1 32 = .ok (.if_icmp .ne 41, 3) := by decide +kernel
theorem d_Trial_takeClosedStrings_35 : decode M_Trial_takeClosedStrings.2.1 35 = .ok (.aload_n 0, 1) := by decide +kernel
theorem d_Trial_takeClosedStrings_36 : decode M_Trial_takeClosedStrings.2.1 36 = .ok (.iload 4, 2) := by decide +kernel
theorem d_Trial_takeClosedStrings_38 : decode M_Trial_takeClosedStrings.2.1 38 = .ok (.invokevirtual 71, 3) := by decide +kernel
theorem d_Trial_takeClosedStrings_41 : decode M_Trial_takeClosedStrings.2.1 41 = .ok (.ifCond .eq 32, 3) := by decide +kernel
theorem d_Trial_takeClosedStrings_44 : decode M_Trial_takeClosedStrings.2.1 44 = .ok (.aload_n 0, 1) := by decide +kernel
theorem d_Trial_takeClosedStrings_45 : decode M_Trial_takeClosedStrings.2.1 45 = .ok (.getfield 35, 3) := by decide +kernel
theorem d_Trial_takeClosedStrings_48 : decode M_Trial_takeClosedStrings.2.1 48 = .ok (.iload 4, 2) := by decide +kernel
theorem d_Trial_takeClosedStrings_50 : decode M_Trial_takeClosedStrings.2.1 50 = .ok (.invokestatic 75, 3) := by decide +kernel
theorem d_Trial_takeClosedStrings_53 : decode M_Trial_takeClosedStrings.2.1 53 = .ok (.iload_n 2, 1) := by decide +kernel
theorem d_Trial_takeClosedStrings_54 : decode M_Trial_takeClosedStrings.2.1 54 = .ok (.if_icmp .ne 19, 3) := by decide +kernel
theorem d_Trial_takeClosedStrings_57 : decode M_Trial_takeClosedStrings.2.1 57 = .ok (.aload_n 0, 1) := by decide +kernel
theorem d_Trial_takeClosedStrings_58 : decode M_Trial_takeClosedStrings.2.1 58 = .ok (.aload_n 0, 1) := by decide +kernel
theorem d_Trial_takeClosedStrings_59 : decode M_Trial_takeClosedStrings.2.1 59 = .ok (.getfield 19, 3) := by decide +kernel
theorem d_Trial_takeClosedStrings_62 : decode M_Trial_takeClosedStrings.2.1 62 = .ok (.getfield 79, 3) := by decide +kernel
theorem d_Trial_takeClosedStrings_65 : decode M_Trial_takeClosedStrings.2.1 65 = .ok (.iload 4, 2) := by decide +kernel
theorem d_Trial_takeClosedStrings_67 : decode M_Trial_takeClosedStrings.2.1 67 = .ok (.invokevirtual 85, 3) := by decide +kernel
theorem d_Trial_takeClosedStrings_70 : decode M_Trial_takeClosedStrings.2.1 70 = .ok (.invokevirtual 90, 3) := by decide +kernel
theorem d_Trial_takeClosedStrings_73 : decode M_Trial_takeClosedStrings.2.1 73 = .ok (.iinc 3 1, 3) := by decide +kernel
theorem d_Trial_takeClosedStrings_76 : decode M_Trial_takeClosedStrings.2.1 76 = .ok (.goto (-74), 3) := by decide +kernel
theorem d_Trial_takeClosedStrings_79 : decode M_Trial_takeClosedStrings.2.1 79 = .ok (.return_, 1) := by decide +kernel
theorem d_Trial_isLastBreathOf_0 : decode M_Trial_isLastBreathOf.2.1 0 = .ok (.aload_n 0, 1) := by decide +kernel
theorem d_Trial_isLastBreathOf_1 : decode M_Trial_isLastBreathOf.2.1 1 = .ok (.getfield 19, 3) := by decide +kernel
theorem d_Trial_isLastBreathOf_4 : decode M_Trial_isLastBreathOf.2.1 4 = .ok (.aload_n 0, 1) := by decide +kernel
theorem d_Trial_isLastBreathOf_5 : decode M_Trial_isLastBreathOf.2.1 5 = .ok (.getfield 19, 3) := by decide +kernel
theorem d_Trial_isLastBreathOf_8 : decode M_Trial_isLastBreathOf.2.1 8 = .ok (.getfield 79, 3) := by decide +kernel
theorem d_Trial_isLastBreathOf_11 : decode M_Trial_isLastBreathOf.2.1 11 = .ok (.iload_n 1, 1) := by decide +kernel
theorem d_Trial_isLastBreathOf_12 : decode M_Trial_isLastBreathOf.2.1 12 = .ok (.invokevirtual 85, 3) := by decide +kernel
theorem d_Trial_isLastBreathOf_15 : decode M_Trial_isLastBreathOf.2.1 15 = .ok (.invokevirtual 100, 3) := by decide +kernel
theorem d_Trial_isLastBreathOf_18 : decode M_Trial_isLastBreathOf.2.1 18 = .ok (.iconst 1, 1) := by decide +kernel
theorem d_Trial_isLastBreathOf_19 : decode M_Trial_isLastBreathOf.2.1 19 = .ok (.if_icmp .ne 7, 3) := by decide +kernel
theorem d_Trial_isLastBreathOf_22 : decode M_Trial_isLastBreathOf.2.1 22 = .ok (.iconst 1, 1) := by decide +kernel
theorem d_Trial_isLastBreathOf_23 : decode M_Trial_isLastBreathOf.2.1 23 = .ok (.goto 4, 3) := by decide +kernel
theorem d_Trial_isLastBreathOf_26 : decode M_Trial_isLastBreathOf.2.1 26 = .ok (.iconst 0, 1) := by decide +kernel
theorem d_Trial_isLastBreathOf_27 : decode M_Trial_isLastBreathOf.2.1 27 = .ok (.ireturn, 1) := by decide +kernel
theorem d_Chart_breathsOf_0 : decode M_Chart_breathsOf.2.1 0 = .ok (.aload_n 0, 1) := by decide +kernel
theorem d_Chart_breathsOf_1 : decode M_Chart_breathsOf.2.1 1 = .ok (.getfield 34, 3) := by decide +kernel
theorem d_Chart_breathsOf_4 : decode M_Chart_breathsOf.2.1 4 = .ok (.iload_n 1, 1) := by decide +kernel
theorem d_Chart_breathsOf_5 : decode M_Chart_breathsOf.2.1 5 = .ok (.iaload, 1) := by decide +kernel
theorem d_Chart_breathsOf_6 : decode M_Chart_breathsOf.2.1 6 = .ok (.ireturn, 1) := by decide +kernel
theorem d_Trial_takeString_0 : decode M_Trial_takeString.2.1 0 = .ok (.iconst 0, 1) := by decide +kernel
theorem d_Trial_takeString_1 : decode M_Trial_takeString.2.1 1 = .ok (.istore_n 2, 1) := by decide +kernel
theorem d_Trial_takeString_2 : decode M_Trial_takeString.2.1 2 = .ok (.iload_n 2, 1) := by decide +kernel
theorem d_Trial_takeString_3 : decode M_Trial_takeString.2.1 3 = .ok (.aload_n 0, 1) := by decide +kernel
theorem d_Trial_takeString_4 : decode M_Trial_takeString.2.1 4 = .ok (.getfield 19, 3) := by decide +kernel
theorem d_Trial_takeString_7 : decode M_Trial_takeString.2.1 7 = .ok (.getfield 79, 3) := by decide +kernel
theorem d_Trial_takeString_10 : decode M_Trial_takeString.2.1 10 = .ok (.iload_n 1, 1) := by decide +kernel
theorem d_Trial_takeString_11 : decode M_Trial_takeString.2.1 11 = .ok (.invokevirtual 94, 3) := by decide +kernel
theorem d_Trial_takeString_14 : decode M_Trial_takeString.2.1 14 = .ok (.if_icmp .ge 29, 3) := by decide +kernel
theorem d_Trial_takeString_17 : decode M_Trial_takeString.2.1 17 = .ok (.aload_n 0, 1) := by decide +kernel
theorem d_Trial_takeString_18 : decode M_Trial_takeString.2.1 18 = .ok (.getfield 35, 3) := by decide +kernel
theorem d_Trial_takeString_21 : decode M_Trial_takeString.2.1 21 = .ok (.aload_n 0, 1) := by decide +kernel
theorem d_Trial_takeString_22 : decode M_Trial_takeString.2.1 22 = .ok (.getfield 19, 3) := by decide +kernel
theorem d_Trial_takeString_25 : decode M_Trial_takeString.2.1 25 = .ok (.getfield 79, 3) := by decide +kernel
theorem d_Trial_takeString_28 : decode M_Trial_takeString.2.1 28 = .ok (.iload_n 1, 1) := by decide +kernel
theorem d_Trial_takeString_29 : decode M_Trial_takeString.2.1 29 = .ok (.iload_n 2, 1) := by decide +kernel
theorem d_Trial_takeString_30 : decode M_Trial_takeString.2.1 30 = .ok (.invokevirtual 97, 3) := by decide +kernel
theorem d_Trial_takeString_33 : decode M_Trial_takeString.2.1 33 = .ok (.iconst 0, 1) := by decide +kernel
theorem d_Trial_takeString_34 : decode M_Trial_takeString.2.1 34 = .ok (.invokestatic 45, 3) := by decide +kernel
theorem d_Trial_takeString_37 : decode M_Trial_takeString.2.1 37 = .ok (.iinc 2 1, 3) := by decide +kernel
theorem d_Trial_takeString_40 : decode M_Trial_takeString.2.1 40 = .ok (.goto (-38), 3) := by decide +kernel
theorem d_Trial_takeString_43 : decode M_Trial_takeString.2.1 43 = .ok (.aload_n 0, 1) := by decide +kernel
theorem d_Trial_takeString_44 : decode M_Trial_takeString.2.1 44 = .ok (.dup, 1) := by decide +kernel
theorem d_Trial_takeString_45 : decode M_Trial_takeString.2.1 45 = .ok (.getfield 49, 3) := by decide +kernel
theorem d_Trial_takeString_48 : decode M_Trial_takeString.2.1 48 = .ok (.aload_n 0, 1) := by decide +kernel
theorem d_Trial_takeString_49 : decode M_Trial_takeString.2.1 49 = .ok (.getfield 19, 3) := by decide +kernel
theorem d_Trial_takeString_52 : decode M_Trial_takeString.2.1 52 = .ok (.getfield 79, 3) := by decide +kernel
theorem d_Trial_takeString_55 : decode M_Trial_takeString.2.1 55 = .ok (.iload_n 1, 1) := by decide +kernel
theorem d_Trial_takeString_56 : decode M_Trial_takeString.2.1 56 = .ok (.invokevirtual 94, 3) := by decide +kernel
theorem d_Trial_takeString_59 : decode M_Trial_takeString.2.1 59 = .ok (.iadd, 1) := by decide +kernel
theorem d_Trial_takeString_60 : decode M_Trial_takeString.2.1 60 = .ok (.putfield 49, 3) := by decide +kernel
theorem d_Trial_takeString_63 : decode M_Trial_takeString.2.1 63 = .ok (.return_, 1) := by decide +kernel
theorem d_Trial_findsBreath_0 : decode M_Trial_findsBreath.2.1 0 = .ok (.iconst 0, 1) := by decide +kernel
theorem d_Trial_findsBreath_1 : decode M_Trial_findsBreath.2.1 1 = .ok (.istore_n 3, 1) := by decide +kernel
theorem d_Trial_findsBreath_2 : decode M_Trial_findsBreath.2.1 2 = .ok (.iload_n 3, 1) := by decide +kernel
theorem d_Trial_findsBreath_3 : decode M_Trial_findsBreath.2.1 3 = .ok (.iconst 4, 1) := by decide +kernel
theorem d_Trial_findsBreath_4 : decode M_Trial_findsBreath.2.1 4 = .ok (.if_icmp .ge 58, 3) := by decide +kernel
theorem d_Trial_findsBreath_7 : decode M_Trial_findsBreath.2.1 7 = .ok (.aload_n 0, 1) := by decide +kernel
theorem d_Trial_findsBreath_8 : decode M_Trial_findsBreath.2.1 8 = .ok (.getfield 9, 3) := by decide +kernel
theorem d_Trial_findsBreath_11 : decode M_Trial_findsBreath.2.1 11 = .ok (.iload_n 1, 1) := by decide +kernel
theorem d_Trial_findsBreath_12 : decode M_Trial_findsBreath.2.1 12 = .ok (.iload_n 3, 1) := by decide +kernel
theorem d_Trial_findsBreath_13 : decode M_Trial_findsBreath.2.1 13 = .ok (.invokevirtual 67, 3) := by decide +kernel
theorem d_Trial_findsBreath_16 : decode M_Trial_findsBreath.2.1 16 = .ok (.istore 4, 2) := by decide +kernel
theorem d_Trial_findsBreath_18 : decode M_Trial_findsBreath.2.1 18 = .ok (.iload 4, 2) := by decide +kernel
theorem d_Trial_findsBreath_20 : decode M_Trial_findsBreath.2.1 20 = .ok (.iconst (-1), 1) := by decide +kernel
theorem d_Trial_findsBreath_21 : decode M_Trial_findsBreath.2.1 21 = .ok (.if_icmp .eq 35, 3) := by decide +kernel
theorem d_Trial_findsBreath_24 : decode M_Trial_findsBreath.2.1 24 = .ok (.aload_n 0, 1) := by decide +kernel
theorem d_Trial_findsBreath_25 : decode M_Trial_findsBreath.2.1 25 = .ok (.getfield 15, 3) := by decide +kernel
theorem d_Trial_findsBreath_28 : decode M_Trial_findsBreath.2.1 28 = .ok (.iload 4, 2) := by decide +kernel
theorem d_Trial_findsBreath_30 : decode M_Trial_findsBreath.2.1 30 = .ok (.iaload, 1) := by decide +kernel
theorem d_Trial_findsBreath_31 : decode M_Trial_findsBreath.2.1 31 = .ok (.ifCond .eq 23, 3) := by decide +kernel
theorem d_Trial_findsBreath_34 : decode M_Trial_findsBreath.2.1 34 = .ok (.aload_n 0, 1) := by decide +kernel
theorem d_Trial_findsBreath_35 : decode M_Trial_findsBreath.2.1 35 = .ok (.getfield 15, 3) := by decide +kernel
theorem d_Trial_findsBreath_38 : decode M_Trial_findsBreath.2.1 38 = .ok (.iload 4, 2) := by decide +kernel
theorem d_Trial_findsBreath_40 : decode M_Trial_findsBreath.2.1 40 = .ok (.iaload, 1) := by decide +kernel
theorem d_Trial_findsBreath_41 : decode M_Trial_findsBreath.2.1 41 = .ok (.iload_n 2, 1) := by decide +kernel
theorem d_Trial_findsBreath_42 : decode M_Trial_findsBreath.2.1 42 = .ok (.if_icmp .ne 14, 3) := by decide +kernel
theorem d_Trial_findsBreath_45 : decode M_Trial_findsBreath.2.1 45 = .ok (.aload_n 0, 1) := by decide +kernel
theorem d_Trial_findsBreath_46 : decode M_Trial_findsBreath.2.1 46 = .ok (.iload 4, 2) := by decide +kernel
theorem d_Trial_findsBreath_48 : decode M_Trial_findsBreath.2.1 48 = .ok (.invokevirtual 71, 3) := by decide +kernel
theorem d_Trial_findsBreath_51 : decode M_Trial_findsBreath.2.1 51 = .ok (.ifCond .ne 5, 3) := by decide +kernel
theorem d_Trial_findsBreath_54 : decode M_Trial_findsBreath.2.1 54 = .ok (.iconst 1, 1) := by decide +kernel
theorem d_Trial_findsBreath_55 : decode M_Trial_findsBreath.2.1 55 = .ok (.ireturn, 1) := by decide +kernel
theorem d_Trial_findsBreath_56 : decode M_Trial_findsBreath.2.1 56 = .ok (.iinc 3 1, 3) := by decide +kernel
theorem d_Trial_findsBreath_59 : decode M_Trial_findsBreath.2.1 59 = .ok (.goto (-57), 3) := by decide +kernel
theorem d_Trial_findsBreath_62 : decode M_Trial_findsBreath.2.1 62 = .ok (.iconst 0, 1) := by decide +kernel
theorem d_Trial_findsBreath_63 : decode M_Trial_findsBreath.2.1 63 = .ok (.ireturn, 1) := by decide +kernel
theorem d_Chart_hasStringWithoutBreath_0 : decode M_Chart_hasStringWithoutBreath.2.1 0 = .ok (.iconst 0, 1) := by decide +kernel
theorem d_Chart_hasStringWithoutBreath_1 : decode M_Chart_hasStringWithoutBreath.2.1 1 = .ok (.istore_n 1, 1) := by decide +kernel
theorem d_Chart_hasStringWithoutBreath_2 : decode M_Chart_hasStringWithoutBreath.2.1 2 = .ok (.iload_n 1, 1) := by decide +kernel
theorem d_Chart_hasStringWithoutBreath_3 : decode M_Chart_hasStringWithoutBreath.2.1 3 = .ok (.aload_n 0, 1) := by decide +kernel
theorem d_Chart_hasStringWithoutBreath_4 : decode M_Chart_hasStringWithoutBreath.2.1 4 = .ok (.getfield 24, 3) := by decide +kernel
theorem d_Chart_hasStringWithoutBreath_7 : decode M_Chart_hasStringWithoutBreath.2.1 7 = .ok (.getfield 59, 3) := by decide +kernel
theorem d_Chart_hasStringWithoutBreath_10 : decode M_Chart_hasStringWithoutBreath.2.1 10 = .ok (.if_icmp .ge 28, 3) := by decide +kernel
theorem d_Chart_hasStringWithoutBreath_13 : decode M_Chart_hasStringWithoutBreath.2.1 13 = .ok (.aload_n 0, 1) := by decide +kernel
theorem d_Chart_hasStringWithoutBreath_14 : decode M_Chart_hasStringWithoutBreath.2.1 14 = .ok (.iload_n 1, 1) := by decide +kernel
theorem d_Chart_hasStringWithoutBreath_15 : decode M_Chart_hasStringWithoutBreath.2.1 15 = .ok (.invokevirtual 60, 3) := by decide +kernel
theorem d_Chart_hasStringWithoutBreath_18 : decode M_Chart_hasStringWithoutBreath.2.1 18 = .ok (.ifCond .ne 14, 3) := by decide +kernel
theorem d_Chart_hasStringWithoutBreath_21 : decode M_Chart_hasStringWithoutBreath.2.1 21 = .ok (.aload_n 0, 1) := by decide +kernel
theorem d_Chart_hasStringWithoutBreath_22 : decode M_Chart_hasStringWithoutBreath.2.1 22 = .ok (.getfield 34, 3) := by decide +kernel
theorem d_Chart_hasStringWithoutBreath_25 : decode M_Chart_hasStringWithoutBreath.2.1 25 = .ok (.iload_n 1, 1) := by decide +kernel
theorem d_Chart_hasStringWithoutBreath_26 : decode M_Chart_hasStringWithoutBreath.2.1 26 = .ok (.iaload, 1) := by decide +kernel
theorem d_Chart_hasStringWithoutBreath_27 : decode M_Chart_hasStringWithoutBreath.2.1 27 = .ok (.ifCond .ne 5, 3) := by decide +kernel
theorem d_Chart_hasStringWithoutBreath_30 : decode M_Chart_hasStringWithoutBreath.2.1 30 = .ok (.iconst 1, 1) := by decide +kernel
theorem d_Chart_hasStringWithoutBreath_31 : decode M_Chart_hasStringWithoutBreath.2.1 31 = .ok (.ireturn, 1) := by decide +kernel
theorem d_Chart_hasStringWithoutBreath_32 : decode M_Chart_hasStringWithoutBreath.2.1 32 = .ok (.iinc 1 1, 3) := by decide +kernel
theorem d_Chart_hasStringWithoutBreath_35 : decode M_Chart_hasStringWithoutBreath.2.1 35 = .ok (.goto (-33), 3) := by decide +kernel
theorem d_Chart_hasStringWithoutBreath_38 : decode M_Chart_hasStringWithoutBreath.2.1 38 = .ok (.iconst 0, 1) := by decide +kernel
theorem d_Chart_hasStringWithoutBreath_39 : decode M_Chart_hasStringWithoutBreath.2.1 39 = .ok (.ireturn, 1) := by decide +kernel
theorem d_Chart_leastBreathOf_0 : decode M_Chart_leastBreathOf.2.1 0 = .ok (.aload_n 0, 1) := by decide +kernel
theorem d_Chart_leastBreathOf_1 : decode M_Chart_leastBreathOf.2.1 1 = .ok (.getfield 37, 3) := by decide +kernel
theorem d_Chart_leastBreathOf_4 : decode M_Chart_leastBreathOf.2.1 4 = .ok (.iload_n 1, 1) := by decide +kernel
theorem d_Chart_leastBreathOf_5 : decode M_Chart_leastBreathOf.2.1 5 = .ok (.iaload, 1) := by decide +kernel
theorem d_Chart_leastBreathOf_6 : decode M_Chart_leastBreathOf.2.1 6 = .ok (.ireturn, 1) := by decide +kernel
theorem d_Chart_countStrings_0 : decode M_Chart_countStrings.2.1 0 = .ok (.iconst 0, 1) := by decide +kernel
theorem d_Chart_countStrings_1 : decode M_Chart_countStrings.2.1 1 = .ok (.istore_n 2, 1) := by decide +kernel
theorem d_Chart_countStrings_2 : decode M_Chart_countStrings.2.1 2 = .ok (.iconst 0, 1) := by decide +kernel
theorem d_Chart_countStrings_3 : decode M_Chart_countStrings.2.1 3 = .ok (.istore_n 3, 1) := by decide +kernel
theorem d_Chart_countStrings_4 : decode M_Chart_countStrings.2.1 4 = .ok (.iload_n 3, 1) := by decide +kernel
theorem d_Chart_countStrings_5 : decode M_Chart_countStrings.2.1 5 = .ok (.aload_n 0, 1) := by decide +kernel
theorem d_Chart_countStrings_6 : decode M_Chart_countStrings.2.1 6 = .ok (.getfield 24, 3) := by decide +kernel
theorem d_Chart_countStrings_9 : decode M_Chart_countStrings.2.1 9 = .ok (.getfield 59, 3) := by decide +kernel
theorem d_Chart_countStrings_12 : decode M_Chart_countStrings.2.1 12 = .ok (.if_icmp .ge 30, 3) := by decide +kernel
theorem d_Chart_countStrings_15 : decode M_Chart_countStrings.2.1 15 = .ok (.aload_n 0, 1) := by decide +kernel
theorem d_Chart_countStrings_16 : decode M_Chart_countStrings.2.1 16 = .ok (.iload_n 3, 1) := by decide +kernel
theorem d_Chart_countStrings_17 : decode M_Chart_countStrings.2.1 17 = .ok (.invokevirtual 60, 3) := by decide +kernel
theorem d_Chart_countStrings_20 : decode M_Chart_countStrings.2.1 20 = .ok (.ifCond .ne 16, 3) := by decide +kernel
theorem d_Chart_countStrings_23 : decode M_Chart_countStrings.2.1 23 = .ok (.aload_n 0, 1) := by decide +kernel
theorem d_Chart_countStrings_24 : decode M_Chart_countStrings.2.1 24 = .ok (.getfield 40, 3) := by decide +kernel
theorem d_Chart_countStrings_27 : decode M_Chart_countStrings.2.1 27 = .ok (.iload_n 3, 1) := by decide +kernel
theorem d_Chart_countStrings_28 : decode M_Chart_countStrings.2.1 28 = .ok (.iaload, 1) := by decide +kernel
theorem d_Chart_countStrings_29 : decode M_Chart_countStrings.2.1 29 = .ok (.iload_n 1, 1) := by decide +kernel
theorem d_Chart_countStrings_30 : decode M_Chart_countStrings.2.1 30 = .ok (.if_icmp .ne 6, 3) := by decide +kernel
theorem d_Chart_countStrings_33 : decode M_Chart_countStrings.2.1 33 = .ok (.iinc 2 1, 3) := by decide +kernel
theorem d_Chart_countStrings_36 : decode M_Chart_countStrings.2.1 36 = .ok (.iinc 3 1, 3) := by decide +kernel
theorem d_Chart_countStrings_39 : decode M_Chart_countStrings.2.1 39 = .ok (.goto (-35), 3) := by decide +kernel
theorem d_Chart_countStrings_42 : decode M_Chart_countStrings.2.1 42 = .ok (.iload_n 2, 1) := by decide +kernel
theorem d_Chart_countStrings_43 : decode M_Chart_countStrings.2.1 43 = .ok (.ireturn, 1) := by decide +kernel
theorem d_Chart_countGround_0 : decode M_Chart_countGround.2.1 0 = .ok (.iconst 0, 1) := by decide +kernel
theorem d_Chart_countGround_1 : decode M_Chart_countGround.2.1 1 = .ok (.istore_n 2, 1) := by decide +kernel
theorem d_Chart_countGround_2 : decode M_Chart_countGround.2.1 2 = .ok (.iconst 0, 1) := by decide +kernel
theorem d_Chart_countGround_3 : decode M_Chart_countGround.2.1 3 = .ok (.istore_n 3, 1) := by decide +kernel
theorem d_Chart_countGround_4 : decode M_Chart_countGround.2.1 4 = .ok (.iload_n 3, 1) := by decide +kernel
theorem d_Chart_countGround_5 : decode M_Chart_countGround.2.1 5 = .ok (.aload_n 0, 1) := by decide +kernel
theorem d_Chart_countGround_6 : decode M_Chart_countGround.2.1 6 = .ok (.getfield 24, 3) := by decide +kernel
theorem d_Chart_countGround_9 : decode M_Chart_countGround.2.1 9 = .ok (.getfield 59, 3) := by decide +kernel
theorem d_Chart_countGround_12 : decode M_Chart_countGround.2.1 12 = .ok (.if_icmp .ge 30, 3) := by decide +kernel
theorem d_Chart_countGround_15 : decode M_Chart_countGround.2.1 15 = .ok (.aload_n 0, 1) := by decide +kernel
theorem d_Chart_countGround_16 : decode M_Chart_countGround.2.1 16 = .ok (.getfield 40, 3) := by decide +kernel
theorem d_Chart_countGround_19 : decode M_Chart_countGround.2.1 19 = .ok (.iload_n 3, 1) := by decide +kernel
theorem d_Chart_countGround_20 : decode M_Chart_countGround.2.1 20 = .ok (.iaload, 1) := by decide +kernel
theorem d_Chart_countGround_21 : decode M_Chart_countGround.2.1 21 = .ok (.iload_n 1, 1) := by decide +kernel
theorem d_Chart_countGround_22 : decode M_Chart_countGround.2.1 22 = .ok (.if_icmp .ne 14, 3) := by decide +kernel
theorem d_Chart_countGround_25 : decode M_Chart_countGround.2.1 25 = .ok (.iload_n 2, 1) := by decide +kernel
theorem d_Chart_countGround_26 : decode M_Chart_countGround.2.1 26 = .ok (.aload_n 0, 1) := by decide +kernel
theorem d_Chart_countGround_27 : decode M_Chart_countGround.2.1 27 = .ok (.getfield 24, 3) := by decide +kernel
theorem d_Chart_countGround_30 : decode M_Chart_countGround.2.1 30 = .ok (.iload_n 3, 1) := by decide +kernel
theorem d_Chart_countGround_31 : decode M_Chart_countGround.2.1 31 = .ok (.invokevirtual 75, 3) := by decide +kernel
theorem d_Chart_countGround_34 : decode M_Chart_countGround.2.1 34 = .ok (.iadd, 1) := by decide +kernel
theorem d_Chart_countGround_35 : decode M_Chart_countGround.2.1 35 = .ok (.istore_n 2, 1) := by decide +kernel
theorem d_Chart_countGround_36 : decode M_Chart_countGround.2.1 36 = .ok (.iinc 3 1, 3) := by decide +kernel
theorem d_Chart_countGround_39 : decode M_Chart_countGround.2.1 39 = .ok (.goto (-35), 3) := by decide +kernel
theorem d_Chart_countGround_42 : decode M_Chart_countGround.2.1 42 = .ok (.iload_n 2, 1) := by decide +kernel
theorem d_Chart_countGround_43 : decode M_Chart_countGround.2.1 43 = .ok (.ireturn, 1) := by decide +kernel
theorem d_Chart_holderOf_0 : decode M_Chart_holderOf.2.1 0 = .ok (.aload_n 0, 1) := by decide +kernel
theorem d_Chart_holderOf_1 : decode M_Chart_holderOf.2.1 1 = .ok (.getfield 40, 3) := by decide +kernel
theorem d_Chart_holderOf_4 : decode M_Chart_holderOf.2.1 4 = .ok (.iload_n 1, 1) := by decide +kernel
theorem d_Chart_holderOf_5 : decode M_Chart_holderOf.2.1 5 = .ok (.iaload, 1) := by decide +kernel
theorem d_Chart_holderOf_6 : decode M_Chart_holderOf.2.1 6 = .ok (.ireturn, 1) := by decide +kernel
