/-! Decode rows, printed. -/
theorem d_History_init_0 : decode M_History_init.2.1 0 = .ok (.aload_n 0, 1) := by decide +kernel
theorem d_History_init_1 : decode M_History_init.2.1 1 = .ok (.invokespecial 3, 3) := by decide +kernel
theorem d_History_init_4 : decode M_History_init.2.1 4 = .ok (.aload_n 0, 1) := by decide +kernel
theorem d_History_init_5 : decode M_History_init.2.1 5 = .ok (.sipush 128, 3) := by decide +kernel
theorem d_History_init_8 : decode M_History_init.2.1 8 = .ok (.anewarray 11, 3) := by decide +kernel
theorem d_History_init_11 : decode M_History_init.2.1 11 = .ok (.putfield 13, 3) := by decide +kernel
theorem d_History_init_14 : decode M_History_init.2.1 14 = .ok (.aload_n 0, 1) := by decide +kernel
theorem d_History_init_15 : decode M_History_init.2.1 15 = .ok (.aconst_null, 1) := by decide +kernel
theorem d_History_init_16 : decode M_History_init.2.1 16 = .ok (.iload_n 1, 1) := by decide +kernel
theorem d_History_init_17 : decode M_History_init.2.1 17 = .ok (.invokestatic 17, 3) := by decide +kernel
theorem d_History_init_20 : decode M_History_init.2.1 20 = .ok (.bipush (-2), 2) := by decide +kernel
theorem d_History_init_22 : decode M_History_init.2.1 22 = .ok (.iconst 0, 1) := by decide +kernel
theorem d_History_init_23 : decode M_History_init.2.1 23 = .ok (.iconst 0, 1) := by decide +kernel
theorem d_History_init_24 : decode M_History_init.2.1 24 = .ok (.invokevirtual 23, 3) := by decide +kernel
theorem d_History_init_27 : decode M_History_init.2.1 27 = .ok (.return_, 1) := by decide +kernel
theorem d_History_keep_0 : decode M_History_keep.2.1 0 = .ok (.aload_n 2, 1) := by decide +kernel
theorem d_History_keep_1 : decode M_History_keep.2.1 1 = .ok (.invokestatic 61, 3) := by decide +kernel
theorem d_History_keep_4 : decode M_History_keep.2.1 4 = .ok (.istore 6, 2) := by decide +kernel
theorem d_History_keep_6 : decode M_History_keep.2.1 6 = .ok (.aload_n 0, 1) := by decide +kernel
theorem d_History_keep_7 : decode M_History_keep.2.1 7 = .ok (.new 11, 3) := by decide +kernel
theorem d_History_keep_10 : decode M_History_keep.2.1 10 = .ok (.dup, 1) := by decide +kernel
theorem d_History_keep_11 : decode M_History_keep.2.1 11 = .ok (.aload_n 1, 1) := by decide +kernel
theorem d_History_keep_12 : decode M_History_keep.2.1 12 = .ok (.aload_n 0, 1) := by decide +kernel
theorem d_History_keep_13 : decode M_History_keep.2.1 13 = .ok (.getfield 13, 3) := by decide +kernel
theorem d_History_keep_16 : decode M_History_keep.2.1 16 = .ok (.iload 6, 2) := by decide +kernel
theorem d_History_keep_18 : decode M_History_keep.2.1 18 = .ok (.aaload, 1) := by decide +kernel
theorem d_History_keep_19 : decode M_History_keep.2.1 19 = .ok (.aload_n 2, 1) := by decide +kernel
theorem d_History_keep_20 : decode M_History_keep.2.1 20 = .ok (.iload_n 3, 1) := by decide +kernel
theorem d_History_keep_21 : decode M_History_keep.2.1 21 = .ok (.iload 4, 2) := by decide +kernel
theorem d_History_keep_23 : decode M_History_keep.2.1 23 = .ok (.iload 5, 2) := by decide +kernel
theorem d_History_keep_25 : decode M_History_keep.2.1 25 = .ok (.invokespecial 75, 3) := by decide +kernel
theorem d_History_keep_28 : decode M_History_keep.2.1 28 = .ok (.putfield 27, 3) := by decide +kernel
theorem d_History_keep_31 : decode M_History_keep.2.1 31 = .ok (.aload_n 0, 1) := by decide +kernel
theorem d_History_keep_32 : decode M_History_keep.2.1 32 = .ok (.getfield 13, 3) := by decide +kernel
theorem d_History_keep_35 : decode M_History_keep.2.1 35 = .ok (.iload 6, 2) := by decide +kernel
theorem d_History_keep_37 : decode M_History_keep.2.1 37 = .ok (.aload_n 0, 1) := by decide +kernel
theorem d_History_keep_38 : decode M_History_keep.2.1 38 = .ok (.getfield 27, 3) := by decide +kernel
theorem d_History_keep_41 : decode M_History_keep.2.1 41 = .ok (.aastore, 1) := by decide +kernel
theorem d_History_keep_42 : decode M_History_keep.2.1 42 = .ok (.return_, 1) := by decide +kernel
theorem d_History_bucketOf_0 : decode M_History_bucketOf.2.1 0 = .ok (.lconst 0, 1) := by decide +kernel
theorem d_History_bucketOf_1 : decode M_History_bucketOf.2.1 1 = .ok (.lstore_n 1, 1) := by decide +kernel
theorem d_History_bucketOf_2 : decode M_History_bucketOf.2.1 2 = .ok (.aload_n 0, 1) := by decide +kernel
theorem d_History_bucketOf_3 : decode M_History_bucketOf.2.1 3 = .ok (.astore_n 3, 1) := by decide +kernel
theorem d_History_bucketOf_4 : decode M_History_bucketOf.2.1 4 = .ok (.aload_n 3, 1) := by decide +kernel
theorem d_History_bucketOf_5 : decode M_History_bucketOf.2.1 5 = .ok (.arraylength, 1) := by decide +kernel
theorem d_History_bucketOf_6 : decode M_History_bucketOf.2.1 6 = .ok (.istore 4, 2) := by decide +kernel
theorem d_History_bucketOf_8 : decode M_History_bucketOf.2.1 8 = .ok (.iconst 0, 1) := by decide +kernel
theorem d_History_bucketOf_9 : decode M_History_bucketOf.2.1 9 = .ok (.istore 5, 2) := by decide +kernel
theorem d_History_bucketOf_11 : decode M_History_bucketOf.2.1 11 = .ok (.iload 5, 2) := by decide +kernel
theorem d_History_bucketOf_13 : decode M_History_bucketOf.2.1 13 = .ok (.iload 4, 2) := by decide +kernel
theorem d_History_bucketOf_15 : decode M_History_bucketOf.2.1 15 = .ok (.if_icmp .ge 24, 3) := by decide +kernel
theorem d_History_bucketOf_18 : decode M_History_bucketOf.2.1 18 = .ok (.aload_n 3, 1) := by decide +kernel
theorem d_History_bucketOf_19 : decode M_History_bucketOf.2.1 19 = .ok (.iload 5, 2) := by decide +kernel
theorem d_History_bucketOf_21 : decode M_History_bucketOf.2.1 21 = .ok (.laload, 1) := by decide +kernel
theorem d_History_bucketOf_22 : decode M_History_bucketOf.2.1 22 = .ok (.lstore 6, 2) := by decide +kernel
theorem d_History_bucketOf_24 : decode M_History_bucketOf.2.1 24 = .ok (.lload_n 1, 1) := by decide +kernel
theorem d_History_bucketOf_25 : decode M_History_bucketOf.2.1 25 = .ok (.lload 6, 2) := by decide +kernel
theorem d_History_bucketOf_27 : decode M_History_bucketOf.2.1 27 = .ok (.lxor, 1) := by decide +kernel
theorem d_History_bucketOf_28 : decode M_History_bucketOf.2.1 28 = .ok (.ldc2_w 78, 3) := by decide +kernel
theorem d_History_bucketOf_31 : decode M_History_bucketOf.2.1 31 = .ok (.lmul, 1) := by decide +kernel
theorem d_History_bucketOf_32 : decode M_History_bucketOf.2.1 32 = .ok (.lstore_n 1, 1) := by decide +kernel
theorem d_History_bucketOf_33 : decode M_History_bucketOf.2.1 33 = .ok (.iinc 5 1, 3) := by decide +kernel
theorem d_History_bucketOf_36 : decode M_History_bucketOf.2.1 36 = .ok (.goto (-25), 3) := by decide +kernel
theorem d_History_bucketOf_39 : decode M_History_bucketOf.2.1 39 = .ok (.lload_n 1, 1) := by decide +kernel
theorem d_History_bucketOf_40 : decode M_History_bucketOf.2.1 40 = .ok (.bipush 57, 2) := by decide +kernel
theorem d_History_bucketOf_42 : decode M_History_bucketOf.2.1 42 = .ok (.lushr, 1) := by decide +kernel
theorem d_History_bucketOf_43 : decode M_History_bucketOf.2.1 43 = .ok (.l2i, 1) := by decide +kernel
theorem d_History_bucketOf_44 : decode M_History_bucketOf.2.1 44 = .ok (.ireturn, 1) := by decide +kernel
theorem d_Life_init_0 : decode M_Life_init.2.1 0 = .ok (.aload_n 0, 1) := by decide +kernel
theorem d_Life_init_1 : decode M_Life_init.2.1 1 = .ok (.invokespecial 3, 3) := by decide +kernel
theorem d_Life_init_4 : decode M_Life_init.2.1 4 = .ok (.aload_n 0, 1) := by decide +kernel
theorem d_Life_init_5 : decode M_Life_init.2.1 5 = .ok (.aload_n 1, 1) := by decide +kernel
theorem d_Life_init_6 : decode M_Life_init.2.1 6 = .ok (.putfield 9, 3) := by decide +kernel
theorem d_Life_init_9 : decode M_Life_init.2.1 9 = .ok (.aload_n 0, 1) := by decide +kernel
theorem d_Life_init_10 : decode M_Life_init.2.1 10 = .ok (.aload_n 2, 1) := by decide +kernel
theorem d_Life_init_11 : decode M_Life_init.2.1 11 = .ok (.putfield 15, 3) := by decide +kernel
theorem d_Life_init_14 : decode M_Life_init.2.1 14 = .ok (.aload_n 0, 1) := by decide +kernel
theorem d_Life_init_15 : decode M_Life_init.2.1 15 = .ok (.aload_n 1, 1) := by decide +kernel
theorem d_Life_init_16 : decode M_Life_init.2.1 16 = .ok (.getfield 19, 3) := by decide +kernel
theorem d_Life_init_19 : decode M_Life_init.2.1 19 = .ok (.newarray .int, 2) := by decide +kernel
theorem d_Life_init_21 : decode M_Life_init.2.1 21 = .ok (.putfield 25, 3) := by decide +kernel
theorem d_Life_init_24 : decode M_Life_init.2.1 24 = .ok (.aload_n 0, 1) := by decide +kernel
theorem d_Life_init_25 : decode M_Life_init.2.1 25 = .ok (.new 28, 3) := by decide +kernel
theorem d_Life_init_28 : decode M_Life_init.2.1 28 = .ok (.dup, 1) := by decide +kernel
theorem d_Life_init_29 : decode M_Life_init.2.1 29 = .ok (.aload_n 1, 1) := by decide +kernel
theorem d_Life_init_30 : decode M_Life_init.2.1 30 = .ok (.invokespecial 30, 3) := by decide +kernel
theorem d_Life_init_33 : decode M_Life_init.2.1 33 = .ok (.putfield 33, 3) := by decide +kernel
theorem d_Life_init_36 : decode M_Life_init.2.1 36 = .ok (.aload_n 0, 1) := by decide +kernel
theorem d_Life_init_37 : decode M_Life_init.2.1 37 = .ok (.aload_n 1, 1) := by decide +kernel
theorem d_Life_init_38 : decode M_Life_init.2.1 38 = .ok (.getfield 19, 3) := by decide +kernel
theorem d_Life_init_41 : decode M_Life_init.2.1 41 = .ok (.newarray .boolean, 2) := by decide +kernel
theorem d_Life_init_43 : decode M_Life_init.2.1 43 = .ok (.putfield 37, 3) := by decide +kernel
theorem d_Life_init_46 : decode M_Life_init.2.1 46 = .ok (.aload_n 0, 1) := by decide +kernel
theorem d_Life_init_47 : decode M_Life_init.2.1 47 = .ok (.iconst 4, 1) := by decide +kernel
theorem d_Life_init_48 : decode M_Life_init.2.1 48 = .ok (.aload_n 1, 1) := by decide +kernel
theorem d_Life_init_49 : decode M_Life_init.2.1 49 = .ok (.getfield 19, 3) := by decide +kernel
theorem d_Life_init_52 : decode M_Life_init.2.1 52 = .ok (.imul, 1) := by decide +kernel
theorem d_Life_init_53 : decode M_Life_init.2.1 53 = .ok (.newarray .int, 2) := by decide +kernel
theorem d_Life_init_55 : decode M_Life_init.2.1 55 = .ok (.putfield 41, 3) := by decide +kernel
theorem d_Life_init_58 : decode M_Life_init.2.1 58 = .ok (.aload_n 0, 1) := by decide +kernel
theorem d_Life_init_59 : decode M_Life_init.2.1 59 = .ok (.aload_n 1, 1) := by decide +kernel
theorem d_Life_init_60 : decode M_Life_init.2.1 60 = .ok (.getfield 19, 3) := by decide +kernel
theorem d_Life_init_63 : decode M_Life_init.2.1 63 = .ok (.newarray .int, 2) := by decide +kernel
theorem d_Life_init_65 : decode M_Life_init.2.1 65 = .ok (.putfield 44, 3) := by decide +kernel
theorem d_Life_init_68 : decode M_Life_init.2.1 68 = .ok (.return_, 1) := by decide +kernel
theorem d_History_hasEnded_0 : decode M_History_hasEnded.2.1 0 = .ok (.aload_n 0, 1) := by decide +kernel
theorem d_History_hasEnded_1 : decode M_History_hasEnded.2.1 1 = .ok (.getfield 27, 3) := by decide +kernel
theorem d_History_hasEnded_4 : decode M_History_hasEnded.2.1 4 = .ok (.getfield 58, 3) := by decide +kernel
theorem d_History_hasEnded_7 : decode M_History_hasEnded.2.1 7 = .ok (.iconst (-1), 1) := by decide +kernel
theorem d_History_hasEnded_8 : decode M_History_hasEnded.2.1 8 = .ok (.if_icmp .ne 31, 3) := by decide +kernel
theorem d_History_hasEnded_11 : decode M_History_hasEnded.2.1 11 = .ok (.aload_n 0, 1) := by decide +kernel
theorem d_History_hasEnded_12 : decode M_History_hasEnded.2.1 12 = .ok (.getfield 27, 3) := by decide +kernel
theorem d_History_hasEnded_15 : decode M_History_hasEnded.2.1 15 = .ok (.getfield 55, 3) := by decide +kernel
theorem d_History_hasEnded_18 : decode M_History_hasEnded.2.1 18 = .ok (.ifnull 21, 3) := by decide +kernel
theorem d_History_hasEnded_21 : decode M_History_hasEnded.2.1 21 = .ok (.aload_n 0, 1) := by decide +kernel
theorem d_History_hasEnded_22 : decode M_History_hasEnded.2.1 22 = .ok (.getfield 27, 3) := by decide +kernel
theorem d_History_hasEnded_25 : decode M_History_hasEnded.2.1 25 = .ok (.getfield 55, 3) := by decide +kernel
theorem d_History_hasEnded_28 : decode M_History_hasEnded.2.1 28 = .ok (.getfield 58, 3) := by decide +kernel
theorem d_History_hasEnded_31 : decode M_History_hasEnded.2.1 31 = .ok (.iconst (-1), 1) := by decide +kernel
theorem d_History_hasEnded_32 : decode M_History_hasEnded.2.1 32 = .ok (.if_icmp .ne 7, 3) := by decide +kernel
theorem d_History_hasEnded_35 : decode M_History_hasEnded.2.1 35 = .ok (.iconst 1, 1) := by decide +kernel
theorem d_History_hasEnded_36 : decode M_History_hasEnded.2.1 36 = .ok (.goto 4, 3) := by decide +kernel
theorem d_History_hasEnded_39 : decode M_History_hasEnded.2.1 39 = .ok (.iconst 0, 1) := by decide +kernel
theorem d_History_hasEnded_40 : decode M_History_hasEnded.2.1 40 = .ok (.ireturn, 1) := by decide +kernel
theorem d_History_find_0 : decode M_History_find.2.1 0 = .ok (.aload_n 0, 1) := by decide +kernel
theorem d_History_find_1 : decode M_History_find.2.1 1 = .ok (.getfield 13, 3) := by decide +kernel
theorem d_History_find_4 : decode M_History_find.2.1 4 = .ok (.aload_n 1, 1) := by decide +kernel
theorem d_History_find_5 : decode M_History_find.2.1 5 = .ok (.invokestatic 61, 3) := by decide +kernel
theorem d_History_find_8 : decode M_History_find.2.1 8 = .ok (.aaload, 1) := by decide +kernel
theorem d_History_find_9 : decode M_History_find.2.1 9 = .ok (.astore_n 2, 1) := by decide +kernel
theorem d_History_find_10 : decode M_History_find.2.1 10 = .ok (.aload_n 2, 1) := by decide +kernel
theorem d_History_find_11 : decode M_History_find.2.1 11 = .ok (.ifnull 19, 3) := by decide +kernel
theorem d_History_find_14 : decode M_History_find.2.1 14 = .ok (.aload_n 2, 1) := by decide +kernel
theorem d_History_find_15 : decode M_History_find.2.1 15 = .ok (.aload_n 1, 1) := by decide +kernel
theorem d_History_find_16 : decode M_History_find.2.1 16 = .ok (.invokevirtual 65, 3) := by decide +kernel
theorem d_History_find_19 : decode M_History_find.2.1 19 = .ok (.ifCond .ne 11, 3) := by decide +kernel
theorem d_History_find_22 : decode M_History_find.2.1 22 = .ok (.aload_n 2, 1) := by decide +kernel
theorem d_History_find_23 : decode M_History_find.2.1 23 = .ok (.getfield 69, 3) := by decide +kernel
theorem d_History_find_26 : decode M_History_find.2.1 26 = .ok (.astore_n 2, 1) := by decide +kernel
theorem d_History_find_27 : decode M_History_find.2.1 27 = .ok (.goto (-17), 3) := by decide +kernel
theorem d_History_find_30 : decode M_History_find.2.1 30 = .ok (.aload_n 2, 1) := by decide +kernel
theorem d_History_find_31 : decode M_History_find.2.1 31 = .ok (.areturn, 1) := by decide +kernel
theorem d_History_beginWith_0 : decode M_History_beginWith.2.1 0 = .ok (.aload_n 0, 1) := by decide +kernel
theorem d_History_beginWith_1 : decode M_History_beginWith.2.1 1 = .ok (.getfield 27, 3) := by decide +kernel
theorem d_History_beginWith_4 : decode M_History_beginWith.2.1 4 = .ok (.getfield 31, 3) := by decide +kernel
theorem d_History_beginWith_7 : decode M_History_beginWith.2.1 7 = .ok (.invokevirtual 35, 3) := by decide +kernel
theorem d_History_beginWith_10 : decode M_History_beginWith.2.1 10 = .ok (.checkcast 36, 3) := by decide +kernel
theorem d_History_beginWith_13 : decode M_History_beginWith.2.1 13 = .ok (.astore_n 3, 1) := by decide +kernel
theorem d_History_beginWith_14 : decode M_History_beginWith.2.1 14 = .ok (.aload_n 3, 1) := by decide +kernel
theorem d_History_beginWith_15 : decode M_History_beginWith.2.1 15 = .ok (.iload_n 1, 1) := by decide +kernel
theorem d_History_beginWith_16 : decode M_History_beginWith.2.1 16 = .ok (.iload_n 2, 1) := by decide +kernel
theorem d_History_beginWith_17 : decode M_History_beginWith.2.1 17 = .ok (.invokestatic 40, 3) := by decide +kernel
theorem d_History_beginWith_20 : decode M_History_beginWith.2.1 20 = .ok (.aload_n 0, 1) := by decide +kernel
theorem d_History_beginWith_21 : decode M_History_beginWith.2.1 21 = .ok (.aload_n 0, 1) := by decide +kernel
theorem d_History_beginWith_22 : decode M_History_beginWith.2.1 22 = .ok (.getfield 27, 3) := by decide +kernel
theorem d_History_beginWith_25 : decode M_History_beginWith.2.1 25 = .ok (.invokevirtual 44, 3) := by decide +kernel
theorem d_History_beginWith_28 : decode M_History_beginWith.2.1 28 = .ok (.aload_n 0, 1) := by decide +kernel
theorem d_History_beginWith_29 : decode M_History_beginWith.2.1 29 = .ok (.aconst_null, 1) := by decide +kernel
theorem d_History_beginWith_30 : decode M_History_beginWith.2.1 30 = .ok (.aload_n 3, 1) := by decide +kernel
theorem d_History_beginWith_31 : decode M_History_beginWith.2.1 31 = .ok (.bipush (-2), 2) := by decide +kernel
theorem d_History_beginWith_33 : decode M_History_beginWith.2.1 33 = .ok (.iconst 0, 1) := by decide +kernel
theorem d_History_beginWith_34 : decode M_History_beginWith.2.1 34 = .ok (.iconst 0, 1) := by decide +kernel
theorem d_History_beginWith_35 : decode M_History_beginWith.2.1 35 = .ok (.invokevirtual 23, 3) := by decide +kernel
theorem d_History_beginWith_38 : decode M_History_beginWith.2.1 38 = .ok (.return_, 1) := by decide +kernel
theorem d_History_takeOutOfBucket_0 : decode M_History_takeOutOfBucket.2.1 0 = .ok (.aload_n 0, 1) := by decide +kernel
theorem d_History_takeOutOfBucket_1 : decode M_History_takeOutOfBucket.2.1 1 = .ok (.getfield 13, 3) := by decide +kernel
theorem d_History_takeOutOfBucket_4 : decode M_History_takeOutOfBucket.2.1 4 = .ok (.aload_n 1, 1) := by decide +kernel
theorem d_History_takeOutOfBucket_5 : decode M_History_takeOutOfBucket.2.1 5 = .ok (.getfield 31, 3) := by decide +kernel
theorem d_History_takeOutOfBucket_8 : decode M_History_takeOutOfBucket.2.1 8 = .ok (.invokestatic 61, 3) := by decide +kernel
theorem d_History_takeOutOfBucket_11 : decode M_History_takeOutOfBucket.2.1 11 = .ok (.aload_n 1, 1) := by decide +kernel
theorem d_History_takeOutOfBucket_12 : decode M_History_takeOutOfBucket.2.1 12 = .ok (.getfield 69, 3) := by decide +kernel
theorem d_History_takeOutOfBucket_15 : decode M_History_takeOutOfBucket.2.1 15 = .ok (.aastore, 1) := by decide +kernel
theorem d_History_takeOutOfBucket_16 : decode M_History_takeOutOfBucket.2.1 16 = .ok (.return_, 1) := by decide +kernel
theorem d_History_addMove_0 : decode M_History_addMove.2.1 0 = .ok (.aload_n 0, 1) := by decide +kernel
theorem d_History_addMove_1 : decode M_History_addMove.2.1 1 = .ok (.getfield 27, 3) := by decide +kernel
theorem d_History_addMove_4 : decode M_History_addMove.2.1 4 = .ok (.getfield 48, 3) := by decide +kernel
theorem d_History_addMove_7 : decode M_History_addMove.2.1 7 = .ok (.iload_n 3, 1) := by decide +kernel
theorem d_History_addMove_8 : decode M_History_addMove.2.1 8 = .ok (.iconst 1, 1) := by decide +kernel
theorem d_History_addMove_9 : decode M_History_addMove.2.1 9 = .ok (.if_icmp .ne 8, 3) := by decide +kernel
theorem d_History_addMove_12 : decode M_History_addMove.2.1 12 = .ok (.iload 4, 2) := by decide +kernel
theorem d_History_addMove_14 : decode M_History_addMove.2.1 14 = .ok (.goto 4, 3) := by decide +kernel
theorem d_History_addMove_17 : decode M_History_addMove.2.1 17 = .ok (.iconst 0, 1) := by decide +kernel
theorem d_History_addMove_18 : decode M_History_addMove.2.1 18 = .ok (.iadd, 1) := by decide +kernel
theorem d_History_addMove_19 : decode M_History_addMove.2.1 19 = .ok (.istore 5, 2) := by decide +kernel
theorem d_History_addMove_21 : decode M_History_addMove.2.1 21 = .ok (.aload_n 0, 1) := by decide +kernel
theorem d_History_addMove_22 : decode M_History_addMove.2.1 22 = .ok (.getfield 27, 3) := by decide +kernel
theorem d_History_addMove_25 : decode M_History_addMove.2.1 25 = .ok (.getfield 52, 3) := by decide +kernel
theorem d_History_addMove_28 : decode M_History_addMove.2.1 28 = .ok (.iload_n 3, 1) := by decide +kernel
theorem d_History_addMove_29 : decode M_History_addMove.2.1 29 = .ok (.iconst 2, 1) := by decide +kernel
theorem d_History_addMove_30 : decode M_History_addMove.2.1 30 = .ok (.if_icmp .ne 8, 3) := by decide +kernel
theorem d_History_addMove_33 : decode M_History_addMove.2.1 33 = .ok (.iload 4, 2) := by decide +kernel
theorem d_History_addMove_35 : decode M_History_addMove.2.1 35 = .ok (.goto 4, 3) := by decide +kernel
theorem d_History_addMove_38 : decode M_History_addMove.2.1 38 = .ok (.iconst 0, 1) := by decide +kernel
theorem d_History_addMove_39 : decode M_History_addMove.2.1 39 = .ok (.iadd, 1) := by decide +kernel
theorem d_History_addMove_40 : decode M_History_addMove.2.1 40 = .ok (.istore 6, 2) := by decide +kernel
theorem d_History_addMove_42 : decode M_History_addMove.2.1 42 = .ok (.aload_n 0, 1) := by decide +kernel
theorem d_History_addMove_43 : decode M_History_addMove.2.1 43 = .ok (.aload_n 0, 1) := by decide +kernel
theorem d_History_addMove_44 : decode M_History_addMove.2.1 44 = .ok (.getfield 27, 3) := by decide +kernel
theorem d_History_addMove_47 : decode M_History_addMove.2.1 47 = .ok (.aload_n 2, 1) := by decide +kernel
theorem d_History_addMove_48 : decode M_History_addMove.2.1 48 = .ok (.invokevirtual 35, 3) := by decide +kernel
theorem d_History_addMove_51 : decode M_History_addMove.2.1 51 = .ok (.checkcast 36, 3) := by decide +kernel
theorem d_History_addMove_54 : decode M_History_addMove.2.1 54 = .ok (.iload_n 1, 1) := by decide +kernel
theorem d_History_addMove_55 : decode M_History_addMove.2.1 55 = .ok (.iload 5, 2) := by decide +kernel
theorem d_History_addMove_57 : decode M_History_addMove.2.1 57 = .ok (.iload 6, 2) := by decide +kernel
theorem d_History_addMove_59 : decode M_History_addMove.2.1 59 = .ok (.invokevirtual 23, 3) := by decide +kernel
theorem d_History_addMove_62 : decode M_History_addMove.2.1 62 = .ok (.return_, 1) := by decide +kernel
theorem d_History_addPass_0 : decode M_History_addPass.2.1 0 = .ok (.aload_n 0, 1) := by decide +kernel
theorem d_History_addPass_1 : decode M_History_addPass.2.1 1 = .ok (.aload_n 0, 1) := by decide +kernel
theorem d_History_addPass_2 : decode M_History_addPass.2.1 2 = .ok (.getfield 27, 3) := by decide +kernel
theorem d_History_addPass_5 : decode M_History_addPass.2.1 5 = .ok (.aload_n 0, 1) := by decide +kernel
theorem d_History_addPass_6 : decode M_History_addPass.2.1 6 = .ok (.getfield 27, 3) := by decide +kernel
theorem d_History_addPass_9 : decode M_History_addPass.2.1 9 = .ok (.getfield 31, 3) := by decide +kernel
theorem d_History_addPass_12 : decode M_History_addPass.2.1 12 = .ok (.iconst (-1), 1) := by decide +kernel
theorem d_History_addPass_13 : decode M_History_addPass.2.1 13 = .ok (.aload_n 0, 1) := by decide +kernel
theorem d_History_addPass_14 : decode M_History_addPass.2.1 14 = .ok (.getfield 27, 3) := by decide +kernel
theorem d_History_addPass_17 : decode M_History_addPass.2.1 17 = .ok (.getfield 48, 3) := by decide +kernel
theorem d_History_addPass_20 : decode M_History_addPass.2.1 20 = .ok (.aload_n 0, 1) := by decide +kernel
theorem d_History_addPass_21 : decode M_History_addPass.2.1 21 = .ok (.getfield 27, 3) := by decide +kernel
theorem d_History_addPass_24 : decode M_History_addPass.2.1 24 = .ok (.getfield 52, 3) := by decide +kernel
theorem d_History_addPass_27 : decode M_History_addPass.2.1 27 = .ok (.invokevirtual 23, 3) := by decide +kernel
theorem d_History_addPass_30 : decode M_History_addPass.2.1 30 = .ok (.return_, 1) := by decide +kernel
theorem d_History_dropLatest_0 : decode M_History_dropLatest.2.1 0 = .ok (.aload_n 0, 1) := by decide +kernel
theorem d_History_dropLatest_1 : decode M_History_dropLatest.2.1 1 = .ok (.getfield 27, 3) := by decide +kernel
theorem d_History_dropLatest_4 : decode M_History_dropLatest.2.1 4 = .ok (.getfield 55, 3) := by decide +kernel
theorem d_History_dropLatest_7 : decode M_History_dropLatest.2.1 7 = .ok (.ifnull 22, 3) := by decide +kernel
theorem d_History_dropLatest_10 : decode M_History_dropLatest.2.1 10 = .ok (.aload_n 0, 1) := by decide +kernel
theorem d_History_dropLatest_11 : decode M_History_dropLatest.2.1 11 = .ok (.aload_n 0, 1) := by decide +kernel
theorem d_History_dropLatest_12 : decode M_History_dropLatest.2.1 12 = .ok (.getfield 27, 3) := by decide +kernel
theorem d_History_dropLatest_15 : decode M_History_dropLatest.2.1 15 = .ok (.invokevirtual 44, 3) := by decide +kernel
theorem d_History_dropLatest_18 : decode M_History_dropLatest.2.1 18 = .ok (.aload_n 0, 1) := by decide +kernel
theorem d_History_dropLatest_19 : decode M_History_dropLatest.2.1 19 = .ok (.aload_n 0, 1) := by decide +kernel
theorem d_History_dropLatest_20 : decode M_History_dropLatest.2.1 20 = .ok (.getfield 27, 3) := by decide +kernel
theorem d_History_dropLatest_23 : decode M_History_dropLatest.2.1 23 = .ok (.getfield 55, 3) := by decide +kernel
theorem d_History_dropLatest_26 : decode M_History_dropLatest.2.1 26 = .ok (.putfield 27, 3) := by decide +kernel
theorem d_History_dropLatest_29 : decode M_History_dropLatest.2.1 29 = .ok (.return_, 1) := by decide +kernel
theorem d_History_pointOfMove_0 : decode M_History_pointOfMove.2.1 0 = .ok (.aload_n 0, 1) := by decide +kernel
theorem d_History_pointOfMove_1 : decode M_History_pointOfMove.2.1 1 = .ok (.getfield 27, 3) := by decide +kernel
theorem d_History_pointOfMove_4 : decode M_History_pointOfMove.2.1 4 = .ok (.astore_n 2, 1) := by decide +kernel
theorem d_History_pointOfMove_5 : decode M_History_pointOfMove.2.1 5 = .ok (.aload_n 2, 1) := by decide +kernel
theorem d_History_pointOfMove_6 : decode M_History_pointOfMove.2.1 6 = .ok (.getfield 55, 3) := by decide +kernel
theorem d_History_pointOfMove_9 : decode M_History_pointOfMove.2.1 9 = .ok (.ifnull 21, 3) := by decide +kernel
theorem d_History_pointOfMove_12 : decode M_History_pointOfMove.2.1 12 = .ok (.aload_n 2, 1) := by decide +kernel
theorem d_History_pointOfMove_13 : decode M_History_pointOfMove.2.1 13 = .ok (.getfield 72, 3) := by decide +kernel
theorem d_History_pointOfMove_16 : decode M_History_pointOfMove.2.1 16 = .ok (.iload_n 1, 1) := by decide +kernel
theorem d_History_pointOfMove_17 : decode M_History_pointOfMove.2.1 17 = .ok (.iconst 1, 1) := by decide +kernel
theorem d_History_pointOfMove_18 : decode M_History_pointOfMove.2.1 18 = .ok (.iadd, 1) := by decide +kernel
theorem d_History_pointOfMove_19 : decode M_History_pointOfMove.2.1 19 = .ok (.if_icmp .le 11, 3) := by decide +kernel
theorem d_History_pointOfMove_22 : decode M_History_pointOfMove.2.1 22 = .ok (.aload_n 2, 1) := by decide +kernel
theorem d_History_pointOfMove_23 : decode M_History_pointOfMove.2.1 23 = .ok (.getfield 55, 3) := by decide +kernel
theorem d_History_pointOfMove_26 : decode M_History_pointOfMove.2.1 26 = .ok (.astore_n 2, 1) := by decide +kernel
theorem d_History_pointOfMove_27 : decode M_History_pointOfMove.2.1 27 = .ok (.goto (-22), 3) := by decide +kernel
theorem d_History_pointOfMove_30 : decode M_History_pointOfMove.2.1 30 = .ok (.aload_n 2, 1) := by decide +kernel
theorem d_History_pointOfMove_31 : decode M_History_pointOfMove.2.1 31 = .ok (.getfield 58, 3) := by decide +kernel
theorem d_History_pointOfMove_34 : decode M_History_pointOfMove.2.1 34 = .ok (.ireturn, 1) := by decide +kernel
theorem d_Life_judge_0 : decode M_Life_judge.2.1 0 = .ok (.iconst 0, 1) := by decide +kernel
theorem d_Life_judge_1 : decode M_Life_judge.2.1 1 = .ok (.istore_n 2, 1) := by decide +kernel
theorem d_Life_judge_2 : decode M_Life_judge.2.1 2 = .ok (.iload_n 2, 1) := by decide +kernel
theorem d_Life_judge_3 : decode M_Life_judge.2.1 3 = .ok (.aload_n 0, 1) := by decide +kernel
theorem d_Life_judge_4 : decode M_Life_judge.2.1 4 = .ok (.getfield 9, 3) := by decide +kernel
theorem d_Life_judge_7 : decode M_Life_judge.2.1 7 = .ok (.getfield 19, 3) := by decide +kernel
theorem d_Life_judge_10 : decode M_Life_judge.2.1 10 = .ok (.if_icmp .ge 30, 3) := by decide +kernel
theorem d_Life_judge_13 : decode M_Life_judge.2.1 13 = .ok (.aload_n 0, 1) := by decide +kernel
theorem d_Life_judge_14 : decode M_Life_judge.2.1 14 = .ok (.getfield 25, 3) := by decide +kernel
theorem d_Life_judge_17 : decode M_Life_judge.2.1 17 = .ok (.iload_n 2, 1) := by decide +kernel
theorem d_Life_judge_18 : decode M_Life_judge.2.1 18 = .ok (.aload_n 0, 1) := by decide +kernel
theorem d_Life_judge_19 : decode M_Life_judge.2.1 19 = .ok (.getfield 15, 3) := by decide +kernel
theorem d_Life_judge_22 : decode M_Life_judge.2.1 22 = .ok (.iload_n 2, 1) := by decide +kernel
theorem d_Life_judge_23 : decode M_Life_judge.2.1 23 = .ok (.iaload, 1) := by decide +kernel
theorem d_Life_judge_24 : decode M_Life_judge.2.1 24 = .ok (.iload_n 1, 1) := by decide +kernel
theorem d_Life_judge_25 : decode M_Life_judge.2.1 25 = .ok (.if_icmp .ne 7, 3) := by decide +kernel
theorem d_Life_judge_28 : decode M_Life_judge.2.1 28 = .ok (.iconst 1, 1) := by decide +kernel
theorem d_Life_judge_29 : decode M_Life_judge.2.1 29 = .ok (.goto 4, 3) := by decide +kernel
theorem d_Life_judge_32 : decode M_Life_judge.2.1 32 = .ok (.iconst 0, 1) := by decide +kernel
theorem d_Life_judge_33 : decode M_Life_judge.2.1 33 = .ok (.iastore, 1) := by decide +kernel
theorem d_Life_judge_34 : decode M_Life_judge.2.1 34 = .ok (.iinc 2 1, 3) := by decide +kernel
theorem d_Life_judge_37 : decode M_Life_judge.2.1 37 = .ok (.goto (-35), 3) := by decide +kernel
theorem d_Life_judge_40 : decode M_Life_judge.2.1 40 = .ok (.aload_n 0, 1) := by decide +kernel
theorem d_Life_judge_41 : decode M_Life_judge.2.1 41 = .ok (.getfield 33, 3) := by decide +kernel
theorem d_Life_judge_44 : decode M_Life_judge.2.1 44 = .ok (.aload_n 0, 1) := by decide +kernel
theorem d_Life_judge_45 : decode M_Life_judge.2.1 45 = .ok (.getfield 25, 3) := by decide +kernel
theorem d_Life_judge_48 : decode M_Life_judge.2.1 48 = .ok (.invokevirtual 47, 3) := by decide +kernel
theorem d_Life_judge_51 : decode M_Life_judge.2.1 51 = .ok (.iconst 0, 1) := by decide +kernel
theorem d_Life_judge_52 : decode M_Life_judge.2.1 52 = .ok (.istore_n 2, 1) := by decide +kernel
theorem d_Life_judge_53 : decode M_Life_judge.2.1 53 = .ok (.iload_n 2, 1) := by decide +kernel
theorem d_Life_judge_54 : decode M_Life_judge.2.1 54 = .ok (.aload_n 0, 1) := by decide +kernel
theorem d_Life_judge_55 : decode M_Life_judge.2.1 55 = .ok (.getfield 33, 3) := by decide +kernel
theorem d_Life_judge_58 : decode M_Life_judge.2.1 58 = .ok (.getfield 51, 3) := by decide +kernel
theorem d_Life_judge_61 : decode M_Life_judge.2.1 61 = .ok (.if_icmp .ge 21, 3) := by decide +kernel
theorem d_Life_judge_64 : decode M_Life_judge.2.1 64 = .ok (.aload_n 0, 1) := by decide +kernel
theorem d_Life_judge_65 : decode M_Life_judge.2.1 65 = .ok (.getfield 37, 3) := by decide +kernel
theorem d_Life_judge_68 : decode M_Life_judge.2.1 68 = .ok (.iload_n 2, 1) := by decide +kernel
theorem d_Life_judge_69 : decode M_Life_judge.2.1 69 = .ok (.iconst 1, 1) := by decide +kernel
theorem d_Life_judge_70 : decode M_Life_judge.2.1 70 = .ok (.bastore, 1) := by decide +kernel
theorem d_Life_judge_71 : decode M_Life_judge.2.1 71 = .ok (.aload_n 0, 1) := by decide +kernel
theorem d_Life_judge_72 : decode M_Life_judge.2.1 72 = .ok (.iload_n 2, 1) := by decide +kernel
theorem d_Life_judge_73 : decode M_Life_judge.2.1 73 = .ok (.invokevirtual 52, 3) := by decide +kernel
theorem d_Life_judge_76 : decode M_Life_judge.2.1 76 = .ok (.iinc 2 1, 3) := by decide +kernel
theorem d_Life_judge_79 : decode M_Life_judge.2.1 79 = .ok (.goto (-26), 3) := by decide +kernel
theorem d_Life_judge_82 : decode M_Life_judge.2.1 82 = .ok (.iconst 0, 1) := by decide +kernel
theorem d_Life_judge_83 : decode M_Life_judge.2.1 83 = .ok (.istore_n 2, 1) := by decide +kernel
theorem d_Life_judge_84 : decode M_Life_judge.2.1 84 = .ok (.iload_n 2, 1) := by decide +kernel
theorem d_Life_judge_85 : decode M_Life_judge.2.1 85 = .ok (.aload_n 0, 1) := by decide +kernel
theorem d_Life_judge_86 : decode M_Life_judge.2.1 86 = .ok (.getfield 33, 3) := by decide +kernel
theorem d_Life_judge_89 : decode M_Life_judge.2.1 89 = .ok (.getfield 51, 3) := by decide +kernel
theorem d_Life_judge_92 : decode M_Life_judge.2.1 92 = .ok (.if_icmp .ge 20, 3) := by decide +kernel
theorem d_Life_judge_95 : decode M_Life_judge.2.1 95 = .ok (.aload_n 0, 1) := by decide +kernel
theorem d_Life_judge_96 : decode M_Life_judge.2.1 96 = .ok (.invokevirtual 56, 3) := by decide +kernel
theorem d_Life_judge_99 : decode M_Life_judge.2.1 99 = .ok (.ifCond .eq 13, 3) := by decide +kernel
theorem d_Life_judge_102 : decode M_Life_judge.2.1 102 = .ok (.aload_n 0, 1) := by decide +kernel
theorem d_Life_judge_103 : decode M_Life_judge.2.1 103 = .ok (.invokevirtual 60, 3) := by decide +kernel
theorem d_Life_judge_106 : decode M_Life_judge.2.1 106 = .ok (.iinc 2 1, 3) := by decide +kernel
theorem d_Life_judge_109 : decode M_Life_judge.2.1 109 = .ok (.goto (-25), 3) := by decide +kernel
theorem d_Life_judge_112 : decode M_Life_judge.2.1 112 = .ok (.return_, 1) := by decide +kernel
theorem d_Life_noteStringsOf_0 : decode M_Life_noteStringsOf.2.1 0 = .ok (.iconst 4, 1) := by decide +kernel
theorem d_Life_noteStringsOf_1 : decode M_Life_noteStringsOf.2.1 1 = .ok (.iload_n 1, 1) := by decide +kernel
theorem d_Life_noteStringsOf_2 : decode M_Life_noteStringsOf.2.1 2 = .ok (.imul, 1) := by decide +kernel
theorem d_Life_noteStringsOf_3 : decode M_Life_noteStringsOf.2.1 3 = .ok (.istore_n 2, 1) := by decide +kernel
theorem d_Life_noteStringsOf_4 : decode M_Life_noteStringsOf.2.1 4 = .ok (.iconst 0, 1) := by decide +kernel
theorem d_Life_noteStringsOf_5 : decode M_Life_noteStringsOf.2.1 5 = .ok (.istore_n 3, 1) := by decide +kernel
theorem d_Life_noteStringsOf_6 : decode M_Life_noteStringsOf.2.1 6 = .ok (.iload_n 3, 1) := by decide +kernel
theorem d_Life_noteStringsOf_7 : decode M_Life_noteStringsOf.2.1 7 = .ok (.iconst 4, 1) := by decide +kernel
theorem d_Life_noteStringsOf_8 : decode M_Life_noteStringsOf.2.1 8 = .ok (.if_icmp .ge 103, 3) := by decide +kernel
theorem d_Life_noteStringsOf_11 : decode M_Life_noteStringsOf.2.1 11 = .ok (.aload_n 0, 1) := by decide +kernel
theorem d_Life_noteStringsOf_12 : decode M_Life_noteStringsOf.2.1 12 = .ok (.getfield 9, 3) := by decide +kernel
theorem d_Life_noteStringsOf_15 : decode M_Life_noteStringsOf.2.1 15 = .ok (.aload_n 0, 1) := by decide +kernel
theorem d_Life_noteStringsOf_16 : decode M_Life_noteStringsOf.2.1 16 = .ok (.getfield 33, 3) := by decide +kernel
theorem d_Life_noteStringsOf_19 : decode M_Life_noteStringsOf.2.1 19 = .ok (.iload_n 1, 1) := by decide +kernel
theorem d_Life_noteStringsOf_20 : decode M_Life_noteStringsOf.2.1 20 = .ok (.invokevirtual 73, 3) := by decide +kernel
theorem d_Life_noteStringsOf_23 : decode M_Life_noteStringsOf.2.1 23 = .ok (.iload_n 3, 1) := by decide +kernel
theorem d_Life_noteStringsOf_24 : decode M_Life_noteStringsOf.2.1 24 = .ok (.invokevirtual 76, 3) := by decide +kernel
theorem d_Life_noteStringsOf_27 : decode M_Life_noteStringsOf.2.1 27 = .ok (.istore 4, 2) := by decide +kernel
theorem d_Life_noteStringsOf_29 : decode M_Life_noteStringsOf.2.1 29 = .ok (.aload_n 0, 1) := by decide +kernel
theorem d_Life_noteStringsOf_30 : decode M_Life_noteStringsOf.2.1 30 = .ok (.getfield 41, 3) := by decide +kernel
theorem d_Life_noteStringsOf_33 : decode M_Life_noteStringsOf.2.1 33 = .ok (.iload_n 2, 1) := by decide +kernel
theorem d_Life_noteStringsOf_34 : decode M_Life_noteStringsOf.2.1 34 = .ok (.iload_n 3, 1) := by decide +kernel
theorem d_Life_noteStringsOf_35 : decode M_Life_noteStringsOf.2.1 35 = .ok (.iadd, 1) := by decide +kernel
theorem d_Life_noteStringsOf_36 : decode M_Life_noteStringsOf.2.1 36 = .ok (.iconst (-1), 1) := by decide +kernel
theorem d_Life_noteStringsOf_37 : decode M_Life_noteStringsOf.2.1 37 = .ok (.iastore, 1) := by decide +kernel
theorem d_Life_noteStringsOf_38 : decode M_Life_noteStringsOf.2.1 38 = .ok (.aload_n 0, 1) := by decide +kernel
theorem d_Life_noteStringsOf_39 : decode M_Life_noteStringsOf.2.1 39 = .ok (.iload_n 1, 1) := by decide +kernel
theorem d_Life_noteStringsOf_40 : decode M_Life_noteStringsOf.2.1 40 = .ok (.invokevirtual 67, 3) := by decide +kernel
theorem d_Life_noteStringsOf_43 : decode M_Life_noteStringsOf.2.1 43 = .ok (.ifCond .ne 62, 3) := by decide +kernel
theorem d_Life_noteStringsOf_46 : decode M_Life_noteStringsOf.2.1 46 = .ok (.iload 4, 2) := by decide +kernel
theorem d_Life_noteStringsOf_48 : decode M_Life_noteStringsOf.2.1 48 = .ok (.iconst (-1), 1) := by decide +kernel
theorem d_Life_noteStringsOf_49 : decode M_Life_noteStringsOf.2.1 49 = .ok (.if_icmp .eq 56, 3) := by decide +kernel
theorem d_Life_noteStringsOf_52 : decode M_Life_noteStringsOf.2.1 52 = .ok (.aload_n 0, 1) := by decide +kernel
theorem d_Life_noteStringsOf_53 : decode M_Life_noteStringsOf.2.1 53 = .ok (.getfield 25, 3) := by decide +kernel
theorem d_Life_noteStringsOf_56 : decode M_Life_noteStringsOf.2.1 56 = .ok (.iload 4, 2) := by decide +kernel
theorem d_Life_noteStringsOf_58 : decode M_Life_noteStringsOf.2.1 58 = .ok (.iaload, 1) := by decide +kernel
theorem d_Life_noteStringsOf_59 : decode M_Life_noteStringsOf.2.1 59 = .ok (.iconst 1, 1) := by decide +kernel
theorem d_Life_noteStringsOf_60 : decode M_Life_noteStringsOf.2.1 60 = .ok (.if_icmp .ne 45, 3) := by decide +kernel
theorem d_Life_noteStringsOf_63 : decode M_Life_noteStringsOf.2.1 63 = .ok (.aload_n 0, 1) := by decide +kernel
theorem d_Life_noteStringsOf_64 : decode M_Life_noteStringsOf.2.1 64 = .ok (.getfield 33, 3) := by decide +kernel
theorem d_Life_noteStringsOf_67 : decode M_Life_noteStringsOf.2.1 67 = .ok (.iload 4, 2) := by decide +kernel
theorem d_Life_noteStringsOf_69 : decode M_Life_noteStringsOf.2.1 69 = .ok (.invokevirtual 63, 3) := by decide +kernel
theorem d_Life_noteStringsOf_72 : decode M_Life_noteStringsOf.2.1 72 = .ok (.istore 5, 2) := by decide +kernel
theorem d_Life_noteStringsOf_74 : decode M_Life_noteStringsOf.2.1 74 = .ok (.aload_n 0, 1) := by decide +kernel
theorem d_Life_noteStringsOf_75 : decode M_Life_noteStringsOf.2.1 75 = .ok (.iload 5, 2) := by decide +kernel
theorem d_Life_noteStringsOf_77 : decode M_Life_noteStringsOf.2.1 77 = .ok (.iload_n 2, 1) := by decide +kernel
theorem d_Life_noteStringsOf_78 : decode M_Life_noteStringsOf.2.1 78 = .ok (.iload_n 3, 1) := by decide +kernel
theorem d_Life_noteStringsOf_79 : decode M_Life_noteStringsOf.2.1 79 = .ok (.invokevirtual 80, 3) := by decide +kernel
theorem d_Life_noteStringsOf_82 : decode M_Life_noteStringsOf.2.1 82 = .ok (.ifCond .ne 23, 3) := by decide +kernel
theorem d_Life_noteStringsOf_85 : decode M_Life_noteStringsOf.2.1 85 = .ok (.aload_n 0, 1) := by decide +kernel
theorem d_Life_noteStringsOf_86 : decode M_Life_noteStringsOf.2.1 86 = .ok (.iload_n 1, 1) := by decide +kernel
theorem d_Life_noteStringsOf_87 : decode M_Life_noteStringsOf.2.1 87 = .ok (.iload 5, 2) := by decide +kernel
theorem d_Life_noteStringsOf_89 : decode M_Life_noteStringsOf.2.1 89 = .ok (.invokevirtual 84, 3) := by decide +kernel
theorem d_Life_noteStringsOf_92 : decode M_Life_noteStringsOf.2.1 92 = .ok (.ifCond .eq 13, 3) := by decide +kernel
theorem d_Life_noteStringsOf_95 : decode M_Life_noteStringsOf.2.1 95 = .ok (.aload_n 0, 1) := by decide +kernel
theorem d_Life_noteStringsOf_96 : decode M_Life_noteStringsOf.2.1 96 = .ok (.getfield 41, 3) := by decide +kernel
theorem d_Life_noteStringsOf_99 : decode M_Life_noteStringsOf.2.1 99 = .ok (.iload_n 2, 1) := by decide +kernel
theorem d_Life_noteStringsOf_100 : decode M_Life_noteStringsOf.2.1 100 = .ok (.iload_n 3, 1) := by decide +kernel
theorem d_Life_noteStringsOf_101 : decode M_Life_noteStringsOf.2.1 101 = .ok (.iadd, 1) := by decide +kernel
theorem d_Life_noteStringsOf_102 : decode M_Life_noteStringsOf.2.1 102 = .ok (.iload 5, 2) := by decide +kernel
theorem d_Life_noteStringsOf_104 : decode M_Life_noteStringsOf.2.1 104 = .ok (.iastore, 1) := by decide +kernel
theorem d_Life_noteStringsOf_105 : decode M_Life_noteStringsOf.2.1 105 = .ok (.iinc 3 1, 3) := by decide +kernel
theorem d_Life_noteStringsOf_108 : decode M_Life_noteStringsOf.2.1 108 = .ok (.goto (-102), 3) := by decide +kernel
theorem d_Life_noteStringsOf_111 : decode M_Life_noteStringsOf.2.1 111 = .ok (.return_, 1) := by decide +kernel
theorem d_Life_kindOf_0 : decode M_Life_kindOf.2.1 0 = .ok (.aload_n 0, 1) := by decide +kernel
theorem d_Life_kindOf_1 : decode M_Life_kindOf.2.1 1 = .ok (.getfield 25, 3) := by decide +kernel
theorem d_Life_kindOf_4 : decode M_Life_kindOf.2.1 4 = .ok (.aload_n 0, 1) := by decide +kernel
theorem d_Life_kindOf_5 : decode M_Life_kindOf.2.1 5 = .ok (.getfield 33, 3) := by decide +kernel
theorem d_Life_kindOf_8 : decode M_Life_kindOf.2.1 8 = .ok (.iload_n 1, 1) := by decide +kernel
theorem d_Life_kindOf_9 : decode M_Life_kindOf.2.1 9 = .ok (.invokevirtual 73, 3) := by decide +kernel
theorem d_Life_kindOf_12 : decode M_Life_kindOf.2.1 12 = .ok (.iaload, 1) := by decide +kernel
theorem d_Life_kindOf_13 : decode M_Life_kindOf.2.1 13 = .ok (.ireturn, 1) := by decide +kernel
theorem d_Life_isNoted_0 : decode M_Life_isNoted.2.1 0 = .ok (.iconst 0, 1) := by decide +kernel
theorem d_Life_isNoted_1 : decode M_Life_isNoted.2.1 1 = .ok (.istore 4, 2) := by decide +kernel
theorem d_Life_isNoted_3 : decode M_Life_isNoted.2.1 3 = .ok (.iload 4, 2) := by decide +kernel
theorem d_Life_isNoted_5 : decode M_Life_isNoted.2.1 5 = .ok (.iload_n 3, 1) := by decide +kernel
theorem d_Life_isNoted_6 : decode M_Life_isNoted.2.1 6 = .ok (.if_icmp .ge 24, 3) := by decide +kernel
theorem d_Life_isNoted_9 : decode M_Life_isNoted.2.1 9 = .ok (.aload_n 0, 1) := by decide +kernel
theorem d_Life_isNoted_10 : decode M_Life_isNoted.2.1 10 = .ok (.getfield 41, 3) := by decide +kernel
theorem d_Life_isNoted_13 : decode M_Life_isNoted.2.1 13 = .ok (.iload_n 2, 1) := by decide +kernel
theorem d_Life_isNoted_14 : decode M_Life_isNoted.2.1 14 = .ok (.iload 4, 2) := by decide +kernel
theorem d_Life_isNoted_16 : decode M_Life_isNoted.2.1 16 = .ok (.iadd, 1) := by decide +kernel
theorem d_Life_isNoted_17 : decode M_Life_isNoted.2.1 17 = .ok (.iaload, 1) := by decide +kernel
theorem d_Life_isNoted_18 : decode M_Life_isNoted.2.1 18 = .ok (.iload_n 1, 1) := by decide +kernel
theorem d_Life_isNoted_19 : decode M_Life_isNoted.2.1 19 = .ok (.if_icmp .ne 5, 3) := by decide +kernel
theorem d_Life_isNoted_22 : decode M_Life_isNoted.2.1 22 = .ok (.iconst 1, 1) := by decide +kernel
theorem d_Life_isNoted_23 : decode M_Life_isNoted.2.1 23 = .ok (.ireturn, 1) := by decide +kernel
theorem d_Life_isNoted_24 : decode M_Life_isNoted.2.1 24 = .ok (.iinc 4 1, 3) := by decide +kernel
theorem d_Life_isNoted_27 : decode M_Life_isNoted.2.1 27 = .ok (.goto (-24), 3) := by decide +kernel
theorem d_Life_isNoted_30 : decode M_Life_isNoted.2.1 30 = .ok (.iconst 0, 1) := by decide +kernel
theorem d_Life_isNoted_31 : decode M_Life_isNoted.2.1 31 = .ok (.ireturn, 1) := by decide +kernel
theorem d_Life_belongs_0 : decode M_Life_belongs.2.1 0 = .ok (.iconst 0, 1) := by decide +kernel
theorem d_Life_belongs_1 : decode M_Life_belongs.2.1 1 = .ok (.istore_n 3, 1) := by decide +kernel
theorem d_Life_belongs_2 : decode M_Life_belongs.2.1 2 = .ok (.iload_n 3, 1) := by decide +kernel
theorem d_Life_belongs_3 : decode M_Life_belongs.2.1 3 = .ok (.aload_n 0, 1) := by decide +kernel
theorem d_Life_belongs_4 : decode M_Life_belongs.2.1 4 = .ok (.getfield 33, 3) := by decide +kernel
theorem d_Life_belongs_7 : decode M_Life_belongs.2.1 7 = .ok (.iload_n 1, 1) := by decide +kernel
theorem d_Life_belongs_8 : decode M_Life_belongs.2.1 8 = .ok (.invokevirtual 70, 3) := by decide +kernel
theorem d_Life_belongs_11 : decode M_Life_belongs.2.1 11 = .ok (.if_icmp .ge 28, 3) := by decide +kernel
theorem d_Life_belongs_14 : decode M_Life_belongs.2.1 14 = .ok (.aload_n 0, 1) := by decide +kernel
theorem d_Life_belongs_15 : decode M_Life_belongs.2.1 15 = .ok (.aload_n 0, 1) := by decide +kernel
theorem d_Life_belongs_16 : decode M_Life_belongs.2.1 16 = .ok (.getfield 33, 3) := by decide +kernel
theorem d_Life_belongs_19 : decode M_Life_belongs.2.1 19 = .ok (.iload_n 1, 1) := by decide +kernel
theorem d_Life_belongs_20 : decode M_Life_belongs.2.1 20 = .ok (.iload_n 3, 1) := by decide +kernel
theorem d_Life_belongs_21 : decode M_Life_belongs.2.1 21 = .ok (.invokevirtual 88, 3) := by decide +kernel
theorem d_Life_belongs_24 : decode M_Life_belongs.2.1 24 = .ok (.iload_n 2, 1) := by decide +kernel
theorem d_Life_belongs_25 : decode M_Life_belongs.2.1 25 = .ok (.invokevirtual 91, 3) := by decide +kernel
theorem d_Life_belongs_28 : decode M_Life_belongs.2.1 28 = .ok (.ifCond .ne 5, 3) := by decide +kernel
theorem d_Life_belongs_31 : decode M_Life_belongs.2.1 31 = .ok (.iconst 0, 1) := by decide +kernel
theorem d_Life_belongs_32 : decode M_Life_belongs.2.1 32 = .ok (.ireturn, 1) := by decide +kernel
theorem d_Life_belongs_33 : decode M_Life_belongs.2.1 33 = .ok (.iinc 3 1, 3) := by decide +kernel
theorem d_Life_belongs_36 : decode M_Life_belongs.2.1 36 = .ok (.goto (-34), 3) := by decide +kernel
theorem d_Life_belongs_39 : decode M_Life_belongs.2.1 39 = .ok (.iconst 1, 1) := by decide +kernel
theorem d_Life_belongs_40 : decode M_Life_belongs.2.1 40 = .ok (.ireturn, 1) := by decide +kernel
theorem d_Life_isBeside_0 : decode M_Life_isBeside.2.1 0 = .ok (.iconst 0, 1) := by decide +kernel
theorem d_Life_isBeside_1 : decode M_Life_isBeside.2.1 1 = .ok (.istore_n 3, 1) := by decide +kernel
theorem d_Life_isBeside_2 : decode M_Life_isBeside.2.1 2 = .ok (.iload_n 3, 1) := by decide +kernel
theorem d_Life_isBeside_3 : decode M_Life_isBeside.2.1 3 = .ok (.iconst 4, 1) := by decide +kernel
theorem d_Life_isBeside_4 : decode M_Life_isBeside.2.1 4 = .ok (.if_icmp .ge 41, 3) := by decide +kernel
theorem d_Life_isBeside_7 : decode M_Life_isBeside.2.1 7 = .ok (.aload_n 0, 1) := by decide +kernel
theorem d_Life_isBeside_8 : decode M_Life_isBeside.2.1 8 = .ok (.getfield 9, 3) := by decide +kernel
theorem d_Life_isBeside_11 : decode M_Life_isBeside.2.1 11 = .ok (.iload_n 1, 1) := by decide +kernel
theorem d_Life_isBeside_12 : decode M_Life_isBeside.2.1 12 = .ok (.iload_n 3, 1) := by decide +kernel
theorem d_Life_isBeside_13 : decode M_Life_isBeside.2.1 13 = .ok (.invokevirtual 76, 3) := by decide +kernel
theorem d_Life_isBeside_16 : decode M_Life_isBeside.2.1 16 = .ok (.istore 4, 2) := by decide +kernel
theorem d_Life_isBeside_18 : decode M_Life_isBeside.2.1 18 = .ok (.iload 4, 2) := by decide +kernel
theorem d_Life_isBeside_20 : decode M_Life_isBeside.2.1 20 = .ok (.iconst (-1), 1) := by decide +kernel
theorem d_Life_isBeside_21 : decode M_Life_isBeside.2.1 21 = .ok (.if_icmp .eq 18, 3) := by decide +kernel
theorem d_Life_isBeside_24 : decode M_Life_isBeside.2.1 24 = .ok (.aload_n 0, 1) := by decide +kernel
theorem d_Life_isBeside_25 : decode M_Life_isBeside.2.1 25 = .ok (.getfield 33, 3) := by decide +kernel
theorem d_Life_isBeside_28 : decode M_Life_isBeside.2.1 28 = .ok (.iload 4, 2) := by decide +kernel
theorem d_Life_isBeside_30 : decode M_Life_isBeside.2.1 30 = .ok (.invokevirtual 63, 3) := by decide +kernel
theorem d_Life_isBeside_33 : decode M_Life_isBeside.2.1 33 = .ok (.iload_n 2, 1) := by decide +kernel
theorem d_Life_isBeside_34 : decode M_Life_isBeside.2.1 34 = .ok (.if_icmp .ne 5, 3) := by decide +kernel
theorem d_Life_isBeside_37 : decode M_Life_isBeside.2.1 37 = .ok (.iconst 1, 1) := by decide +kernel
theorem d_Life_isBeside_38 : decode M_Life_isBeside.2.1 38 = .ok (.ireturn, 1) := by decide +kernel
theorem d_Life_isBeside_39 : decode M_Life_isBeside.2.1 39 = .ok (.iinc 3 1, 3) := by decide +kernel
theorem d_Life_isBeside_42 : decode M_Life_isBeside.2.1 42 = .ok (.goto (-40), 3) := by decide +kernel
theorem d_Life_isBeside_45 : decode M_Life_isBeside.2.1 45 = .ok (.iconst 0, 1) := by decide +kernel
theorem d_Life_isBeside_46 : decode M_Life_isBeside.2.1 46 = .ok (.ireturn, 1) := by decide +kernel
theorem d_Life_letStringsFall_0 : decode M_Life_letStringsFall.2.1 0 = .ok (.aload_n 0, 1) := by decide +kernel
theorem d_Life_letStringsFall_1 : decode M_Life_letStringsFall.2.1 1 = .ok (.invokevirtual 94, 3) := by decide +kernel
theorem d_Life_letStringsFall_4 : decode M_Life_letStringsFall.2.1 4 = .ok (.iconst 0, 1) := by decide +kernel
theorem d_Life_letStringsFall_5 : decode M_Life_letStringsFall.2.1 5 = .ok (.istore_n 1, 1) := by decide +kernel
theorem d_Life_letStringsFall_6 : decode M_Life_letStringsFall.2.1 6 = .ok (.iconst 0, 1) := by decide +kernel
theorem d_Life_letStringsFall_7 : decode M_Life_letStringsFall.2.1 7 = .ok (.istore_n 2, 1) := by decide +kernel
theorem d_Life_letStringsFall_8 : decode M_Life_letStringsFall.2.1 8 = .ok (.iload_n 2, 1) := by decide +kernel
theorem d_Life_letStringsFall_9 : decode M_Life_letStringsFall.2.1 9 = .ok (.aload_n 0, 1) := by decide +kernel
theorem d_Life_letStringsFall_10 : decode M_Life_letStringsFall.2.1 10 = .ok (.getfield 33, 3) := by decide +kernel
theorem d_Life_letStringsFall_13 : decode M_Life_letStringsFall.2.1 13 = .ok (.getfield 51, 3) := by decide +kernel
theorem d_Life_letStringsFall_16 : decode M_Life_letStringsFall.2.1 16 = .ok (.if_icmp .ge 46, 3) := by decide +kernel
theorem d_Life_letStringsFall_19 : decode M_Life_letStringsFall.2.1 19 = .ok (.aload_n 0, 1) := by decide +kernel
theorem d_Life_letStringsFall_20 : decode M_Life_letStringsFall.2.1 20 = .ok (.getfield 37, 3) := by decide +kernel
theorem d_Life_letStringsFall_23 : decode M_Life_letStringsFall.2.1 23 = .ok (.iload_n 2, 1) := by decide +kernel
theorem d_Life_letStringsFall_24 : decode M_Life_letStringsFall.2.1 24 = .ok (.baload, 1) := by decide +kernel
theorem d_Life_letStringsFall_25 : decode M_Life_letStringsFall.2.1 25 = .ok (.ifCond .eq 31, 3) := by decide +kernel
theorem d_Life_letStringsFall_28 : decode M_Life_letStringsFall.2.1 28 = .ok (.aload_n 0, 1) := by decide +kernel
theorem d_Life_letStringsFall_29 : decode M_Life_letStringsFall.2.1 29 = .ok (.iload_n 2, 1) := by decide +kernel
theorem d_Life_letStringsFall_30 : decode M_Life_letStringsFall.2.1 30 = .ok (.invokevirtual 67, 3) := by decide +kernel
theorem d_Life_letStringsFall_33 : decode M_Life_letStringsFall.2.1 33 = .ok (.iconst 1, 1) := by decide +kernel
theorem d_Life_letStringsFall_34 : decode M_Life_letStringsFall.2.1 34 = .ok (.if_icmp .ne 22, 3) := by decide +kernel
theorem d_Life_letStringsFall_37 : decode M_Life_letStringsFall.2.1 37 = .ok (.aload_n 0, 1) := by decide +kernel
theorem d_Life_letStringsFall_38 : decode M_Life_letStringsFall.2.1 38 = .ok (.getfield 44, 3) := by decide +kernel
theorem d_Life_letStringsFall_41 : decode M_Life_letStringsFall.2.1 41 = .ok (.iload_n 2, 1) := by decide +kernel
theorem d_Life_letStringsFall_42 : decode M_Life_letStringsFall.2.1 42 = .ok (.iaload, 1) := by decide +kernel
theorem d_Life_letStringsFall_43 : decode M_Life_letStringsFall.2.1 43 = .ok (.iconst 2, 1) := by decide +kernel
theorem d_Life_letStringsFall_44 : decode M_Life_letStringsFall.2.1 44 = .ok (.if_icmp .ge 12, 3) := by decide +kernel
theorem d_Life_letStringsFall_47 : decode M_Life_letStringsFall.2.1 47 = .ok (.aload_n 0, 1) := by decide +kernel
theorem d_Life_letStringsFall_48 : decode M_Life_letStringsFall.2.1 48 = .ok (.getfield 37, 3) := by decide +kernel
theorem d_Life_letStringsFall_51 : decode M_Life_letStringsFall.2.1 51 = .ok (.iload_n 2, 1) := by decide +kernel
theorem d_Life_letStringsFall_52 : decode M_Life_letStringsFall.2.1 52 = .ok (.iconst 0, 1) := by decide +kernel
theorem d_Life_letStringsFall_53 : decode M_Life_letStringsFall.2.1 53 = .ok (.bastore, 1) := by decide +kernel
theorem d_Life_letStringsFall_54 : decode M_Life_letStringsFall.2.1 54 = .ok (.iconst 1, 1) := by decide +kernel
theorem d_Life_letStringsFall_55 : decode M_Life_letStringsFall.2.1 55 = .ok (.istore_n 1, 1) := by decide +kernel
theorem d_Life_letStringsFall_56 : decode M_Life_letStringsFall.2.1 56 = .ok (.iinc 2 1, 3) := by decide +kernel
theorem d_Life_letStringsFall_59 : decode M_Life_letStringsFall.2.1 59 = .ok (.goto (-51), 3) := by decide +kernel
theorem d_Life_letStringsFall_62 : decode M_Life_letStringsFall.2.1 62 = .ok (.iload_n 1, 1) := by decide +kernel
theorem d_Life_letStringsFall_63 : decode M_Life_letStringsFall.2.1 63 = .ok (.ireturn, 1) := by decide +kernel
theorem d_Life_countRegionsOfStrings_0 : decode M_Life_countRegionsOfStrings.2.1 0 = .ok (.aload_n 0, 1) := by decide +kernel
theorem d_Life_countRegionsOfStrings_1 : decode M_Life_countRegionsOfStrings.2.1 1 = .ok (.getfield 44, 3) := by decide +kernel
theorem d_Life_countRegionsOfStrings_4 : decode M_Life_countRegionsOfStrings.2.1 4 = .ok (.iconst 0, 1) := by decide +kernel
theorem d_Life_countRegionsOfStrings_5 : decode M_Life_countRegionsOfStrings.2.1 5 = .ok (.invokestatic 97, 3) := by decide +kernel
theorem d_Life_countRegionsOfStrings_8 : decode M_Life_countRegionsOfStrings.2.1 8 = .ok (.iconst 0, 1) := by decide +kernel
theorem d_Life_countRegionsOfStrings_9 : decode M_Life_countRegionsOfStrings.2.1 9 = .ok (.istore_n 1, 1) := by decide +kernel
theorem d_Life_countRegionsOfStrings_10 : decode M_Life_countRegionsOfStrings.2.1 10 = .ok (.iload_n 1, 1) := by decide +kernel
theorem d_Life_countRegionsOfStrings_11 : decode M_Life_countRegionsOfStrings.2.1 11 = .ok (.iconst 4, 1) := by decide +kernel
theorem d_Life_countRegionsOfStrings_12 : decode M_Life_countRegionsOfStrings.2.1 12 = .ok (.aload_n 0, 1) := by decide +kernel
theorem d_Life_countRegionsOfStrings_13 : decode M_Life_countRegionsOfStrings.2.1 13 = .ok (.getfield 33, 3) := by decide +kernel
theorem d_Life_countRegionsOfStrings_16 : decode M_Life_countRegionsOfStrings.2.1 16 = .ok (.getfield 51, 3) := by decide +kernel
theorem d_Life_countRegionsOfStrings_19 : decode M_Life_countRegionsOfStrings.2.1 19 = .ok (.imul, 1) := by decide +kernel
theorem d_Life_countRegionsOfStrings_20 : decode M_Life_countRegionsOfStrings.2.1 20 = .ok (.if_icmp .ge 45, 3) := by decide +kernel
theorem d_Life_countRegionsOfStrings_23 : decode M_Life_countRegionsOfStrings.2.1 23 = .ok (.aload_n 0, 1) := by decide +kernel
theorem d_Life_countRegionsOfStrings_24 : decode M_Life_countRegionsOfStrings.2.1 24 = .ok (.getfield 41, 3) := by decide +kernel
theorem d_Life_countRegionsOfStrings_27 : decode M_Life_countRegionsOfStrings.2.1 27 = .ok (.iload_n 1, 1) := by decide +kernel
theorem d_Life_countRegionsOfStrings_28 : decode M_Life_countRegionsOfStrings.2.1 28 = .ok (.iaload, 1) := by decide +kernel
theorem d_Life_countRegionsOfStrings_29 : decode M_Life_countRegionsOfStrings.2.1 29 = .ok (.iconst (-1), 1) := by decide +kernel
theorem d_Life_countRegionsOfStrings_30 : decode M_Life_countRegionsOfStrings.2.1 30 = .ok (.if_icmp .eq 29, 3) := by decide +kernel
theorem d_Life_countRegionsOfStrings_33 : decode M_Life_countRegionsOfStrings.2.1 33 = .ok (.aload_n 0, 1) := by decide +kernel
theorem d_Life_countRegionsOfStrings_34 : decode M_Life_countRegionsOfStrings.2.1 34 = .ok (.getfield 37, 3) := by decide +kernel
theorem d_Life_countRegionsOfStrings_37 : decode M_Life_countRegionsOfStrings.2.1 37 = .ok (.iload_n 1, 1) := by decide +kernel
theorem d_Life_countRegionsOfStrings_38 : decode M_Life_countRegionsOfStrings.2.1 38 = .ok (.iconst 4, 1) := by decide +kernel
theorem d_Life_countRegionsOfStrings_39 : decode M_Life_countRegionsOfStrings.2.1 39 = .ok (.idiv, 1) := by decide +kernel
theorem d_Life_countRegionsOfStrings_40 : decode M_Life_countRegionsOfStrings.2.1 40 = .ok (.baload, 1) := by decide +kernel
theorem d_Life_countRegionsOfStrings_41 : decode M_Life_countRegionsOfStrings.2.1 41 = .ok (.ifCond .eq 18, 3) := by decide +kernel
theorem d_Life_countRegionsOfStrings_44 : decode M_Life_countRegionsOfStrings.2.1 44 = .ok (.aload_n 0, 1) := by decide +kernel
theorem d_Life_countRegionsOfStrings_45 : decode M_Life_countRegionsOfStrings.2.1 45 = .ok (.getfield 44, 3) := by decide +kernel
theorem d_Life_countRegionsOfStrings_48 : decode M_Life_countRegionsOfStrings.2.1 48 = .ok (.aload_n 0, 1) := by decide +kernel
theorem d_Life_countRegionsOfStrings_49 : decode M_Life_countRegionsOfStrings.2.1 49 = .ok (.getfield 41, 3) := by decide +kernel
theorem d_Life_countRegionsOfStrings_52 : decode M_Life_countRegionsOfStrings.2.1 52 = .ok (.iload_n 1, 1) := by decide +kernel
theorem d_Life_countRegionsOfStrings_53 : decode M_Life_countRegionsOfStrings.2.1 53 = .ok (.iaload, 1) := by decide +kernel
theorem d_Life_countRegionsOfStrings_54 : decode M_Life_countRegionsOfStrings.2.1 54 = .ok (.dup2, 1) := by decide +kernel
theorem d_Life_countRegionsOfStrings_55 : decode M_Life_countRegionsOfStrings.2.1 55 = .ok (.iaload, 1) := by decide +kernel
theorem d_Life_countRegionsOfStrings_56 : decode M_Life_countRegionsOfStrings.2.1 56 = .ok (.iconst 1, 1) := by decide +kernel
theorem d_Life_countRegionsOfStrings_57 : decode M_Life_countRegionsOfStrings.2.1 57 = .ok (.iadd, 1) := by decide +kernel
theorem d_Life_countRegionsOfStrings_58 : decode M_Life_countRegionsOfStrings.2.1 58 = .ok (.iastore, 1) := by decide +kernel
theorem d_Life_countRegionsOfStrings_59 : decode M_Life_countRegionsOfStrings.2.1 59 = .ok (.iinc 1 1, 3) := by decide +kernel
theorem d_Life_countRegionsOfStrings_62 : decode M_Life_countRegionsOfStrings.2.1 62 = .ok (.goto (-52), 3) := by decide +kernel
theorem d_Life_countRegionsOfStrings_65 : decode M_Life_countRegionsOfStrings.2.1 65 = .ok (.return_, 1) := by decide +kernel
theorem d_Life_letRegionsFall_0 : decode M_Life_letRegionsFall.2.1 0 = .ok (.iconst 0, 1) := by decide +kernel
theorem d_Life_letRegionsFall_1 : decode M_Life_letRegionsFall.2.1 1 = .ok (.istore_n 1, 1) := by decide +kernel
theorem d_Life_letRegionsFall_2 : decode M_Life_letRegionsFall.2.1 2 = .ok (.iload_n 1, 1) := by decide +kernel
theorem d_Life_letRegionsFall_3 : decode M_Life_letRegionsFall.2.1 3 = .ok (.aload_n 0, 1) := by decide +kernel
theorem d_Life_letRegionsFall_4 : decode M_Life_letRegionsFall.2.1 4 = .ok (.getfield 9, 3) := by decide +kernel
theorem d_Life_letRegionsFall_7 : decode M_Life_letRegionsFall.2.1 7 = .ok (.getfield 19, 3) := by decide +kernel
theorem d_Life_letRegionsFall_10 : decode M_Life_letRegionsFall.2.1 10 = .ok (.if_icmp .ge 40, 3) := by decide +kernel
theorem d_Life_letRegionsFall_13 : decode M_Life_letRegionsFall.2.1 13 = .ok (.aload_n 0, 1) := by decide +kernel
theorem d_Life_letRegionsFall_14 : decode M_Life_letRegionsFall.2.1 14 = .ok (.getfield 25, 3) := by decide +kernel
theorem d_Life_letRegionsFall_17 : decode M_Life_letRegionsFall.2.1 17 = .ok (.iload_n 1, 1) := by decide +kernel
theorem d_Life_letRegionsFall_18 : decode M_Life_letRegionsFall.2.1 18 = .ok (.iaload, 1) := by decide +kernel
theorem d_Life_letRegionsFall_19 : decode M_Life_letRegionsFall.2.1 19 = .ok (.ifCond .ne 25, 3) := by decide +kernel
theorem d_Life_letRegionsFall_22 : decode M_Life_letRegionsFall.2.1 22 = .ok (.aload_n 0, 1) := by decide +kernel
theorem d_Life_letRegionsFall_23 : decode M_Life_letRegionsFall.2.1 23 = .ok (.iload_n 1, 1) := by decide +kernel
theorem d_Life_letRegionsFall_24 : decode M_Life_letRegionsFall.2.1 24 = .ok (.invokevirtual 103, 3) := by decide +kernel
theorem d_Life_letRegionsFall_27 : decode M_Life_letRegionsFall.2.1 27 = .ok (.ifCond .eq 17, 3) := by decide +kernel
theorem d_Life_letRegionsFall_30 : decode M_Life_letRegionsFall.2.1 30 = .ok (.aload_n 0, 1) := by decide +kernel
theorem d_Life_letRegionsFall_31 : decode M_Life_letRegionsFall.2.1 31 = .ok (.getfield 37, 3) := by decide +kernel
theorem d_Life_letRegionsFall_34 : decode M_Life_letRegionsFall.2.1 34 = .ok (.aload_n 0, 1) := by decide +kernel
theorem d_Life_letRegionsFall_35 : decode M_Life_letRegionsFall.2.1 35 = .ok (.getfield 33, 3) := by decide +kernel
theorem d_Life_letRegionsFall_38 : decode M_Life_letRegionsFall.2.1 38 = .ok (.iload_n 1, 1) := by decide +kernel
theorem d_Life_letRegionsFall_39 : decode M_Life_letRegionsFall.2.1 39 = .ok (.invokevirtual 63, 3) := by decide +kernel
theorem d_Life_letRegionsFall_42 : decode M_Life_letRegionsFall.2.1 42 = .ok (.iconst 0, 1) := by decide +kernel
theorem d_Life_letRegionsFall_43 : decode M_Life_letRegionsFall.2.1 43 = .ok (.bastore, 1) := by decide +kernel
theorem d_Life_letRegionsFall_44 : decode M_Life_letRegionsFall.2.1 44 = .ok (.iinc 1 1, 3) := by decide +kernel
theorem d_Life_letRegionsFall_47 : decode M_Life_letRegionsFall.2.1 47 = .ok (.goto (-45), 3) := by decide +kernel
theorem d_Life_letRegionsFall_50 : decode M_Life_letRegionsFall.2.1 50 = .ok (.return_, 1) := by decide +kernel
theorem d_Life_isBesideFallenString_0 : decode M_Life_isBesideFallenString.2.1 0 = .ok (.iconst 0, 1) := by decide +kernel
theorem d_Life_isBesideFallenString_1 : decode M_Life_isBesideFallenString.2.1 1 = .ok (.istore_n 2, 1) := by decide +kernel
theorem d_Life_isBesideFallenString_2 : decode M_Life_isBesideFallenString.2.1 2 = .ok (.iload_n 2, 1) := by decide +kernel
theorem d_Life_isBesideFallenString_3 : decode M_Life_isBesideFallenString.2.1 3 = .ok (.iconst 4, 1) := by decide +kernel
theorem d_Life_isBesideFallenString_4 : decode M_Life_isBesideFallenString.2.1 4 = .ok (.if_icmp .ge 44, 3) := by decide +kernel
theorem d_Life_isBesideFallenString_7 : decode M_Life_isBesideFallenString.2.1 7 = .ok (.aload_n 0, 1) := by decide +kernel
theorem d_Life_isBesideFallenString_8 : decode M_Life_isBesideFallenString.2.1 8 = .ok (.getfield 9, 3) := by decide +kernel
theorem d_Life_isBesideFallenString_11 : decode M_Life_isBesideFallenString.2.1 11 = .ok (.iload_n 1, 1) := by decide +kernel
theorem d_Life_isBesideFallenString_12 : decode M_Life_isBesideFallenString.2.1 12 = .ok (.iload_n 2, 1) := by decide +kernel
theorem d_Life_isBesideFallenString_13 : decode M_Life_isBesideFallenString.2.1 13 = .ok (.invokevirtual 76, 3) := by decide +kernel
theorem d_Life_isBesideFallenString_16 : decode M_Life_isBesideFallenString.2.1 16 = .ok (.istore_n 3, 1) := by decide +kernel
theorem d_Life_isBesideFallenString_17 : decode M_Life_isBesideFallenString.2.1 17 = .ok (.iload_n 3, 1) := by decide +kernel
theorem d_Life_isBesideFallenString_18 : decode M_Life_isBesideFallenString.2.1 18 = .ok (.iconst (-1), 1) := by decide +kernel
theorem d_Life_isBesideFallenString_19 : decode M_Life_isBesideFallenString.2.1 19 = .ok (.if_icmp .eq 23, 3) := by decide +kernel
theorem d_Life_isBesideFallenString_22 : decode M_Life_isBesideFallenString.2.1 22 = .ok (.aload_n 0, 1) := by decide +kernel
theorem d_Life_isBesideFallenString_23 : decode M_Life_isBesideFallenString.2.1 23 = .ok (.getfield 25, 3) := by decide +kernel
theorem d_Life_isBesideFallenString_26 : decode M_Life_isBesideFallenString.2.1 26 = .ok (.iload_n 3, 1) := by decide +kernel
theorem d_Life_isBesideFallenString_27 : decode M_Life_isBesideFallenString.2.1 27 = .ok (.iaload, 1) := by decide +kernel
theorem d_Life_isBesideFallenString_28 : decode M_Life_isBesideFallenString.2.1 28 = .ok (.iconst 1, 1) := by decide +kernel
theorem d_Life_isBesideFallenString_29 : decode M_Life_isBesideFallenString.2.1 29 = .ok (.if_icmp .ne 13, 3) := by decide +kernel
theorem d_Life_isBesideFallenString_32 : decode M_Life_isBesideFallenString.2.1 32 = .ok (.aload_n 0, 1) := by decide +kernel
theorem d_Life_isBesideFallenString_33 : decode M_Life_isBesideFallenString.2.1 33 = .ok (.iload_n 3, 1) := by decide +kernel
theorem d_Life_isBesideFallenString_34 : decode M_Life_isBesideFallenString.2.1 34 = .ok (.invokevirtual 107, 3) := by decide +kernel
theorem d_Life_isBesideFallenString_37 : decode M_Life_isBesideFallenString.2.1 37 = .ok (.ifCond .ne 5, 3) := by decide +kernel
theorem d_Life_isBesideFallenString_40 : decode M_Life_isBesideFallenString.2.1 40 = .ok (.iconst 1, 1) := by decide +kernel
theorem d_Life_isBesideFallenString_41 : decode M_Life_isBesideFallenString.2.1 41 = .ok (.ireturn, 1) := by decide +kernel
theorem d_Life_isBesideFallenString_42 : decode M_Life_isBesideFallenString.2.1 42 = .ok (.iinc 2 1, 3) := by decide +kernel
theorem d_Life_isBesideFallenString_45 : decode M_Life_isBesideFallenString.2.1 45 = .ok (.goto (-43), 3) := by decide +kernel
theorem d_Life_isBesideFallenString_48 : decode M_Life_isBesideFallenString.2.1 48 = .ok (.iconst 0, 1) := by decide +kernel
theorem d_Life_isBesideFallenString_49 : decode M_Life_isBesideFallenString.2.1 49 = .ok (.ireturn, 1) := by decide +kernel
theorem d_Life_standsAt_0 : decode M_Life_standsAt.2.1 0 = .ok (.aload_n 0, 1) := by decide +kernel
theorem d_Life_standsAt_1 : decode M_Life_standsAt.2.1 1 = .ok (.getfield 37, 3) := by decide +kernel
theorem d_Life_standsAt_4 : decode M_Life_standsAt.2.1 4 = .ok (.aload_n 0, 1) := by decide +kernel
theorem d_Life_standsAt_5 : decode M_Life_standsAt.2.1 5 = .ok (.getfield 33, 3) := by decide +kernel
theorem d_Life_standsAt_8 : decode M_Life_standsAt.2.1 8 = .ok (.iload_n 1, 1) := by decide +kernel
theorem d_Life_standsAt_9 : decode M_Life_standsAt.2.1 9 = .ok (.invokevirtual 63, 3) := by decide +kernel
theorem d_Life_standsAt_12 : decode M_Life_standsAt.2.1 12 = .ok (.baload, 1) := by decide +kernel
theorem d_Life_standsAt_13 : decode M_Life_standsAt.2.1 13 = .ok (.ireturn, 1) := by decide +kernel
theorem d_Life_countSafe_0 : decode M_Life_countSafe.2.1 0 = .ok (.iconst 0, 1) := by decide +kernel
theorem d_Life_countSafe_1 : decode M_Life_countSafe.2.1 1 = .ok (.istore_n 1, 1) := by decide +kernel
theorem d_Life_countSafe_2 : decode M_Life_countSafe.2.1 2 = .ok (.iconst 0, 1) := by decide +kernel
theorem d_Life_countSafe_3 : decode M_Life_countSafe.2.1 3 = .ok (.istore_n 2, 1) := by decide +kernel
theorem d_Life_countSafe_4 : decode M_Life_countSafe.2.1 4 = .ok (.iconst 0, 1) := by decide +kernel
theorem d_Life_countSafe_5 : decode M_Life_countSafe.2.1 5 = .ok (.istore_n 3, 1) := by decide +kernel
theorem d_Life_countSafe_6 : decode M_Life_countSafe.2.1 6 = .ok (.iload_n 3, 1) := by decide +kernel
theorem d_Life_countSafe_7 : decode M_Life_countSafe.2.1 7 = .ok (.aload_n 0, 1) := by decide +kernel
theorem d_Life_countSafe_8 : decode M_Life_countSafe.2.1 8 = .ok (.getfield 33, 3) := by decide +kernel
theorem d_Life_countSafe_11 : decode M_Life_countSafe.2.1 11 = .ok (.getfield 51, 3) := by decide +kernel
theorem d_Life_countSafe_14 : decode M_Life_countSafe.2.1 14 = .ok (.if_icmp .ge 48, 3) := by decide +kernel
theorem d_Life_countSafe_17 : decode M_Life_countSafe.2.1 17 = .ok (.aload_n 0, 1) := by decide +kernel
theorem d_Life_countSafe_18 : decode M_Life_countSafe.2.1 18 = .ok (.getfield 37, 3) := by decide +kernel
theorem d_Life_countSafe_21 : decode M_Life_countSafe.2.1 21 = .ok (.iload_n 3, 1) := by decide +kernel
theorem d_Life_countSafe_22 : decode M_Life_countSafe.2.1 22 = .ok (.baload, 1) := by decide +kernel
theorem d_Life_countSafe_23 : decode M_Life_countSafe.2.1 23 = .ok (.ifCond .eq 33, 3) := by decide +kernel
theorem d_Life_countSafe_26 : decode M_Life_countSafe.2.1 26 = .ok (.iload_n 1, 1) := by decide +kernel
theorem d_Life_countSafe_27 : decode M_Life_countSafe.2.1 27 = .ok (.ifCond .ne 12, 3) := by decide +kernel
theorem d_Life_countSafe_30 : decode M_Life_countSafe.2.1 30 = .ok (.aload_n 0, 1) := by decide +kernel
theorem d_Life_countSafe_31 : decode M_Life_countSafe.2.1 31 = .ok (.iload_n 3, 1) := by decide +kernel
theorem d_Life_countSafe_32 : decode M_Life_countSafe.2.1 32 = .ok (.invokevirtual 67, 3) := by decide +kernel
theorem d_Life_countSafe_35 : decode M_Life_countSafe.2.1 35 = .ok (.iconst 1, 1) := by decide +kernel
theorem d_Life_countSafe_36 : decode M_Life_countSafe.2.1 36 = .ok (.if_icmp .ne 7, 3) := by decide +kernel
theorem d_Life_countSafe_39 : decode M_Life_countSafe.2.1 39 = .ok (.iconst 1, 1) := by decide +kernel
theorem d_Life_countSafe_40 : decode M_Life_countSafe.2.1 40 = .ok (.goto 4, 3) := by decide +kernel
theorem d_Life_countSafe_43 : decode M_Life_countSafe.2.1 43 = .ok (.iconst 0, 1) := by decide +kernel
theorem d_Life_countSafe_44 : decode M_Life_countSafe.2.1 44 = .ok (.istore_n 1, 1) := by decide +kernel
theorem d_Life_countSafe_45 : decode M_Life_countSafe.2.1 45 = .ok (.iload_n 2, 1) := by decide +kernel
theorem d_Life_countSafe_46 : decode M_Life_countSafe.2.1 46 = .ok (.aload_n 0, 1) := by decide +kernel
theorem d_Life_countSafe_47 : decode M_Life_countSafe.2.1 47 = .ok (.getfield 33, 3) := by decide +kernel
theorem d_Life_countSafe_50 : decode M_Life_countSafe.2.1 50 = .ok (.iload_n 3, 1) := by decide +kernel
theorem d_Life_countSafe_51 : decode M_Life_countSafe.2.1 51 = .ok (.invokevirtual 70, 3) := by decide +kernel
theorem d_Life_countSafe_54 : decode M_Life_countSafe.2.1 54 = .ok (.iadd, 1) := by decide +kernel
theorem d_Life_countSafe_55 : decode M_Life_countSafe.2.1 55 = .ok (.istore_n 2, 1) := by decide +kernel
theorem d_Life_countSafe_56 : decode M_Life_countSafe.2.1 56 = .ok (.iinc 3 1, 3) := by decide +kernel
theorem d_Life_countSafe_59 : decode M_Life_countSafe.2.1 59 = .ok (.goto (-53), 3) := by decide +kernel
theorem d_Life_countSafe_62 : decode M_Life_countSafe.2.1 62 = .ok (.iload_n 1, 1) := by decide +kernel
theorem d_Life_countSafe_63 : decode M_Life_countSafe.2.1 63 = .ok (.ifCond .eq 7, 3) := by decide +kernel
theorem d_Life_countSafe_66 : decode M_Life_countSafe.2.1 66 = .ok (.iload_n 2, 1) := by decide +kernel
theorem d_Life_countSafe_67 : decode M_Life_countSafe.2.1 67 = .ok (.goto 4, 3) := by decide +kernel
theorem d_Life_countSafe_70 : decode M_Life_countSafe.2.1 70 = .ok (.iconst 0, 1) := by decide +kernel
theorem d_Life_countSafe_71 : decode M_Life_countSafe.2.1 71 = .ok (.ireturn, 1) := by decide +kernel
