theorem dX0_init_0 : decode cX0_init 0 = .ok (.aload_n 0, 1) := by decide +kernel
theorem dX0_init_1 : decode cX0_init 1 = .ok (.invokespecial 3, 3) := by decide +kernel
theorem dX0_init_4 : decode cX0_init 4 = .ok (.aload_n 0, 1) := by decide +kernel
theorem dX0_init_5 : decode cX0_init 5 = .ok (.bipush 16, 2) := by decide +kernel
theorem dX0_init_7 : decode cX0_init 7 = .ok (.newarray .int, 2) := by decide +kernel
theorem dX0_init_9 : decode cX0_init 9 = .ok (.putfield 9, 3) := by decide +kernel
theorem dX0_init_12 : decode cX0_init 12 = .ok (.return_, 1) := by decide +kernel
theorem dX0_becomeEmpty_0 : decode cX0_becomeEmpty 0 = .ok (.iconst 0, 1) := by decide +kernel
theorem dX0_becomeEmpty_1 : decode cX0_becomeEmpty 1 = .ok (.istore_n 1, 1) := by decide +kernel
theorem dX0_becomeEmpty_2 : decode cX0_becomeEmpty 2 = .ok (.iload_n 1, 1) := by decide +kernel
theorem dX0_becomeEmpty_3 : decode cX0_becomeEmpty 3 = .ok (.bipush 16, 2) := by decide +kernel
theorem dX0_becomeEmpty_5 : decode cX0_becomeEmpty 5 = .ok (.if_icmp .ge 16, 3) := by decide +kernel
theorem dX0_becomeEmpty_8 : decode cX0_becomeEmpty 8 = .ok (.aload_n 0, 1) := by decide +kernel
theorem dX0_becomeEmpty_9 : decode cX0_becomeEmpty 9 = .ok (.getfield 9, 3) := by decide +kernel
theorem dX0_becomeEmpty_12 : decode cX0_becomeEmpty 12 = .ok (.iload_n 1, 1) := by decide +kernel
theorem dX0_becomeEmpty_13 : decode cX0_becomeEmpty 13 = .ok (.iconst 0, 1) := by decide +kernel
theorem dX0_becomeEmpty_14 : decode cX0_becomeEmpty 14 = .ok (.iastore, 1) := by decide +kernel
theorem dX0_becomeEmpty_15 : decode cX0_becomeEmpty 15 = .ok (.iinc 1 1, 3) := by decide +kernel
theorem dX0_becomeEmpty_18 : decode cX0_becomeEmpty 18 = .ok (.goto (-16), 3) := by decide +kernel
theorem dX0_becomeEmpty_21 : decode cX0_becomeEmpty 21 = .ok (.return_, 1) := by decide +kernel
theorem dX0_becomeCopy_0 : decode cX0_becomeCopy 0 = .ok (.iconst 0, 1) := by decide +kernel
theorem dX0_becomeCopy_1 : decode cX0_becomeCopy 1 = .ok (.istore_n 2, 1) := by decide +kernel
theorem dX0_becomeCopy_2 : decode cX0_becomeCopy 2 = .ok (.iload_n 2, 1) := by decide +kernel
theorem dX0_becomeCopy_3 : decode cX0_becomeCopy 3 = .ok (.bipush 16, 2) := by decide +kernel
theorem dX0_becomeCopy_5 : decode cX0_becomeCopy 5 = .ok (.if_icmp .ge 21, 3) := by decide +kernel
theorem dX0_becomeCopy_8 : decode cX0_becomeCopy 8 = .ok (.aload_n 0, 1) := by decide +kernel
theorem dX0_becomeCopy_9 : decode cX0_becomeCopy 9 = .ok (.getfield 9, 3) := by decide +kernel
theorem dX0_becomeCopy_12 : decode cX0_becomeCopy 12 = .ok (.iload_n 2, 1) := by decide +kernel
theorem dX0_becomeCopy_13 : decode cX0_becomeCopy 13 = .ok (.aload_n 1, 1) := by decide +kernel
theorem dX0_becomeCopy_14 : decode cX0_becomeCopy 14 = .ok (.getfield 9, 3) := by decide +kernel
theorem dX0_becomeCopy_17 : decode cX0_becomeCopy 17 = .ok (.iload_n 2, 1) := by decide +kernel
theorem dX0_becomeCopy_18 : decode cX0_becomeCopy 18 = .ok (.iaload, 1) := by decide +kernel
theorem dX0_becomeCopy_19 : decode cX0_becomeCopy 19 = .ok (.iastore, 1) := by decide +kernel
theorem dX0_becomeCopy_20 : decode cX0_becomeCopy 20 = .ok (.iinc 2 1, 3) := by decide +kernel
theorem dX0_becomeCopy_23 : decode cX0_becomeCopy 23 = .ok (.goto (-21), 3) := by decide +kernel
theorem dX0_becomeCopy_26 : decode cX0_becomeCopy 26 = .ok (.return_, 1) := by decide +kernel
theorem dX0_becomeRectangle_0 : decode cX0_becomeRectangle 0 = .ok (.aload_n 0, 1) := by decide +kernel
theorem dX0_becomeRectangle_1 : decode cX0_becomeRectangle 1 = .ok (.invokevirtual 15, 3) := by decide +kernel
theorem dX0_becomeRectangle_4 : decode cX0_becomeRectangle 4 = .ok (.iload_n 1, 1) := by decide +kernel
theorem dX0_becomeRectangle_5 : decode cX0_becomeRectangle 5 = .ok (.iload_n 2, 1) := by decide +kernel
theorem dX0_becomeRectangle_6 : decode cX0_becomeRectangle 6 = .ok (.invokestatic 18, 3) := by decide +kernel
theorem dX0_becomeRectangle_9 : decode cX0_becomeRectangle 9 = .ok (.istore_n 3, 1) := by decide +kernel
theorem dX0_becomeRectangle_10 : decode cX0_becomeRectangle 10 = .ok (.iload_n 1, 1) := by decide +kernel
theorem dX0_becomeRectangle_11 : decode cX0_becomeRectangle 11 = .ok (.invokestatic 22, 3) := by decide +kernel
theorem dX0_becomeRectangle_14 : decode cX0_becomeRectangle 14 = .ok (.iload_n 2, 1) := by decide +kernel
theorem dX0_becomeRectangle_15 : decode cX0_becomeRectangle 15 = .ok (.invokestatic 22, 3) := by decide +kernel
theorem dX0_becomeRectangle_18 : decode cX0_becomeRectangle 18 = .ok (.invokestatic 26, 3) := by decide +kernel
theorem dX0_becomeRectangle_21 : decode cX0_becomeRectangle 21 = .ok (.istore 4, 2) := by decide +kernel
theorem dX0_becomeRectangle_23 : decode cX0_becomeRectangle 23 = .ok (.iload_n 1, 1) := by decide +kernel
theorem dX0_becomeRectangle_24 : decode cX0_becomeRectangle 24 = .ok (.invokestatic 22, 3) := by decide +kernel
theorem dX0_becomeRectangle_27 : decode cX0_becomeRectangle 27 = .ok (.iload_n 2, 1) := by decide +kernel
theorem dX0_becomeRectangle_28 : decode cX0_becomeRectangle 28 = .ok (.invokestatic 22, 3) := by decide +kernel
theorem dX0_becomeRectangle_31 : decode cX0_becomeRectangle 31 = .ok (.invokestatic 31, 3) := by decide +kernel
theorem dX0_becomeRectangle_34 : decode cX0_becomeRectangle 34 = .ok (.istore 5, 2) := by decide +kernel
theorem dX0_becomeRectangle_36 : decode cX0_becomeRectangle 36 = .ok (.iload 5, 2) := by decide +kernel
theorem dX0_becomeRectangle_38 : decode cX0_becomeRectangle 38 = .ok (.iload 4, 2) := by decide +kernel
theorem dX0_becomeRectangle_40 : decode cX0_becomeRectangle 40 = .ok (.if_icmp .gt 17, 3) := by decide +kernel
theorem dX0_becomeRectangle_43 : decode cX0_becomeRectangle 43 = .ok (.aload_n 0, 1) := by decide +kernel
theorem dX0_becomeRectangle_44 : decode cX0_becomeRectangle 44 = .ok (.getfield 9, 3) := by decide +kernel
theorem dX0_becomeRectangle_47 : decode cX0_becomeRectangle 47 = .ok (.iload 5, 2) := by decide +kernel
theorem dX0_becomeRectangle_49 : decode cX0_becomeRectangle 49 = .ok (.iload_n 3, 1) := by decide +kernel
theorem dX0_becomeRectangle_50 : decode cX0_becomeRectangle 50 = .ok (.iastore, 1) := by decide +kernel
theorem dX0_becomeRectangle_51 : decode cX0_becomeRectangle 51 = .ok (.iinc 5 1, 3) := by decide +kernel
theorem dX0_becomeRectangle_54 : decode cX0_becomeRectangle 54 = .ok (.goto (-18), 3) := by decide +kernel
theorem dX0_becomeRectangle_57 : decode cX0_becomeRectangle 57 = .ok (.return_, 1) := by decide +kernel
theorem dX0_meetsRectangle_0 : decode cX0_meetsRectangle 0 = .ok (.iload_n 1, 1) := by decide +kernel
theorem dX0_meetsRectangle_1 : decode cX0_meetsRectangle 1 = .ok (.iload_n 2, 1) := by decide +kernel
theorem dX0_meetsRectangle_2 : decode cX0_meetsRectangle 2 = .ok (.invokestatic 18, 3) := by decide +kernel
theorem dX0_meetsRectangle_5 : decode cX0_meetsRectangle 5 = .ok (.istore_n 3, 1) := by decide +kernel
theorem dX0_meetsRectangle_6 : decode cX0_meetsRectangle 6 = .ok (.iload_n 1, 1) := by decide +kernel
theorem dX0_meetsRectangle_7 : decode cX0_meetsRectangle 7 = .ok (.invokestatic 22, 3) := by decide +kernel
theorem dX0_meetsRectangle_10 : decode cX0_meetsRectangle 10 = .ok (.iload_n 2, 1) := by decide +kernel
theorem dX0_meetsRectangle_11 : decode cX0_meetsRectangle 11 = .ok (.invokestatic 22, 3) := by decide +kernel
theorem dX0_meetsRectangle_14 : decode cX0_meetsRectangle 14 = .ok (.invokestatic 26, 3) := by decide +kernel
theorem dX0_meetsRectangle_17 : decode cX0_meetsRectangle 17 = .ok (.istore 4, 2) := by decide +kernel
theorem dX0_meetsRectangle_19 : decode cX0_meetsRectangle 19 = .ok (.iload_n 1, 1) := by decide +kernel
theorem dX0_meetsRectangle_20 : decode cX0_meetsRectangle 20 = .ok (.invokestatic 22, 3) := by decide +kernel
theorem dX0_meetsRectangle_23 : decode cX0_meetsRectangle 23 = .ok (.iload_n 2, 1) := by decide +kernel
theorem dX0_meetsRectangle_24 : decode cX0_meetsRectangle 24 = .ok (.invokestatic 22, 3) := by decide +kernel
theorem dX0_meetsRectangle_27 : decode cX0_meetsRectangle 27 = .ok (.invokestatic 31, 3) := by decide +kernel
theorem dX0_meetsRectangle_30 : decode cX0_meetsRectangle 30 = .ok (.istore 5, 2) := by decide +kernel
theorem dX0_meetsRectangle_32 : decode cX0_meetsRectangle 32 = .ok (.iload 5, 2) := by decide +kernel
theorem dX0_meetsRectangle_34 : decode cX0_meetsRectangle 34 = .ok (.iload 4, 2) := by decide +kernel
theorem dX0_meetsRectangle_36 : decode cX0_meetsRectangle 36 = .ok (.if_icmp .gt 23, 3) := by decide +kernel
theorem dX0_meetsRectangle_39 : decode cX0_meetsRectangle 39 = .ok (.aload_n 0, 1) := by decide +kernel
theorem dX0_meetsRectangle_40 : decode cX0_meetsRectangle 40 = .ok (.getfield 9, 3) := by decide +kernel
theorem dX0_meetsRectangle_43 : decode cX0_meetsRectangle 43 = .ok (.iload 5, 2) := by decide +kernel
theorem dX0_meetsRectangle_45 : decode cX0_meetsRectangle 45 = .ok (.iaload, 1) := by decide +kernel
theorem dX0_meetsRectangle_46 : decode cX0_meetsRectangle 46 = .ok (.iload_n 3, 1) := by decide +kernel
theorem dX0_meetsRectangle_47 : decode cX0_meetsRectangle 47 = .ok (.iand, 1) := by decide +kernel
theorem dX0_meetsRectangle_48 : decode cX0_meetsRectangle 48 = .ok (.ifCond .eq 5, 3) := by decide +kernel
theorem dX0_meetsRectangle_51 : decode cX0_meetsRectangle 51 = .ok (.iconst 1, 1) := by decide +kernel
theorem dX0_meetsRectangle_52 : decode cX0_meetsRectangle 52 = .ok (.ireturn, 1) := by decide +kernel
theorem dX0_meetsRectangle_53 : decode cX0_meetsRectangle 53 = .ok (.iinc 5 1, 3) := by decide +kernel
theorem dX0_meetsRectangle_56 : decode cX0_meetsRectangle 56 = .ok (.goto (-24), 3) := by decide +kernel
theorem dX0_meetsRectangle_59 : decode cX0_meetsRectangle 59 = .ok (.iconst 0, 1) := by decide +kernel
theorem dX0_meetsRectangle_60 : decode cX0_meetsRectangle 60 = .ok (.ireturn, 1) := by decide +kernel
theorem dX0_columnsBetween_0 : decode cX0_columnsBetween 0 = .ok (.iload_n 0, 1) := by decide +kernel
theorem dX0_columnsBetween_1 : decode cX0_columnsBetween 1 = .ok (.invokestatic 34, 3) := by decide +kernel
theorem dX0_columnsBetween_4 : decode cX0_columnsBetween 4 = .ok (.iload_n 1, 1) := by decide +kernel
theorem dX0_columnsBetween_5 : decode cX0_columnsBetween 5 = .ok (.invokestatic 34, 3) := by decide +kernel
theorem dX0_columnsBetween_8 : decode cX0_columnsBetween 8 = .ok (.invokestatic 31, 3) := by decide +kernel
theorem dX0_columnsBetween_11 : decode cX0_columnsBetween 11 = .ok (.istore_n 2, 1) := by decide +kernel
theorem dX0_columnsBetween_12 : decode cX0_columnsBetween 12 = .ok (.iload_n 0, 1) := by decide +kernel
theorem dX0_columnsBetween_13 : decode cX0_columnsBetween 13 = .ok (.invokestatic 34, 3) := by decide +kernel
theorem dX0_columnsBetween_16 : decode cX0_columnsBetween 16 = .ok (.iload_n 1, 1) := by decide +kernel
theorem dX0_columnsBetween_17 : decode cX0_columnsBetween 17 = .ok (.invokestatic 34, 3) := by decide +kernel
theorem dX0_columnsBetween_20 : decode cX0_columnsBetween 20 = .ok (.invokestatic 26, 3) := by decide +kernel
theorem dX0_columnsBetween_23 : decode cX0_columnsBetween 23 = .ok (.istore_n 3, 1) := by decide +kernel
theorem dX0_columnsBetween_24 : decode cX0_columnsBetween 24 = .ok (.iconst 1, 1) := by decide +kernel
theorem dX0_columnsBetween_25 : decode cX0_columnsBetween 25 = .ok (.iload_n 3, 1) := by decide +kernel
theorem dX0_columnsBetween_26 : decode cX0_columnsBetween 26 = .ok (.iconst 1, 1) := by decide +kernel
theorem dX0_columnsBetween_27 : decode cX0_columnsBetween 27 = .ok (.iadd, 1) := by decide +kernel
theorem dX0_columnsBetween_28 : decode cX0_columnsBetween 28 = .ok (.ishl, 1) := by decide +kernel
theorem dX0_columnsBetween_29 : decode cX0_columnsBetween 29 = .ok (.iconst 1, 1) := by decide +kernel
theorem dX0_columnsBetween_30 : decode cX0_columnsBetween 30 = .ok (.iload_n 2, 1) := by decide +kernel
theorem dX0_columnsBetween_31 : decode cX0_columnsBetween 31 = .ok (.ishl, 1) := by decide +kernel
theorem dX0_columnsBetween_32 : decode cX0_columnsBetween 32 = .ok (.isub, 1) := by decide +kernel
theorem dX0_columnsBetween_33 : decode cX0_columnsBetween 33 = .ok (.ireturn, 1) := by decide +kernel
theorem dX0_rowOf_0 : decode cX0_rowOf 0 = .ok (.iload_n 0, 1) := by decide +kernel
theorem dX0_rowOf_1 : decode cX0_rowOf 1 = .ok (.iconst 4, 1) := by decide +kernel
theorem dX0_rowOf_2 : decode cX0_rowOf 2 = .ok (.ishr, 1) := by decide +kernel
theorem dX0_rowOf_3 : decode cX0_rowOf 3 = .ok (.bipush 15, 2) := by decide +kernel
theorem dX0_rowOf_5 : decode cX0_rowOf 5 = .ok (.iand, 1) := by decide +kernel
theorem dX0_rowOf_6 : decode cX0_rowOf 6 = .ok (.ireturn, 1) := by decide +kernel
theorem dX0_columnOf_0 : decode cX0_columnOf 0 = .ok (.iload_n 0, 1) := by decide +kernel
theorem dX0_columnOf_1 : decode cX0_columnOf 1 = .ok (.bipush 15, 2) := by decide +kernel
theorem dX0_columnOf_3 : decode cX0_columnOf 3 = .ok (.iand, 1) := by decide +kernel
theorem dX0_columnOf_4 : decode cX0_columnOf 4 = .ok (.ireturn, 1) := by decide +kernel
theorem dX0_contains_0 : decode cX0_contains 0 = .ok (.aload_n 0, 1) := by decide +kernel
theorem dX0_contains_1 : decode cX0_contains 1 = .ok (.getfield 9, 3) := by decide +kernel
theorem dX0_contains_4 : decode cX0_contains 4 = .ok (.iload_n 1, 1) := by decide +kernel
theorem dX0_contains_5 : decode cX0_contains 5 = .ok (.iconst 4, 1) := by decide +kernel
theorem dX0_contains_6 : decode cX0_contains 6 = .ok (.ishr, 1) := by decide +kernel
theorem dX0_contains_7 : decode cX0_contains 7 = .ok (.bipush 15, 2) := by decide +kernel
theorem dX0_contains_9 : decode cX0_contains 9 = .ok (.iand, 1) := by decide +kernel
theorem dX0_contains_10 : decode cX0_contains 10 = .ok (.iaload, 1) := by decide +kernel
theorem dX0_contains_11 : decode cX0_contains 11 = .ok (.iload_n 1, 1) := by decide +kernel
theorem dX0_contains_12 : decode cX0_contains 12 = .ok (.bipush 15, 2) := by decide +kernel
theorem dX0_contains_14 : decode cX0_contains 14 = .ok (.iand, 1) := by decide +kernel
theorem dX0_contains_15 : decode cX0_contains 15 = .ok (.ishr, 1) := by decide +kernel
theorem dX0_contains_16 : decode cX0_contains 16 = .ok (.iconst 1, 1) := by decide +kernel
theorem dX0_contains_17 : decode cX0_contains 17 = .ok (.iand, 1) := by decide +kernel
theorem dX0_contains_18 : decode cX0_contains 18 = .ok (.iconst 1, 1) := by decide +kernel
theorem dX0_contains_19 : decode cX0_contains 19 = .ok (.if_icmp .ne 7, 3) := by decide +kernel
theorem dX0_contains_22 : decode cX0_contains 22 = .ok (.iconst 1, 1) := by decide +kernel
theorem dX0_contains_23 : decode cX0_contains 23 = .ok (.goto 4, 3) := by decide +kernel
theorem dX0_contains_26 : decode cX0_contains 26 = .ok (.iconst 0, 1) := by decide +kernel
theorem dX0_contains_27 : decode cX0_contains 27 = .ok (.ireturn, 1) := by decide +kernel
theorem dX0_include_0 : decode cX0_include 0 = .ok (.aload_n 0, 1) := by decide +kernel
theorem dX0_include_1 : decode cX0_include 1 = .ok (.getfield 9, 3) := by decide +kernel
theorem dX0_include_4 : decode cX0_include 4 = .ok (.iload_n 1, 1) := by decide +kernel
theorem dX0_include_5 : decode cX0_include 5 = .ok (.iconst 4, 1) := by decide +kernel
theorem dX0_include_6 : decode cX0_include 6 = .ok (.ishr, 1) := by decide +kernel
theorem dX0_include_7 : decode cX0_include 7 = .ok (.bipush 15, 2) := by decide +kernel
theorem dX0_include_9 : decode cX0_include 9 = .ok (.iand, 1) := by decide +kernel
theorem dX0_include_10 : decode cX0_include 10 = .ok (.dup2, 1) := by decide +kernel
theorem dX0_include_11 : decode cX0_include 11 = .ok (.iaload, 1) := by decide +kernel
theorem dX0_include_12 : decode cX0_include 12 = .ok (.iconst 1, 1) := by decide +kernel
theorem dX0_include_13 : decode cX0_include 13 = .ok (.iload_n 1, 1) := by decide +kernel
theorem dX0_include_14 : decode cX0_include 14 = .ok (.bipush 15, 2) := by decide +kernel
theorem dX0_include_16 : decode cX0_include 16 = .ok (.iand, 1) := by decide +kernel
theorem dX0_include_17 : decode cX0_include 17 = .ok (.ishl, 1) := by decide +kernel
theorem dX0_include_18 : decode cX0_include 18 = .ok (.ior, 1) := by decide +kernel
theorem dX0_include_19 : decode cX0_include 19 = .ok (.iastore, 1) := by decide +kernel
theorem dX0_include_20 : decode cX0_include 20 = .ok (.return_, 1) := by decide +kernel
theorem dX0_exclude_0 : decode cX0_exclude 0 = .ok (.aload_n 0, 1) := by decide +kernel
theorem dX0_exclude_1 : decode cX0_exclude 1 = .ok (.getfield 9, 3) := by decide +kernel
theorem dX0_exclude_4 : decode cX0_exclude 4 = .ok (.iload_n 1, 1) := by decide +kernel
theorem dX0_exclude_5 : decode cX0_exclude 5 = .ok (.iconst 4, 1) := by decide +kernel
theorem dX0_exclude_6 : decode cX0_exclude 6 = .ok (.ishr, 1) := by decide +kernel
theorem dX0_exclude_7 : decode cX0_exclude 7 = .ok (.bipush 15, 2) := by decide +kernel
theorem dX0_exclude_9 : decode cX0_exclude 9 = .ok (.iand, 1) := by decide +kernel
theorem dX0_exclude_10 : decode cX0_exclude 10 = .ok (.dup2, 1) := by decide +kernel
theorem dX0_exclude_11 : decode cX0_exclude 11 = .ok (.iaload, 1) := by decide +kernel
theorem dX0_exclude_12 : decode cX0_exclude 12 = .ok (.iconst 1, 1) := by decide +kernel
theorem dX0_exclude_13 : decode cX0_exclude 13 = .ok (.iload_n 1, 1) := by decide +kernel
theorem dX0_exclude_14 : decode cX0_exclude 14 = .ok (.bipush 15, 2) := by decide +kernel
theorem dX0_exclude_16 : decode cX0_exclude 16 = .ok (.iand, 1) := by decide +kernel
theorem dX0_exclude_17 : decode cX0_exclude 17 = .ok (.ishl, 1) := by decide +kernel
theorem dX0_exclude_18 : decode cX0_exclude 18 = .ok (.iconst (-1), 1) := by decide +kernel
theorem dX0_exclude_19 : decode cX0_exclude 19 = .ok (.ixor, 1) := by decide +kernel
theorem dX0_exclude_20 : decode cX0_exclude 20 = .ok (.iand, 1) := by decide +kernel
theorem dX0_exclude_21 : decode cX0_exclude 21 = .ok (.iastore, 1) := by decide +kernel
theorem dX0_exclude_22 : decode cX0_exclude 22 = .ok (.return_, 1) := by decide +kernel
theorem dX0_addAll_0 : decode cX0_addAll 0 = .ok (.iconst 0, 1) := by decide +kernel
theorem dX0_addAll_1 : decode cX0_addAll 1 = .ok (.istore_n 2, 1) := by decide +kernel
theorem dX0_addAll_2 : decode cX0_addAll 2 = .ok (.iload_n 2, 1) := by decide +kernel
theorem dX0_addAll_3 : decode cX0_addAll 3 = .ok (.bipush 16, 2) := by decide +kernel
theorem dX0_addAll_5 : decode cX0_addAll 5 = .ok (.if_icmp .ge 24, 3) := by decide +kernel
theorem dX0_addAll_8 : decode cX0_addAll 8 = .ok (.aload_n 0, 1) := by decide +kernel
theorem dX0_addAll_9 : decode cX0_addAll 9 = .ok (.getfield 9, 3) := by decide +kernel
theorem dX0_addAll_12 : decode cX0_addAll 12 = .ok (.iload_n 2, 1) := by decide +kernel
theorem dX0_addAll_13 : decode cX0_addAll 13 = .ok (.dup2, 1) := by decide +kernel
theorem dX0_addAll_14 : decode cX0_addAll 14 = .ok (.iaload, 1) := by decide +kernel
theorem dX0_addAll_15 : decode cX0_addAll 15 = .ok (.aload_n 1, 1) := by decide +kernel
theorem dX0_addAll_16 : decode cX0_addAll 16 = .ok (.getfield 9, 3) := by decide +kernel
theorem dX0_addAll_19 : decode cX0_addAll 19 = .ok (.iload_n 2, 1) := by decide +kernel
theorem dX0_addAll_20 : decode cX0_addAll 20 = .ok (.iaload, 1) := by decide +kernel
theorem dX0_addAll_21 : decode cX0_addAll 21 = .ok (.ior, 1) := by decide +kernel
theorem dX0_addAll_22 : decode cX0_addAll 22 = .ok (.iastore, 1) := by decide +kernel
theorem dX0_addAll_23 : decode cX0_addAll 23 = .ok (.iinc 2 1, 3) := by decide +kernel
theorem dX0_addAll_26 : decode cX0_addAll 26 = .ok (.goto (-24), 3) := by decide +kernel
theorem dX0_addAll_29 : decode cX0_addAll 29 = .ok (.return_, 1) := by decide +kernel
theorem dX0_takeAway_0 : decode cX0_takeAway 0 = .ok (.iconst 0, 1) := by decide +kernel
theorem dX0_takeAway_1 : decode cX0_takeAway 1 = .ok (.istore_n 2, 1) := by decide +kernel
theorem dX0_takeAway_2 : decode cX0_takeAway 2 = .ok (.iload_n 2, 1) := by decide +kernel
theorem dX0_takeAway_3 : decode cX0_takeAway 3 = .ok (.bipush 16, 2) := by decide +kernel
theorem dX0_takeAway_5 : decode cX0_takeAway 5 = .ok (.if_icmp .ge 26, 3) := by decide +kernel
theorem dX0_takeAway_8 : decode cX0_takeAway 8 = .ok (.aload_n 0, 1) := by decide +kernel
theorem dX0_takeAway_9 : decode cX0_takeAway 9 = .ok (.getfield 9, 3) := by decide +kernel
theorem dX0_takeAway_12 : decode cX0_takeAway 12 = .ok (.iload_n 2, 1) := by decide +kernel
theorem dX0_takeAway_13 : decode cX0_takeAway 13 = .ok (.dup2, 1) := by decide +kernel
theorem dX0_takeAway_14 : decode cX0_takeAway 14 = .ok (.iaload, 1) := by decide +kernel
theorem dX0_takeAway_15 : decode cX0_takeAway 15 = .ok (.aload_n 1, 1) := by decide +kernel
theorem dX0_takeAway_16 : decode cX0_takeAway 16 = .ok (.getfield 9, 3) := by decide +kernel
theorem dX0_takeAway_19 : decode cX0_takeAway 19 = .ok (.iload_n 2, 1) := by decide +kernel
theorem dX0_takeAway_20 : decode cX0_takeAway 20 = .ok (.iaload, 1) := by decide +kernel
theorem dX0_takeAway_21 : decode cX0_takeAway 21 = .ok (.iconst (-1), 1) := by decide +kernel
theorem dX0_takeAway_22 : decode cX0_takeAway 22 = .ok (.ixor, 1) := by decide +kernel
theorem dX0_takeAway_23 : decode cX0_takeAway 23 = .ok (.iand, 1) := by decide +kernel
theorem dX0_takeAway_24 : decode cX0_takeAway 24 = .ok (.iastore, 1) := by decide +kernel
theorem dX0_takeAway_25 : decode cX0_takeAway 25 = .ok (.iinc 2 1, 3) := by decide +kernel
theorem dX0_takeAway_28 : decode cX0_takeAway 28 = .ok (.goto (-26), 3) := by decide +kernel
theorem dX0_takeAway_31 : decode cX0_takeAway 31 = .ok (.return_, 1) := by decide +kernel
theorem dX0_meets_0 : decode cX0_meets 0 = .ok (.iconst 0, 1) := by decide +kernel
theorem dX0_meets_1 : decode cX0_meets 1 = .ok (.istore_n 2, 1) := by decide +kernel
theorem dX0_meets_2 : decode cX0_meets 2 = .ok (.iload_n 2, 1) := by decide +kernel
theorem dX0_meets_3 : decode cX0_meets 3 = .ok (.bipush 16, 2) := by decide +kernel
theorem dX0_meets_5 : decode cX0_meets 5 = .ok (.if_icmp .ge 27, 3) := by decide +kernel
theorem dX0_meets_8 : decode cX0_meets 8 = .ok (.aload_n 0, 1) := by decide +kernel
theorem dX0_meets_9 : decode cX0_meets 9 = .ok (.getfield 9, 3) := by decide +kernel
theorem dX0_meets_12 : decode cX0_meets 12 = .ok (.iload_n 2, 1) := by decide +kernel
theorem dX0_meets_13 : decode cX0_meets 13 = .ok (.iaload, 1) := by decide +kernel
theorem dX0_meets_14 : decode cX0_meets 14 = .ok (.aload_n 1, 1) := by decide +kernel
theorem dX0_meets_15 : decode cX0_meets 15 = .ok (.getfield 9, 3) := by decide +kernel
theorem dX0_meets_18 : decode cX0_meets 18 = .ok (.iload_n 2, 1) := by decide +kernel
theorem dX0_meets_19 : decode cX0_meets 19 = .ok (.iaload, 1) := by decide +kernel
theorem dX0_meets_20 : decode cX0_meets 20 = .ok (.iand, 1) := by decide +kernel
theorem dX0_meets_21 : decode cX0_meets 21 = .ok (.ifCond .eq 5, 3) := by decide +kernel
theorem dX0_meets_24 : decode cX0_meets 24 = .ok (.iconst 1, 1) := by decide +kernel
theorem dX0_meets_25 : decode cX0_meets 25 = .ok (.ireturn, 1) := by decide +kernel
theorem dX0_meets_26 : decode cX0_meets 26 = .ok (.iinc 2 1, 3) := by decide +kernel
theorem dX0_meets_29 : decode cX0_meets 29 = .ok (.goto (-27), 3) := by decide +kernel
theorem dX0_meets_32 : decode cX0_meets 32 = .ok (.iconst 0, 1) := by decide +kernel
theorem dX0_meets_33 : decode cX0_meets 33 = .ok (.ireturn, 1) := by decide +kernel
theorem dX0_size_0 : decode cX0_size 0 = .ok (.iconst 0, 1) := by decide +kernel
theorem dX0_size_1 : decode cX0_size 1 = .ok (.istore_n 1, 1) := by decide +kernel
theorem dX0_size_2 : decode cX0_size 2 = .ok (.iconst 0, 1) := by decide +kernel
theorem dX0_size_3 : decode cX0_size 3 = .ok (.istore_n 2, 1) := by decide +kernel
theorem dX0_size_4 : decode cX0_size 4 = .ok (.iload_n 2, 1) := by decide +kernel
theorem dX0_size_5 : decode cX0_size 5 = .ok (.bipush 16, 2) := by decide +kernel
theorem dX0_size_7 : decode cX0_size 7 = .ok (.if_icmp .ge 21, 3) := by decide +kernel
theorem dX0_size_10 : decode cX0_size 10 = .ok (.iload_n 1, 1) := by decide +kernel
theorem dX0_size_11 : decode cX0_size 11 = .ok (.aload_n 0, 1) := by decide +kernel
theorem dX0_size_12 : decode cX0_size 12 = .ok (.getfield 9, 3) := by decide +kernel
theorem dX0_size_15 : decode cX0_size 15 = .ok (.iload_n 2, 1) := by decide +kernel
theorem dX0_size_16 : decode cX0_size 16 = .ok (.iaload, 1) := by decide +kernel
theorem dX0_size_17 : decode cX0_size 17 = .ok (.invokestatic 37, 3) := by decide +kernel
theorem dX0_size_20 : decode cX0_size 20 = .ok (.iadd, 1) := by decide +kernel
theorem dX0_size_21 : decode cX0_size 21 = .ok (.istore_n 1, 1) := by decide +kernel
theorem dX0_size_22 : decode cX0_size 22 = .ok (.iinc 2 1, 3) := by decide +kernel
theorem dX0_size_25 : decode cX0_size 25 = .ok (.goto (-21), 3) := by decide +kernel
theorem dX0_size_28 : decode cX0_size 28 = .ok (.iload_n 1, 1) := by decide +kernel
theorem dX0_size_29 : decode cX0_size 29 = .ok (.ireturn, 1) := by decide +kernel
theorem dJ6_bitCount_0f7a4_0 : decode cJ6_bitCount_0f7a4 0 = .ok (.iload_n 0, 1) := by decide +kernel
theorem dJ6_bitCount_0f7a4_1 : decode cJ6_bitCount_0f7a4 1 = .ok (.iload_n 0, 1) := by decide +kernel
theorem dJ6_bitCount_0f7a4_2 : decode cJ6_bitCount_0f7a4 2 = .ok (.iconst 1, 1) := by decide +kernel
theorem dJ6_bitCount_0f7a4_3 : decode cJ6_bitCount_0f7a4 3 = .ok (.iushr, 1) := by decide +kernel
theorem dJ6_bitCount_0f7a4_4 : decode cJ6_bitCount_0f7a4 4 = .ok (.ldc_w 265, 3) := by decide +kernel
theorem dJ6_bitCount_0f7a4_7 : decode cJ6_bitCount_0f7a4 7 = .ok (.iand, 1) := by decide +kernel
theorem dJ6_bitCount_0f7a4_8 : decode cJ6_bitCount_0f7a4 8 = .ok (.isub, 1) := by decide +kernel
theorem dJ6_bitCount_0f7a4_9 : decode cJ6_bitCount_0f7a4 9 = .ok (.istore_n 0, 1) := by decide +kernel
theorem dJ6_bitCount_0f7a4_10 : decode cJ6_bitCount_0f7a4 10 = .ok (.iload_n 0, 1) := by decide +kernel
theorem dJ6_bitCount_0f7a4_11 : decode cJ6_bitCount_0f7a4 11 = .ok (.ldc_w 266, 3) := by decide +kernel
theorem dJ6_bitCount_0f7a4_14 : decode cJ6_bitCount_0f7a4 14 = .ok (.iand, 1) := by decide +kernel
theorem dJ6_bitCount_0f7a4_15 : decode cJ6_bitCount_0f7a4 15 = .ok (.iload_n 0, 1) := by decide +kernel
theorem dJ6_bitCount_0f7a4_16 : decode cJ6_bitCount_0f7a4 16 = .ok (.iconst 2, 1) := by decide +kernel
theorem dJ6_bitCount_0f7a4_17 : decode cJ6_bitCount_0f7a4 17 = .ok (.iushr, 1) := by decide +kernel
theorem dJ6_bitCount_0f7a4_18 : decode cJ6_bitCount_0f7a4 18 = .ok (.ldc_w 266, 3) := by decide +kernel
theorem dJ6_bitCount_0f7a4_21 : decode cJ6_bitCount_0f7a4 21 = .ok (.iand, 1) := by decide +kernel
theorem dJ6_bitCount_0f7a4_22 : decode cJ6_bitCount_0f7a4 22 = .ok (.iadd, 1) := by decide +kernel
theorem dJ6_bitCount_0f7a4_23 : decode cJ6_bitCount_0f7a4 23 = .ok (.istore_n 0, 1) := by decide +kernel
theorem dJ6_bitCount_0f7a4_24 : decode cJ6_bitCount_0f7a4 24 = .ok (.iload_n 0, 1) := by decide +kernel
theorem dJ6_bitCount_0f7a4_25 : decode cJ6_bitCount_0f7a4 25 = .ok (.iload_n 0, 1) := by decide +kernel
theorem dJ6_bitCount_0f7a4_26 : decode cJ6_bitCount_0f7a4 26 = .ok (.iconst 4, 1) := by decide +kernel
theorem dJ6_bitCount_0f7a4_27 : decode cJ6_bitCount_0f7a4 27 = .ok (.iushr, 1) := by decide +kernel
theorem dJ6_bitCount_0f7a4_28 : decode cJ6_bitCount_0f7a4 28 = .ok (.iadd, 1) := by decide +kernel
theorem dJ6_bitCount_0f7a4_29 : decode cJ6_bitCount_0f7a4 29 = .ok (.ldc_w 267, 3) := by decide +kernel
theorem dJ6_bitCount_0f7a4_32 : decode cJ6_bitCount_0f7a4 32 = .ok (.iand, 1) := by decide +kernel
theorem dJ6_bitCount_0f7a4_33 : decode cJ6_bitCount_0f7a4 33 = .ok (.istore_n 0, 1) := by decide +kernel
theorem dJ6_bitCount_0f7a4_34 : decode cJ6_bitCount_0f7a4 34 = .ok (.iload_n 0, 1) := by decide +kernel
theorem dJ6_bitCount_0f7a4_35 : decode cJ6_bitCount_0f7a4 35 = .ok (.iload_n 0, 1) := by decide +kernel
theorem dJ6_bitCount_0f7a4_36 : decode cJ6_bitCount_0f7a4 36 = .ok (.bipush 8, 2) := by decide +kernel
theorem dJ6_bitCount_0f7a4_38 : decode cJ6_bitCount_0f7a4 38 = .ok (.iushr, 1) := by decide +kernel
theorem dJ6_bitCount_0f7a4_39 : decode cJ6_bitCount_0f7a4 39 = .ok (.iadd, 1) := by decide +kernel
theorem dJ6_bitCount_0f7a4_40 : decode cJ6_bitCount_0f7a4 40 = .ok (.istore_n 0, 1) := by decide +kernel
theorem dJ6_bitCount_0f7a4_41 : decode cJ6_bitCount_0f7a4 41 = .ok (.iload_n 0, 1) := by decide +kernel
theorem dJ6_bitCount_0f7a4_42 : decode cJ6_bitCount_0f7a4 42 = .ok (.iload_n 0, 1) := by decide +kernel
theorem dJ6_bitCount_0f7a4_43 : decode cJ6_bitCount_0f7a4 43 = .ok (.bipush 16, 2) := by decide +kernel
theorem dJ6_bitCount_0f7a4_45 : decode cJ6_bitCount_0f7a4 45 = .ok (.iushr, 1) := by decide +kernel
theorem dJ6_bitCount_0f7a4_46 : decode cJ6_bitCount_0f7a4 46 = .ok (.iadd, 1) := by decide +kernel
theorem dJ6_bitCount_0f7a4_47 : decode cJ6_bitCount_0f7a4 47 = .ok (.istore_n 0, 1) := by decide +kernel
theorem dJ6_bitCount_0f7a4_48 : decode cJ6_bitCount_0f7a4 48 = .ok (.iload_n 0, 1) := by decide +kernel
theorem dJ6_bitCount_0f7a4_49 : decode cJ6_bitCount_0f7a4 49 = .ok (.bipush 63, 2) := by decide +kernel
theorem dJ6_bitCount_0f7a4_51 : decode cJ6_bitCount_0f7a4 51 = .ok (.iand, 1) := by decide +kernel
theorem dJ6_bitCount_0f7a4_52 : decode cJ6_bitCount_0f7a4 52 = .ok (.ireturn, 1) := by decide +kernel
theorem fk_X0_9 : Cond.fieldLink RX0 9 RX0 (TX0 0).2.1 (TX0 0).2.2.1 ∈ gl := gl_tb (by decide +kernel) rfl
theorem mk_X0_15 : Cond.methodLink RX0 15 yX0_becomeEmpty ∈ gl := gl_tb (by decide +kernel) rfl
theorem mk_X0_18 : Cond.methodLink RX0 18 yX0_columnsBetween ∈ gl := gl_tb (by decide +kernel) rfl
theorem mk_X0_22 : Cond.methodLink RX0 22 yX0_rowOf ∈ gl := gl_tb (by decide +kernel) rfl
theorem mk_X0_26 : Cond.methodLink RX0 26 Lib.Math.max.name ∈ gl := gl_tb (by decide +kernel) rfl
theorem mk_X0_31 : Cond.methodLink RX0 31 Lib.Math.min.name ∈ gl := gl_tb (by decide +kernel) rfl
theorem mk_X0_34 : Cond.methodLink RX0 34 yX0_columnOf ∈ gl := gl_tb (by decide +kernel) rfl
theorem mk_X0_37 : Cond.methodLink RX0 37 yJ6_bitCount_0f7a4 ∈ gl := gl_tb (by decide +kernel) rfl
theorem vw_X0_becomeEmpty : vwM RX0 yX0_becomeEmpty (.code yX0_becomeEmpty cX0_becomeEmpty 2 none) := ⟨gl_tb (by decide +kernel) rfl, by first | exact gl_tb (by decide +kernel) rfl | exact gl_pv (by decide +kernel) rfl, gl_tb (by decide +kernel) rfl, gl_tb (by decide +kernel) rfl⟩
theorem vw_X0_becomeCopy : vwM RX0 yX0_becomeCopy (.code yX0_becomeCopy cX0_becomeCopy 3 none) := ⟨gl_tb (by decide +kernel) rfl, by first | exact gl_tb (by decide +kernel) rfl | exact gl_pv (by decide +kernel) rfl, gl_tb (by decide +kernel) rfl, gl_tb (by decide +kernel) rfl⟩
theorem vw_X0_becomeRectangle : vwM RX0 yX0_becomeRectangle (.code yX0_becomeRectangle cX0_becomeRectangle 6 none) := ⟨gl_tb (by decide +kernel) rfl, by first | exact gl_tb (by decide +kernel) rfl | exact gl_pv (by decide +kernel) rfl, gl_tb (by decide +kernel) rfl, gl_tb (by decide +kernel) rfl⟩
theorem vw_X0_meetsRectangle : vwM RX0 yX0_meetsRectangle (.code yX0_meetsRectangle cX0_meetsRectangle 6 (some .boolean)) := ⟨gl_tb (by decide +kernel) rfl, by first | exact gl_tb (by decide +kernel) rfl | exact gl_pv (by decide +kernel) rfl, gl_tb (by decide +kernel) rfl, gl_tb (by decide +kernel) rfl⟩
theorem vw_X0_columnsBetween : vwS yX0_columnsBetween (.code yX0_columnsBetween cX0_columnsBetween 4 (some .int)) := ⟨gl_tb (by decide +kernel) rfl, gl_tb (by decide +kernel) rfl, gl_tb (by decide +kernel) rfl⟩
theorem vw_X0_rowOf : vwS yX0_rowOf (.code yX0_rowOf cX0_rowOf 1 (some .int)) := ⟨gl_tb (by decide +kernel) rfl, gl_tb (by decide +kernel) rfl, gl_tb (by decide +kernel) rfl⟩
theorem vw_X0_columnOf : vwS yX0_columnOf (.code yX0_columnOf cX0_columnOf 1 (some .int)) := ⟨gl_tb (by decide +kernel) rfl, gl_tb (by decide +kernel) rfl, gl_tb (by decide +kernel) rfl⟩
theorem vw_X0_contains : vwM RX0 yX0_contains (.code yX0_contains cX0_contains 2 (some .boolean)) := ⟨gl_tb (by decide +kernel) rfl, by first | exact gl_tb (by decide +kernel) rfl | exact gl_pv (by decide +kernel) rfl, gl_tb (by decide +kernel) rfl, gl_tb (by decide +kernel) rfl⟩
theorem vw_X0_include : vwM RX0 yX0_include (.code yX0_include cX0_include 2 none) := ⟨gl_tb (by decide +kernel) rfl, by first | exact gl_tb (by decide +kernel) rfl | exact gl_pv (by decide +kernel) rfl, gl_tb (by decide +kernel) rfl, gl_tb (by decide +kernel) rfl⟩
theorem vw_X0_exclude : vwM RX0 yX0_exclude (.code yX0_exclude cX0_exclude 2 none) := ⟨gl_tb (by decide +kernel) rfl, by first | exact gl_tb (by decide +kernel) rfl | exact gl_pv (by decide +kernel) rfl, gl_tb (by decide +kernel) rfl, gl_tb (by decide +kernel) rfl⟩
theorem vw_X0_addAll : vwM RX0 yX0_addAll (.code yX0_addAll cX0_addAll 3 none) := ⟨gl_tb (by decide +kernel) rfl, by first | exact gl_tb (by decide +kernel) rfl | exact gl_pv (by decide +kernel) rfl, gl_tb (by decide +kernel) rfl, gl_tb (by decide +kernel) rfl⟩
theorem vw_X0_takeAway : vwM RX0 yX0_takeAway (.code yX0_takeAway cX0_takeAway 3 none) := ⟨gl_tb (by decide +kernel) rfl, by first | exact gl_tb (by decide +kernel) rfl | exact gl_pv (by decide +kernel) rfl, gl_tb (by decide +kernel) rfl, gl_tb (by decide +kernel) rfl⟩
theorem vw_X0_meets : vwM RX0 yX0_meets (.code yX0_meets cX0_meets 3 (some .boolean)) := ⟨gl_tb (by decide +kernel) rfl, by first | exact gl_tb (by decide +kernel) rfl | exact gl_pv (by decide +kernel) rfl, gl_tb (by decide +kernel) rfl, gl_tb (by decide +kernel) rfl⟩
theorem vw_X0_size : vwM RX0 yX0_size (.code yX0_size cX0_size 3 (some .int)) := ⟨gl_tb (by decide +kernel) rfl, by first | exact gl_tb (by decide +kernel) rfl | exact gl_pv (by decide +kernel) rfl, gl_tb (by decide +kernel) rfl, gl_tb (by decide +kernel) rfl⟩
theorem vw_J6_bitCount_0f7a4 : vwS yJ6_bitCount_0f7a4 (.code yJ6_bitCount_0f7a4 cJ6_bitCount_0f7a4 1 (some .int)) := ⟨gl_tb (by decide +kernel) rfl, gl_tb (by decide +kernel) rfl, gl_tb (by decide +kernel) rfl⟩
theorem vw_mmax : Cond.static Lib.Math.max.name ∈ gl ∧ Cond.initialized "java/lang/Math" ∈ gl ∧ Cond.code Lib.Math.max.name Lib.Math.max.code 2 (some .int) ∈ gl := ⟨gl_tb (by decide +kernel) rfl, gl_tb (by decide +kernel) rfl, gl_tb (by decide +kernel) rfl⟩
theorem vw_mmin : Cond.static Lib.Math.min.name ∈ gl ∧ Cond.initialized "java/lang/Math" ∈ gl ∧ Cond.code Lib.Math.min.name Lib.Math.min.code 2 (some .int) ∈ gl := ⟨gl_tb (by decide +kernel) rfl, gl_tb (by decide +kernel) rfl, gl_tb (by decide +kernel) rfl⟩
theorem vw_mabs : Cond.static Lib.Math.abs.name ∈ gl ∧ Cond.initialized "java/lang/Math" ∈ gl ∧ Cond.code Lib.Math.abs.name Lib.Math.abs.code 1 (some .int) ∈ gl := ⟨gl_tb (by decide +kernel) rfl, gl_tb (by decide +kernel) rfl, gl_tb (by decide +kernel) rfl⟩
