theorem dX8_init_0 : decode cX8_init 0 = .ok (.aload_n 0, 1) := by decide +kernel
theorem dX8_init_1 : decode cX8_init 1 = .ok (.invokespecial 1, 3) := by decide +kernel
theorem dX8_init_4 : decode cX8_init 4 = .ok (.aload_n 0, 1) := by decide +kernel
theorem dX8_init_5 : decode cX8_init 5 = .ok (.new 7, 3) := by decide +kernel
theorem dX8_init_8 : decode cX8_init 8 = .ok (.dup, 1) := by decide +kernel
theorem dX8_init_9 : decode cX8_init 9 = .ok (.invokespecial 9, 3) := by decide +kernel
theorem dX8_init_12 : decode cX8_init 12 = .ok (.putfield 10, 3) := by decide +kernel
theorem dX8_init_15 : decode cX8_init 15 = .ok (.aload_n 0, 1) := by decide +kernel
theorem dX8_init_16 : decode cX8_init 16 = .ok (.new 16, 3) := by decide +kernel
theorem dX8_init_19 : decode cX8_init 19 = .ok (.dup, 1) := by decide +kernel
theorem dX8_init_20 : decode cX8_init 20 = .ok (.invokespecial 18, 3) := by decide +kernel
theorem dX8_init_23 : decode cX8_init 23 = .ok (.putfield 19, 3) := by decide +kernel
theorem dX8_init_26 : decode cX8_init 26 = .ok (.aload_n 0, 1) := by decide +kernel
theorem dX8_init_27 : decode cX8_init 27 = .ok (.new 23, 3) := by decide +kernel
theorem dX8_init_30 : decode cX8_init 30 = .ok (.dup, 1) := by decide +kernel
theorem dX8_init_31 : decode cX8_init 31 = .ok (.invokespecial 25, 3) := by decide +kernel
theorem dX8_init_34 : decode cX8_init 34 = .ok (.putfield 26, 3) := by decide +kernel
theorem dX8_init_37 : decode cX8_init 37 = .ok (.aload_n 0, 1) := by decide +kernel
theorem dX8_init_38 : decode cX8_init 38 = .ok (.bipush 6, 2) := by decide +kernel
theorem dX8_init_40 : decode cX8_init 40 = .ok (.anewarray 30, 3) := by decide +kernel
theorem dX8_init_43 : decode cX8_init 43 = .ok (.putfield 32, 3) := by decide +kernel
theorem dX8_init_46 : decode cX8_init 46 = .ok (.aload_n 0, 1) := by decide +kernel
theorem dX8_init_47 : decode cX8_init 47 = .ok (.new 36, 3) := by decide +kernel
theorem dX8_init_50 : decode cX8_init 50 = .ok (.dup, 1) := by decide +kernel
theorem dX8_init_51 : decode cX8_init 51 = .ok (.invokespecial 38, 3) := by decide +kernel
theorem dX8_init_54 : decode cX8_init 54 = .ok (.putfield 39, 3) := by decide +kernel
theorem dX8_init_57 : decode cX8_init 57 = .ok (.aload_n 0, 1) := by decide +kernel
theorem dX8_init_58 : decode cX8_init 58 = .ok (.new 36, 3) := by decide +kernel
theorem dX8_init_61 : decode cX8_init 61 = .ok (.dup, 1) := by decide +kernel
theorem dX8_init_62 : decode cX8_init 62 = .ok (.invokespecial 38, 3) := by decide +kernel
theorem dX8_init_65 : decode cX8_init 65 = .ok (.putfield 43, 3) := by decide +kernel
theorem dX8_init_68 : decode cX8_init 68 = .ok (.aload_n 0, 1) := by decide +kernel
theorem dX8_init_69 : decode cX8_init 69 = .ok (.new 46, 3) := by decide +kernel
theorem dX8_init_72 : decode cX8_init 72 = .ok (.dup, 1) := by decide +kernel
theorem dX8_init_73 : decode cX8_init 73 = .ok (.invokespecial 48, 3) := by decide +kernel
theorem dX8_init_76 : decode cX8_init 76 = .ok (.putfield 49, 3) := by decide +kernel
theorem dX8_init_79 : decode cX8_init 79 = .ok (.aload_n 0, 1) := by decide +kernel
theorem dX8_init_80 : decode cX8_init 80 = .ok (.new 53, 3) := by decide +kernel
theorem dX8_init_83 : decode cX8_init 83 = .ok (.dup, 1) := by decide +kernel
theorem dX8_init_84 : decode cX8_init 84 = .ok (.invokespecial 55, 3) := by decide +kernel
theorem dX8_init_87 : decode cX8_init 87 = .ok (.putfield 56, 3) := by decide +kernel
theorem dX8_init_90 : decode cX8_init 90 = .ok (.aload_n 0, 1) := by decide +kernel
theorem dX8_init_91 : decode cX8_init 91 = .ok (.iconst 0, 1) := by decide +kernel
theorem dX8_init_92 : decode cX8_init 92 = .ok (.putfield 60, 3) := by decide +kernel
theorem dX8_init_95 : decode cX8_init 95 = .ok (.iconst 0, 1) := by decide +kernel
theorem dX8_init_96 : decode cX8_init 96 = .ok (.istore_n 1, 1) := by decide +kernel
theorem dX8_init_97 : decode cX8_init 97 = .ok (.iload_n 1, 1) := by decide +kernel
theorem dX8_init_98 : decode cX8_init 98 = .ok (.bipush 6, 2) := by decide +kernel
theorem dX8_init_100 : decode cX8_init 100 = .ok (.if_icmp .ge 22, 3) := by decide +kernel
theorem dX8_init_103 : decode cX8_init 103 = .ok (.aload_n 0, 1) := by decide +kernel
theorem dX8_init_104 : decode cX8_init 104 = .ok (.getfield 32, 3) := by decide +kernel
theorem dX8_init_107 : decode cX8_init 107 = .ok (.iload_n 1, 1) := by decide +kernel
theorem dX8_init_108 : decode cX8_init 108 = .ok (.new 30, 3) := by decide +kernel
theorem dX8_init_111 : decode cX8_init 111 = .ok (.dup, 1) := by decide +kernel
theorem dX8_init_112 : decode cX8_init 112 = .ok (.invokespecial 64, 3) := by decide +kernel
theorem dX8_init_115 : decode cX8_init 115 = .ok (.aastore, 1) := by decide +kernel
theorem dX8_init_116 : decode cX8_init 116 = .ok (.iinc 1 1, 3) := by decide +kernel
theorem dX8_init_119 : decode cX8_init 119 = .ok (.goto (-22), 3) := by decide +kernel
theorem dX8_init_122 : decode cX8_init 122 = .ok (.return_, 1) := by decide +kernel
theorem dX8_clear_0 : decode cX8_clear 0 = .ok (.aload_n 0, 1) := by decide +kernel
theorem dX8_clear_1 : decode cX8_clear 1 = .ok (.getfield 19, 3) := by decide +kernel
theorem dX8_clear_4 : decode cX8_clear 4 = .ok (.getfield 65, 3) := by decide +kernel
theorem dX8_clear_7 : decode cX8_clear 7 = .ok (.istore_n 1, 1) := by decide +kernel
theorem dX8_clear_8 : decode cX8_clear 8 = .ok (.aload_n 0, 1) := by decide +kernel
theorem dX8_clear_9 : decode cX8_clear 9 = .ok (.getfield 19, 3) := by decide +kernel
theorem dX8_clear_12 : decode cX8_clear 12 = .ok (.iconst 0, 1) := by decide +kernel
theorem dX8_clear_13 : decode cX8_clear 13 = .ok (.putfield 65, 3) := by decide +kernel
theorem dX8_clear_16 : decode cX8_clear 16 = .ok (.aload_n 0, 1) := by decide +kernel
theorem dX8_clear_17 : decode cX8_clear 17 = .ok (.getfield 26, 3) := by decide +kernel
theorem dX8_clear_20 : decode cX8_clear 20 = .ok (.invokevirtual 68, 3) := by decide +kernel
theorem dX8_clear_23 : decode cX8_clear 23 = .ok (.iconst 0, 1) := by decide +kernel
theorem dX8_clear_24 : decode cX8_clear 24 = .ok (.istore_n 2, 1) := by decide +kernel
theorem dX8_clear_25 : decode cX8_clear 25 = .ok (.iload_n 2, 1) := by decide +kernel
theorem dX8_clear_26 : decode cX8_clear 26 = .ok (.bipush 6, 2) := by decide +kernel
theorem dX8_clear_28 : decode cX8_clear 28 = .ok (.if_icmp .ge 19, 3) := by decide +kernel
theorem dX8_clear_31 : decode cX8_clear 31 = .ok (.aload_n 0, 1) := by decide +kernel
theorem dX8_clear_32 : decode cX8_clear 32 = .ok (.getfield 32, 3) := by decide +kernel
theorem dX8_clear_35 : decode cX8_clear 35 = .ok (.iload_n 2, 1) := by decide +kernel
theorem dX8_clear_36 : decode cX8_clear 36 = .ok (.aaload, 1) := by decide +kernel
theorem dX8_clear_37 : decode cX8_clear 37 = .ok (.iconst 0, 1) := by decide +kernel
theorem dX8_clear_38 : decode cX8_clear 38 = .ok (.putfield 71, 3) := by decide +kernel
theorem dX8_clear_41 : decode cX8_clear 41 = .ok (.iinc 2 1, 3) := by decide +kernel
theorem dX8_clear_44 : decode cX8_clear 44 = .ok (.goto (-19), 3) := by decide +kernel
theorem dX8_clear_47 : decode cX8_clear 47 = .ok (.aload_n 0, 1) := by decide +kernel
theorem dX8_clear_48 : decode cX8_clear 48 = .ok (.iconst 0, 1) := by decide +kernel
theorem dX8_clear_49 : decode cX8_clear 49 = .ok (.putfield 60, 3) := by decide +kernel
theorem dX8_clear_52 : decode cX8_clear 52 = .ok (.aload_n 0, 1) := by decide +kernel
theorem dX8_clear_53 : decode cX8_clear 53 = .ok (.invokevirtual 75, 3) := by decide +kernel
theorem dX8_clear_56 : decode cX8_clear 56 = .ok (.iload_n 1, 1) := by decide +kernel
theorem dX8_clear_57 : decode cX8_clear 57 = .ok (.ireturn, 1) := by decide +kernel
theorem dX8_pass_0 : decode cX8_pass 0 = .ok (.iload_n 1, 1) := by decide +kernel
theorem dX8_pass_1 : decode cX8_pass 1 = .ok (.iconst 1, 1) := by decide +kernel
theorem dX8_pass_2 : decode cX8_pass 2 = .ok (.if_icmp .lt 10, 3) := by decide +kernel
theorem dX8_pass_5 : decode cX8_pass 5 = .ok (.iload_n 1, 1) := by decide +kernel
theorem dX8_pass_6 : decode cX8_pass 6 = .ok (.sipush 1000, 3) := by decide +kernel
theorem dX8_pass_9 : decode cX8_pass 9 = .ok (.if_icmp .le 13, 3) := by decide +kernel
theorem dX8_pass_12 : decode cX8_pass 12 = .ok (.new 78, 3) := by decide +kernel
theorem dX8_pass_15 : decode cX8_pass 15 = .ok (.dup, 1) := by decide +kernel
theorem dX8_pass_16 : decode cX8_pass 16 = .ok (.ldc 80, 2) := by decide +kernel
theorem dX8_pass_18 : decode cX8_pass 18 = .ok (.invokespecial 82, 3) := by decide +kernel
theorem dX8_pass_21 : decode cX8_pass 21 = .ok (.athrow, 1) := by decide +kernel
theorem dX8_pass_22 : decode cX8_pass 22 = .ok (.aload_n 0, 1) := by decide +kernel
theorem dX8_pass_23 : decode cX8_pass 23 = .ok (.getfield 60, 3) := by decide +kernel
theorem dX8_pass_26 : decode cX8_pass 26 = .ok (.iload_n 1, 1) := by decide +kernel
theorem dX8_pass_27 : decode cX8_pass 27 = .ok (.iadd, 1) := by decide +kernel
theorem dX8_pass_28 : decode cX8_pass 28 = .ok (.ldc 85, 2) := by decide +kernel
theorem dX8_pass_30 : decode cX8_pass 30 = .ok (.if_icmp .le 13, 3) := by decide +kernel
theorem dX8_pass_33 : decode cX8_pass 33 = .ok (.new 86, 3) := by decide +kernel
theorem dX8_pass_36 : decode cX8_pass 36 = .ok (.dup, 1) := by decide +kernel
theorem dX8_pass_37 : decode cX8_pass 37 = .ok (.ldc 88, 2) := by decide +kernel
theorem dX8_pass_39 : decode cX8_pass 39 = .ok (.invokespecial 90, 3) := by decide +kernel
theorem dX8_pass_42 : decode cX8_pass 42 = .ok (.athrow, 1) := by decide +kernel
theorem dX8_pass_43 : decode cX8_pass 43 = .ok (.aload_n 0, 1) := by decide +kernel
theorem dX8_pass_44 : decode cX8_pass 44 = .ok (.dup, 1) := by decide +kernel
theorem dX8_pass_45 : decode cX8_pass 45 = .ok (.getfield 60, 3) := by decide +kernel
theorem dX8_pass_48 : decode cX8_pass 48 = .ok (.iload_n 1, 1) := by decide +kernel
theorem dX8_pass_49 : decode cX8_pass 49 = .ok (.iadd, 1) := by decide +kernel
theorem dX8_pass_50 : decode cX8_pass 50 = .ok (.putfield 60, 3) := by decide +kernel
theorem dX8_pass_53 : decode cX8_pass 53 = .ok (.aload_n 0, 1) := by decide +kernel
theorem dX8_pass_54 : decode cX8_pass 54 = .ok (.invokevirtual 75, 3) := by decide +kernel
theorem dX8_pass_57 : decode cX8_pass 57 = .ok (.aload_n 0, 1) := by decide +kernel
theorem dX8_pass_58 : decode cX8_pass 58 = .ok (.getfield 60, 3) := by decide +kernel
theorem dX8_pass_61 : decode cX8_pass 61 = .ok (.ireturn, 1) := by decide +kernel
theorem dX8_append_0 : decode cX8_append 0 = .ok (.iload_n 1, 1) := by decide +kernel
theorem dX8_append_1 : decode cX8_append 1 = .ok (.bipush 33, 2) := by decide +kernel
theorem dX8_append_3 : decode cX8_append 3 = .ok (.if_icmp .lt 9, 3) := by decide +kernel
theorem dX8_append_6 : decode cX8_append 6 = .ok (.iload_n 1, 1) := by decide +kernel
theorem dX8_append_7 : decode cX8_append 7 = .ok (.bipush 126, 2) := by decide +kernel
theorem dX8_append_9 : decode cX8_append 9 = .ok (.if_icmp .le 13, 3) := by decide +kernel
theorem dX8_append_12 : decode cX8_append 12 = .ok (.new 78, 3) := by decide +kernel
theorem dX8_append_15 : decode cX8_append 15 = .ok (.dup, 1) := by decide +kernel
theorem dX8_append_16 : decode cX8_append 16 = .ok (.ldc 91, 2) := by decide +kernel
theorem dX8_append_18 : decode cX8_append 18 = .ok (.invokespecial 82, 3) := by decide +kernel
theorem dX8_append_21 : decode cX8_append 21 = .ok (.athrow, 1) := by decide +kernel
theorem dX8_append_22 : decode cX8_append 22 = .ok (.aload_n 0, 1) := by decide +kernel
theorem dX8_append_23 : decode cX8_append 23 = .ok (.getfield 10, 3) := by decide +kernel
theorem dX8_append_26 : decode cX8_append 26 = .ok (.getfield 93, 3) := by decide +kernel
theorem dX8_append_29 : decode cX8_append 29 = .ok (.bipush 40, 2) := by decide +kernel
theorem dX8_append_31 : decode cX8_append 31 = .ok (.if_icmp .lt 13, 3) := by decide +kernel
theorem dX8_append_34 : decode cX8_append 34 = .ok (.new 86, 3) := by decide +kernel
theorem dX8_append_37 : decode cX8_append 37 = .ok (.dup, 1) := by decide +kernel
theorem dX8_append_38 : decode cX8_append 38 = .ok (.ldc 96, 2) := by decide +kernel
theorem dX8_append_40 : decode cX8_append 40 = .ok (.invokespecial 90, 3) := by decide +kernel
theorem dX8_append_43 : decode cX8_append 43 = .ok (.athrow, 1) := by decide +kernel
theorem dX8_append_44 : decode cX8_append 44 = .ok (.aload_n 0, 1) := by decide +kernel
theorem dX8_append_45 : decode cX8_append 45 = .ok (.getfield 10, 3) := by decide +kernel
theorem dX8_append_48 : decode cX8_append 48 = .ok (.getfield 98, 3) := by decide +kernel
theorem dX8_append_51 : decode cX8_append 51 = .ok (.aload_n 0, 1) := by decide +kernel
theorem dX8_append_52 : decode cX8_append 52 = .ok (.getfield 10, 3) := by decide +kernel
theorem dX8_append_55 : decode cX8_append 55 = .ok (.getfield 93, 3) := by decide +kernel
theorem dX8_append_58 : decode cX8_append 58 = .ok (.iload_n 1, 1) := by decide +kernel
theorem dX8_append_59 : decode cX8_append 59 = .ok (.iastore, 1) := by decide +kernel
theorem dX8_append_60 : decode cX8_append 60 = .ok (.aload_n 0, 1) := by decide +kernel
theorem dX8_append_61 : decode cX8_append 61 = .ok (.getfield 10, 3) := by decide +kernel
theorem dX8_append_64 : decode cX8_append 64 = .ok (.dup, 1) := by decide +kernel
theorem dX8_append_65 : decode cX8_append 65 = .ok (.getfield 93, 3) := by decide +kernel
theorem dX8_append_68 : decode cX8_append 68 = .ok (.iconst 1, 1) := by decide +kernel
theorem dX8_append_69 : decode cX8_append 69 = .ok (.iadd, 1) := by decide +kernel
theorem dX8_append_70 : decode cX8_append 70 = .ok (.putfield 93, 3) := by decide +kernel
theorem dX8_append_73 : decode cX8_append 73 = .ok (.aload_n 0, 1) := by decide +kernel
theorem dX8_append_74 : decode cX8_append 74 = .ok (.getfield 10, 3) := by decide +kernel
theorem dX8_append_77 : decode cX8_append 77 = .ok (.getfield 93, 3) := by decide +kernel
theorem dX8_append_80 : decode cX8_append 80 = .ok (.ireturn, 1) := by decide +kernel
theorem dX8_clearBuffer_0 : decode cX8_clearBuffer 0 = .ok (.aload_n 0, 1) := by decide +kernel
theorem dX8_clearBuffer_1 : decode cX8_clearBuffer 1 = .ok (.getfield 10, 3) := by decide +kernel
theorem dX8_clearBuffer_4 : decode cX8_clearBuffer 4 = .ok (.getfield 93, 3) := by decide +kernel
theorem dX8_clearBuffer_7 : decode cX8_clearBuffer 7 = .ok (.istore_n 1, 1) := by decide +kernel
theorem dX8_clearBuffer_8 : decode cX8_clearBuffer 8 = .ok (.aload_n 0, 1) := by decide +kernel
theorem dX8_clearBuffer_9 : decode cX8_clearBuffer 9 = .ok (.getfield 10, 3) := by decide +kernel
theorem dX8_clearBuffer_12 : decode cX8_clearBuffer 12 = .ok (.iconst 0, 1) := by decide +kernel
theorem dX8_clearBuffer_13 : decode cX8_clearBuffer 13 = .ok (.putfield 93, 3) := by decide +kernel
theorem dX8_clearBuffer_16 : decode cX8_clearBuffer 16 = .ok (.iload_n 1, 1) := by decide +kernel
theorem dX8_clearBuffer_17 : decode cX8_clearBuffer 17 = .ok (.ireturn, 1) := by decide +kernel
theorem dX8_firstError_0 : decode cX8_firstError 0 = .ok (.aload_n 0, 1) := by decide +kernel
theorem dX8_firstError_1 : decode cX8_firstError 1 = .ok (.getfield 10, 3) := by decide +kernel
theorem dX8_firstError_4 : decode cX8_firstError 4 = .ok (.invokevirtual 102, 3) := by decide +kernel
theorem dX8_firstError_7 : decode cX8_firstError 7 = .ok (.ireturn, 1) := by decide +kernel
theorem dX8_stroke_0 : decode cX8_stroke 0 = .ok (.iload_n 1, 1) := by decide +kernel
theorem dX8_stroke_1 : decode cX8_stroke 1 = .ok (.invokestatic 106, 3) := by decide +kernel
theorem dX8_stroke_4 : decode cX8_stroke 4 = .ok (.iload_n 2, 1) := by decide +kernel
theorem dX8_stroke_5 : decode cX8_stroke 5 = .ok (.invokestatic 110, 3) := by decide +kernel
theorem dX8_stroke_8 : decode cX8_stroke 8 = .ok (.iload_n 3, 1) := by decide +kernel
theorem dX8_stroke_9 : decode cX8_stroke 9 = .ok (.invokestatic 113, 3) := by decide +kernel
theorem dX8_stroke_12 : decode cX8_stroke 12 = .ok (.iload 4, 2) := by decide +kernel
theorem dX8_stroke_14 : decode cX8_stroke 14 = .ok (.ifCond .lt 11, 3) := by decide +kernel
theorem dX8_stroke_17 : decode cX8_stroke 17 = .ok (.iload 4, 2) := by decide +kernel
theorem dX8_stroke_19 : decode cX8_stroke 19 = .ok (.sipush 999, 3) := by decide +kernel
theorem dX8_stroke_22 : decode cX8_stroke 22 = .ok (.if_icmp .le 13, 3) := by decide +kernel
theorem dX8_stroke_25 : decode cX8_stroke 25 = .ok (.new 78, 3) := by decide +kernel
theorem dX8_stroke_28 : decode cX8_stroke 28 = .ok (.dup, 1) := by decide +kernel
theorem dX8_stroke_29 : decode cX8_stroke 29 = .ok (.ldc 116, 2) := by decide +kernel
theorem dX8_stroke_31 : decode cX8_stroke 31 = .ok (.invokespecial 82, 3) := by decide +kernel
theorem dX8_stroke_34 : decode cX8_stroke 34 = .ok (.athrow, 1) := by decide +kernel
theorem dX8_stroke_35 : decode cX8_stroke 35 = .ok (.aload_n 0, 1) := by decide +kernel
theorem dX8_stroke_36 : decode cX8_stroke 36 = .ok (.invokevirtual 118, 3) := by decide +kernel
theorem dX8_stroke_39 : decode cX8_stroke 39 = .ok (.aload_n 0, 1) := by decide +kernel
theorem dX8_stroke_40 : decode cX8_stroke 40 = .ok (.invokevirtual 121, 3) := by decide +kernel
theorem dX8_stroke_43 : decode cX8_stroke 43 = .ok (.aload_n 0, 1) := by decide +kernel
theorem dX8_stroke_44 : decode cX8_stroke 44 = .ok (.getfield 19, 3) := by decide +kernel
theorem dX8_stroke_47 : decode cX8_stroke 47 = .ok (.iconst 0, 1) := by decide +kernel
theorem dX8_stroke_48 : decode cX8_stroke 48 = .ok (.iload_n 1, 1) := by decide +kernel
theorem dX8_stroke_49 : decode cX8_stroke 49 = .ok (.iload_n 2, 1) := by decide +kernel
theorem dX8_stroke_50 : decode cX8_stroke 50 = .ok (.aload_n 0, 1) := by decide +kernel
theorem dX8_stroke_51 : decode cX8_stroke 51 = .ok (.getfield 60, 3) := by decide +kernel
theorem dX8_stroke_54 : decode cX8_stroke 54 = .ok (.invokevirtual 124, 3) := by decide +kernel
theorem dX8_stroke_57 : decode cX8_stroke 57 = .ok (.astore 5, 2) := by decide +kernel
theorem dX8_stroke_59 : decode cX8_stroke 59 = .ok (.aload 5, 2) := by decide +kernel
theorem dX8_stroke_61 : decode cX8_stroke 61 = .ok (.iload_n 3, 1) := by decide +kernel
theorem dX8_stroke_62 : decode cX8_stroke 62 = .ok (.putfield 128, 3) := by decide +kernel
theorem dX8_stroke_65 : decode cX8_stroke 65 = .ok (.aload 5, 2) := by decide +kernel
theorem dX8_stroke_67 : decode cX8_stroke 67 = .ok (.iload 4, 2) := by decide +kernel
theorem dX8_stroke_69 : decode cX8_stroke 69 = .ok (.putfield 133, 3) := by decide +kernel
theorem dX8_stroke_72 : decode cX8_stroke 72 = .ok (.aload_n 0, 1) := by decide +kernel
theorem dX8_stroke_73 : decode cX8_stroke 73 = .ok (.aload 5, 2) := by decide +kernel
theorem dX8_stroke_75 : decode cX8_stroke 75 = .ok (.invokevirtual 136, 3) := by decide +kernel
theorem dX8_stroke_78 : decode cX8_stroke 78 = .ok (.aload_n 0, 1) := by decide +kernel
theorem dX8_stroke_79 : decode cX8_stroke 79 = .ok (.invokevirtual 75, 3) := by decide +kernel
theorem dX8_stroke_82 : decode cX8_stroke 82 = .ok (.aload 5, 2) := by decide +kernel
theorem dX8_stroke_84 : decode cX8_stroke 84 = .ok (.getfield 140, 3) := by decide +kernel
theorem dX8_stroke_87 : decode cX8_stroke 87 = .ok (.invokevirtual 143, 3) := by decide +kernel
theorem dX8_stroke_90 : decode cX8_stroke 90 = .ok (.ireturn, 1) := by decide +kernel
theorem dX8_erase_0 : decode cX8_erase 0 = .ok (.iload_n 1, 1) := by decide +kernel
theorem dX8_erase_1 : decode cX8_erase 1 = .ok (.invokestatic 106, 3) := by decide +kernel
theorem dX8_erase_4 : decode cX8_erase 4 = .ok (.iload_n 2, 1) := by decide +kernel
theorem dX8_erase_5 : decode cX8_erase 5 = .ok (.invokestatic 110, 3) := by decide +kernel
theorem dX8_erase_8 : decode cX8_erase 8 = .ok (.iload_n 3, 1) := by decide +kernel
theorem dX8_erase_9 : decode cX8_erase 9 = .ok (.ifCond .lt 8, 3) := by decide +kernel
theorem dX8_erase_12 : decode cX8_erase 12 = .ok (.iload_n 3, 1) := by decide +kernel
theorem dX8_erase_13 : decode cX8_erase 13 = .ok (.iconst 2, 1) := by decide +kernel
theorem dX8_erase_14 : decode cX8_erase 14 = .ok (.if_icmp .le 13, 3) := by decide +kernel
theorem dX8_erase_17 : decode cX8_erase 17 = .ok (.new 78, 3) := by decide +kernel
theorem dX8_erase_20 : decode cX8_erase 20 = .ok (.dup, 1) := by decide +kernel
theorem dX8_erase_21 : decode cX8_erase 21 = .ok (.ldc 145, 2) := by decide +kernel
theorem dX8_erase_23 : decode cX8_erase 23 = .ok (.invokespecial 82, 3) := by decide +kernel
theorem dX8_erase_26 : decode cX8_erase 26 = .ok (.athrow, 1) := by decide +kernel
theorem dX8_erase_27 : decode cX8_erase 27 = .ok (.aload_n 0, 1) := by decide +kernel
theorem dX8_erase_28 : decode cX8_erase 28 = .ok (.invokevirtual 118, 3) := by decide +kernel
theorem dX8_erase_31 : decode cX8_erase 31 = .ok (.aload_n 0, 1) := by decide +kernel
theorem dX8_erase_32 : decode cX8_erase 32 = .ok (.invokevirtual 121, 3) := by decide +kernel
theorem dX8_erase_35 : decode cX8_erase 35 = .ok (.aload_n 0, 1) := by decide +kernel
theorem dX8_erase_36 : decode cX8_erase 36 = .ok (.getfield 19, 3) := by decide +kernel
theorem dX8_erase_39 : decode cX8_erase 39 = .ok (.iconst 2, 1) := by decide +kernel
theorem dX8_erase_40 : decode cX8_erase 40 = .ok (.iload_n 1, 1) := by decide +kernel
theorem dX8_erase_41 : decode cX8_erase 41 = .ok (.iload_n 2, 1) := by decide +kernel
theorem dX8_erase_42 : decode cX8_erase 42 = .ok (.aload_n 0, 1) := by decide +kernel
theorem dX8_erase_43 : decode cX8_erase 43 = .ok (.getfield 60, 3) := by decide +kernel
theorem dX8_erase_46 : decode cX8_erase 46 = .ok (.invokevirtual 124, 3) := by decide +kernel
theorem dX8_erase_49 : decode cX8_erase 49 = .ok (.astore 4, 2) := by decide +kernel
theorem dX8_erase_51 : decode cX8_erase 51 = .ok (.aload 4, 2) := by decide +kernel
theorem dX8_erase_53 : decode cX8_erase 53 = .ok (.iload_n 3, 1) := by decide +kernel
theorem dX8_erase_54 : decode cX8_erase 54 = .ok (.putfield 128, 3) := by decide +kernel
theorem dX8_erase_57 : decode cX8_erase 57 = .ok (.aload_n 0, 1) := by decide +kernel
theorem dX8_erase_58 : decode cX8_erase 58 = .ok (.aload 4, 2) := by decide +kernel
theorem dX8_erase_60 : decode cX8_erase 60 = .ok (.invokevirtual 136, 3) := by decide +kernel
theorem dX8_erase_63 : decode cX8_erase 63 = .ok (.aload_n 0, 1) := by decide +kernel
theorem dX8_erase_64 : decode cX8_erase 64 = .ok (.invokevirtual 75, 3) := by decide +kernel
theorem dX8_erase_67 : decode cX8_erase 67 = .ok (.aload_n 0, 1) := by decide +kernel
theorem dX8_erase_68 : decode cX8_erase 68 = .ok (.aload_n 0, 1) := by decide +kernel
theorem dX8_erase_69 : decode cX8_erase 69 = .ok (.getfield 19, 3) := by decide +kernel
theorem dX8_erase_72 : decode cX8_erase 72 = .ok (.getfield 65, 3) := by decide +kernel
theorem dX8_erase_75 : decode cX8_erase 75 = .ok (.iconst 1, 1) := by decide +kernel
theorem dX8_erase_76 : decode cX8_erase 76 = .ok (.isub, 1) := by decide +kernel
theorem dX8_erase_77 : decode cX8_erase 77 = .ok (.invokevirtual 147, 3) := by decide +kernel
theorem dX8_erase_80 : decode cX8_erase 80 = .ok (.ireturn, 1) := by decide +kernel
theorem dX8_fill_0 : decode cX8_fill 0 = .ok (.iload_n 1, 1) := by decide +kernel
theorem dX8_fill_1 : decode cX8_fill 1 = .ok (.invokestatic 106, 3) := by decide +kernel
theorem dX8_fill_4 : decode cX8_fill 4 = .ok (.iload_n 2, 1) := by decide +kernel
theorem dX8_fill_5 : decode cX8_fill 5 = .ok (.invokestatic 110, 3) := by decide +kernel
theorem dX8_fill_8 : decode cX8_fill 8 = .ok (.iload 4, 2) := by decide +kernel
theorem dX8_fill_10 : decode cX8_fill 10 = .ok (.invokestatic 151, 3) := by decide +kernel
theorem dX8_fill_13 : decode cX8_fill 13 = .ok (.iload_n 3, 1) := by decide +kernel
theorem dX8_fill_14 : decode cX8_fill 14 = .ok (.invokestatic 113, 3) := by decide +kernel
theorem dX8_fill_17 : decode cX8_fill 17 = .ok (.aload_n 0, 1) := by decide +kernel
theorem dX8_fill_18 : decode cX8_fill 18 = .ok (.invokevirtual 121, 3) := by decide +kernel
theorem dX8_fill_21 : decode cX8_fill 21 = .ok (.aload_n 0, 1) := by decide +kernel
theorem dX8_fill_22 : decode cX8_fill 22 = .ok (.getfield 19, 3) := by decide +kernel
theorem dX8_fill_25 : decode cX8_fill 25 = .ok (.iconst 1, 1) := by decide +kernel
theorem dX8_fill_26 : decode cX8_fill 26 = .ok (.iload_n 1, 1) := by decide +kernel
theorem dX8_fill_27 : decode cX8_fill 27 = .ok (.iload_n 2, 1) := by decide +kernel
theorem dX8_fill_28 : decode cX8_fill 28 = .ok (.aload_n 0, 1) := by decide +kernel
theorem dX8_fill_29 : decode cX8_fill 29 = .ok (.getfield 60, 3) := by decide +kernel
theorem dX8_fill_32 : decode cX8_fill 32 = .ok (.invokevirtual 124, 3) := by decide +kernel
theorem dX8_fill_35 : decode cX8_fill 35 = .ok (.astore 5, 2) := by decide +kernel
theorem dX8_fill_37 : decode cX8_fill 37 = .ok (.aload 5, 2) := by decide +kernel
theorem dX8_fill_39 : decode cX8_fill 39 = .ok (.iload_n 3, 1) := by decide +kernel
theorem dX8_fill_40 : decode cX8_fill 40 = .ok (.putfield 128, 3) := by decide +kernel
theorem dX8_fill_43 : decode cX8_fill 43 = .ok (.aload_n 0, 1) := by decide +kernel
theorem dX8_fill_44 : decode cX8_fill 44 = .ok (.getfield 39, 3) := by decide +kernel
theorem dX8_fill_47 : decode cX8_fill 47 = .ok (.aload_n 0, 1) := by decide +kernel
theorem dX8_fill_48 : decode cX8_fill 48 = .ok (.getfield 39, 3) := by decide +kernel
theorem dX8_fill_51 : decode cX8_fill 51 = .ok (.getfield 154, 3) := by decide +kernel
theorem dX8_fill_54 : decode cX8_fill 54 = .ok (.iload 4, 2) := by decide +kernel
theorem dX8_fill_56 : decode cX8_fill 56 = .ok (.iaload, 1) := by decide +kernel
theorem dX8_fill_57 : decode cX8_fill 57 = .ok (.aload_n 0, 1) := by decide +kernel
theorem dX8_fill_58 : decode cX8_fill 58 = .ok (.getfield 56, 3) := by decide +kernel
theorem dX8_fill_61 : decode cX8_fill 61 = .ok (.invokevirtual 157, 3) := by decide +kernel
theorem dX8_fill_64 : decode cX8_fill 64 = .ok (.aload_n 0, 1) := by decide +kernel
theorem dX8_fill_65 : decode cX8_fill 65 = .ok (.getfield 49, 3) := by decide +kernel
theorem dX8_fill_68 : decode cX8_fill 68 = .ok (.iload 4, 2) := by decide +kernel
theorem dX8_fill_70 : decode cX8_fill 70 = .ok (.aload_n 0, 1) := by decide +kernel
theorem dX8_fill_71 : decode cX8_fill 71 = .ok (.getfield 56, 3) := by decide +kernel
theorem dX8_fill_74 : decode cX8_fill 74 = .ok (.aload 5, 2) := by decide +kernel
theorem dX8_fill_76 : decode cX8_fill 76 = .ok (.getfield 140, 3) := by decide +kernel
theorem dX8_fill_79 : decode cX8_fill 79 = .ok (.invokevirtual 161, 3) := by decide +kernel
theorem dX8_fill_82 : decode cX8_fill 82 = .ok (.aload_n 0, 1) := by decide +kernel
theorem dX8_fill_83 : decode cX8_fill 83 = .ok (.aload 5, 2) := by decide +kernel
theorem dX8_fill_85 : decode cX8_fill 85 = .ok (.invokevirtual 165, 3) := by decide +kernel
theorem dX8_fill_88 : decode cX8_fill 88 = .ok (.aload_n 0, 1) := by decide +kernel
theorem dX8_fill_89 : decode cX8_fill 89 = .ok (.invokevirtual 75, 3) := by decide +kernel
theorem dX8_fill_92 : decode cX8_fill 92 = .ok (.aload 5, 2) := by decide +kernel
theorem dX8_fill_94 : decode cX8_fill 94 = .ok (.getfield 140, 3) := by decide +kernel
theorem dX8_fill_97 : decode cX8_fill 97 = .ok (.invokevirtual 143, 3) := by decide +kernel
theorem dX8_fill_100 : decode cX8_fill 100 = .ok (.ireturn, 1) := by decide +kernel
theorem dX8_undo_0 : decode cX8_undo 0 = .ok (.iload_n 1, 1) := by decide +kernel
theorem dX8_undo_1 : decode cX8_undo 1 = .ok (.invokestatic 106, 3) := by decide +kernel
theorem dX8_undo_4 : decode cX8_undo 4 = .ok (.aload_n 0, 1) := by decide +kernel
theorem dX8_undo_5 : decode cX8_undo 5 = .ok (.getfield 19, 3) := by decide +kernel
theorem dX8_undo_8 : decode cX8_undo 8 = .ok (.iload_n 1, 1) := by decide +kernel
theorem dX8_undo_9 : decode cX8_undo 9 = .ok (.invokevirtual 168, 3) := by decide +kernel
theorem dX8_undo_12 : decode cX8_undo 12 = .ok (.istore_n 2, 1) := by decide +kernel
theorem dX8_undo_13 : decode cX8_undo 13 = .ok (.aload_n 0, 1) := by decide +kernel
theorem dX8_undo_14 : decode cX8_undo 14 = .ok (.getfield 19, 3) := by decide +kernel
theorem dX8_undo_17 : decode cX8_undo 17 = .ok (.iload_n 2, 1) := by decide +kernel
theorem dX8_undo_18 : decode cX8_undo 18 = .ok (.invokevirtual 171, 3) := by decide +kernel
theorem dX8_undo_21 : decode cX8_undo 21 = .ok (.ifCond .ne 13, 3) := by decide +kernel
theorem dX8_undo_24 : decode cX8_undo 24 = .ok (.new 86, 3) := by decide +kernel
theorem dX8_undo_27 : decode cX8_undo 27 = .ok (.dup, 1) := by decide +kernel
theorem dX8_undo_28 : decode cX8_undo 28 = .ok (.ldc 175, 2) := by decide +kernel
theorem dX8_undo_30 : decode cX8_undo 30 = .ok (.invokespecial 90, 3) := by decide +kernel
theorem dX8_undo_33 : decode cX8_undo 33 = .ok (.athrow, 1) := by decide +kernel
theorem dX8_undo_34 : decode cX8_undo 34 = .ok (.aload_n 0, 1) := by decide +kernel
theorem dX8_undo_35 : decode cX8_undo 35 = .ok (.getfield 19, 3) := by decide +kernel
theorem dX8_undo_38 : decode cX8_undo 38 = .ok (.iload_n 2, 1) := by decide +kernel
theorem dX8_undo_39 : decode cX8_undo 39 = .ok (.invokevirtual 177, 3) := by decide +kernel
theorem dX8_undo_42 : decode cX8_undo 42 = .ok (.aload_n 0, 1) := by decide +kernel
theorem dX8_undo_43 : decode cX8_undo 43 = .ok (.invokevirtual 75, 3) := by decide +kernel
theorem dX8_undo_46 : decode cX8_undo 46 = .ok (.iload_n 2, 1) := by decide +kernel
theorem dX8_undo_47 : decode cX8_undo 47 = .ok (.ireturn, 1) := by decide +kernel
theorem dX8_redo_0 : decode cX8_redo 0 = .ok (.iload_n 1, 1) := by decide +kernel
theorem dX8_redo_1 : decode cX8_redo 1 = .ok (.invokestatic 106, 3) := by decide +kernel
theorem dX8_redo_4 : decode cX8_redo 4 = .ok (.aload_n 0, 1) := by decide +kernel
theorem dX8_redo_5 : decode cX8_redo 5 = .ok (.getfield 19, 3) := by decide +kernel
theorem dX8_redo_8 : decode cX8_redo 8 = .ok (.iload_n 1, 1) := by decide +kernel
theorem dX8_redo_9 : decode cX8_redo 9 = .ok (.invokevirtual 180, 3) := by decide +kernel
theorem dX8_redo_12 : decode cX8_redo 12 = .ok (.istore_n 2, 1) := by decide +kernel
theorem dX8_redo_13 : decode cX8_redo 13 = .ok (.aload_n 0, 1) := by decide +kernel
theorem dX8_redo_14 : decode cX8_redo 14 = .ok (.getfield 19, 3) := by decide +kernel
theorem dX8_redo_17 : decode cX8_redo 17 = .ok (.iload_n 2, 1) := by decide +kernel
theorem dX8_redo_18 : decode cX8_redo 18 = .ok (.invokevirtual 171, 3) := by decide +kernel
theorem dX8_redo_21 : decode cX8_redo 21 = .ok (.ifCond .ne 13, 3) := by decide +kernel
theorem dX8_redo_24 : decode cX8_redo 24 = .ok (.new 86, 3) := by decide +kernel
theorem dX8_redo_27 : decode cX8_redo 27 = .ok (.dup, 1) := by decide +kernel
theorem dX8_redo_28 : decode cX8_redo 28 = .ok (.ldc 183, 2) := by decide +kernel
theorem dX8_redo_30 : decode cX8_redo 30 = .ok (.invokespecial 90, 3) := by decide +kernel
theorem dX8_redo_33 : decode cX8_redo 33 = .ok (.athrow, 1) := by decide +kernel
theorem dX8_redo_34 : decode cX8_redo 34 = .ok (.aload_n 0, 1) := by decide +kernel
theorem dX8_redo_35 : decode cX8_redo 35 = .ok (.getfield 19, 3) := by decide +kernel
theorem dX8_redo_38 : decode cX8_redo 38 = .ok (.iload_n 2, 1) := by decide +kernel
theorem dX8_redo_39 : decode cX8_redo 39 = .ok (.invokevirtual 185, 3) := by decide +kernel
theorem dX8_redo_42 : decode cX8_redo 42 = .ok (.aload_n 0, 1) := by decide +kernel
theorem dX8_redo_43 : decode cX8_redo 43 = .ok (.invokevirtual 75, 3) := by decide +kernel
theorem dX8_redo_46 : decode cX8_redo 46 = .ok (.iload_n 2, 1) := by decide +kernel
theorem dX8_redo_47 : decode cX8_redo 47 = .ok (.ireturn, 1) := by decide +kernel
theorem dX8_lease_0 : decode cX8_lease 0 = .ok (.iload_n 1, 1) := by decide +kernel
theorem dX8_lease_1 : decode cX8_lease 1 = .ok (.invokestatic 106, 3) := by decide +kernel
theorem dX8_lease_4 : decode cX8_lease 4 = .ok (.iload_n 2, 1) := by decide +kernel
theorem dX8_lease_5 : decode cX8_lease 5 = .ok (.invokestatic 151, 3) := by decide +kernel
theorem dX8_lease_8 : decode cX8_lease 8 = .ok (.iload_n 3, 1) := by decide +kernel
theorem dX8_lease_9 : decode cX8_lease 9 = .ok (.invokestatic 151, 3) := by decide +kernel
theorem dX8_lease_12 : decode cX8_lease 12 = .ok (.iload 4, 2) := by decide +kernel
theorem dX8_lease_14 : decode cX8_lease 14 = .ok (.iconst 1, 1) := by decide +kernel
theorem dX8_lease_15 : decode cX8_lease 15 = .ok (.if_icmp .lt 11, 3) := by decide +kernel
theorem dX8_lease_18 : decode cX8_lease 18 = .ok (.iload 4, 2) := by decide +kernel
theorem dX8_lease_20 : decode cX8_lease 20 = .ok (.sipush 999, 3) := by decide +kernel
theorem dX8_lease_23 : decode cX8_lease 23 = .ok (.if_icmp .le 13, 3) := by decide +kernel
theorem dX8_lease_26 : decode cX8_lease 26 = .ok (.new 78, 3) := by decide +kernel
theorem dX8_lease_29 : decode cX8_lease 29 = .ok (.dup, 1) := by decide +kernel
theorem dX8_lease_30 : decode cX8_lease 30 = .ok (.ldc 188, 2) := by decide +kernel
theorem dX8_lease_32 : decode cX8_lease 32 = .ok (.invokespecial 82, 3) := by decide +kernel
theorem dX8_lease_35 : decode cX8_lease 35 = .ok (.athrow, 1) := by decide +kernel
theorem dX8_lease_36 : decode cX8_lease 36 = .ok (.aload_n 0, 1) := by decide +kernel
theorem dX8_lease_37 : decode cX8_lease 37 = .ok (.getfield 26, 3) := by decide +kernel
theorem dX8_lease_40 : decode cX8_lease 40 = .ok (.iload_n 1, 1) := by decide +kernel
theorem dX8_lease_41 : decode cX8_lease 41 = .ok (.aload_n 0, 1) := by decide +kernel
theorem dX8_lease_42 : decode cX8_lease 42 = .ok (.getfield 60, 3) := by decide +kernel
theorem dX8_lease_45 : decode cX8_lease 45 = .ok (.aload_n 0, 1) := by decide +kernel
theorem dX8_lease_46 : decode cX8_lease 46 = .ok (.getfield 56, 3) := by decide +kernel
theorem dX8_lease_49 : decode cX8_lease 49 = .ok (.invokevirtual 190, 3) := by decide +kernel
theorem dX8_lease_52 : decode cX8_lease 52 = .ok (.aload_n 0, 1) := by decide +kernel
theorem dX8_lease_53 : decode cX8_lease 53 = .ok (.getfield 56, 3) := by decide +kernel
theorem dX8_lease_56 : decode cX8_lease 56 = .ok (.iload_n 2, 1) := by decide +kernel
theorem dX8_lease_57 : decode cX8_lease 57 = .ok (.iload_n 3, 1) := by decide +kernel
theorem dX8_lease_58 : decode cX8_lease 58 = .ok (.invokevirtual 194, 3) := by decide +kernel
theorem dX8_lease_61 : decode cX8_lease 61 = .ok (.ifCond .eq 5, 3) := by decide +kernel
theorem dX8_lease_64 : decode cX8_lease 64 = .ok (.iconst (-1), 1) := by decide +kernel
theorem dX8_lease_65 : decode cX8_lease 65 = .ok (.ireturn, 1) := by decide +kernel
theorem dX8_lease_66 : decode cX8_lease 66 = .ok (.aload_n 0, 1) := by decide +kernel
theorem dX8_lease_67 : decode cX8_lease 67 = .ok (.getfield 26, 3) := by decide +kernel
theorem dX8_lease_70 : decode cX8_lease 70 = .ok (.aload_n 0, 1) := by decide +kernel
theorem dX8_lease_71 : decode cX8_lease 71 = .ok (.getfield 60, 3) := by decide +kernel
theorem dX8_lease_74 : decode cX8_lease 74 = .ok (.invokevirtual 198, 3) := by decide +kernel
theorem dX8_lease_77 : decode cX8_lease 77 = .ok (.istore 5, 2) := by decide +kernel
theorem dX8_lease_79 : decode cX8_lease 79 = .ok (.iload 5, 2) := by decide +kernel
theorem dX8_lease_81 : decode cX8_lease 81 = .ok (.iconst (-1), 1) := by decide +kernel
theorem dX8_lease_82 : decode cX8_lease 82 = .ok (.if_icmp .ne 5, 3) := by decide +kernel
theorem dX8_lease_85 : decode cX8_lease 85 = .ok (.iconst (-1), 1) := by decide +kernel
theorem dX8_lease_86 : decode cX8_lease 86 = .ok (.ireturn, 1) := by decide +kernel
theorem dX8_lease_87 : decode cX8_lease 87 = .ok (.aload_n 0, 1) := by decide +kernel
theorem dX8_lease_88 : decode cX8_lease 88 = .ok (.getfield 26, 3) := by decide +kernel
theorem dX8_lease_91 : decode cX8_lease 91 = .ok (.iload 5, 2) := by decide +kernel
theorem dX8_lease_93 : decode cX8_lease 93 = .ok (.iload_n 1, 1) := by decide +kernel
theorem dX8_lease_94 : decode cX8_lease 94 = .ok (.aload_n 0, 1) := by decide +kernel
theorem dX8_lease_95 : decode cX8_lease 95 = .ok (.getfield 60, 3) := by decide +kernel
theorem dX8_lease_98 : decode cX8_lease 98 = .ok (.iload 4, 2) := by decide +kernel
theorem dX8_lease_100 : decode cX8_lease 100 = .ok (.iadd, 1) := by decide +kernel
theorem dX8_lease_101 : decode cX8_lease 101 = .ok (.invokevirtual 201, 3) := by decide +kernel
theorem dX8_lease_104 : decode cX8_lease 104 = .ok (.aload_n 0, 1) := by decide +kernel
theorem dX8_lease_105 : decode cX8_lease 105 = .ok (.getfield 26, 3) := by decide +kernel
theorem dX8_lease_108 : decode cX8_lease 108 = .ok (.getfield 204, 3) := by decide +kernel
theorem dX8_lease_111 : decode cX8_lease 111 = .ok (.iload 5, 2) := by decide +kernel
theorem dX8_lease_113 : decode cX8_lease 113 = .ok (.aaload, 1) := by decide +kernel
theorem dX8_lease_114 : decode cX8_lease 114 = .ok (.iload_n 2, 1) := by decide +kernel
theorem dX8_lease_115 : decode cX8_lease 115 = .ok (.iload_n 3, 1) := by decide +kernel
theorem dX8_lease_116 : decode cX8_lease 116 = .ok (.invokevirtual 208, 3) := by decide +kernel
theorem dX8_lease_119 : decode cX8_lease 119 = .ok (.aload_n 0, 1) := by decide +kernel
theorem dX8_lease_120 : decode cX8_lease 120 = .ok (.getfield 26, 3) := by decide +kernel
theorem dX8_lease_123 : decode cX8_lease 123 = .ok (.aload_n 0, 1) := by decide +kernel
theorem dX8_lease_124 : decode cX8_lease 124 = .ok (.getfield 60, 3) := by decide +kernel
theorem dX8_lease_127 : decode cX8_lease 127 = .ok (.invokevirtual 212, 3) := by decide +kernel
theorem dX8_lease_130 : decode cX8_lease 130 = .ok (.ireturn, 1) := by decide +kernel
theorem dX8_release_0 : decode cX8_release 0 = .ok (.iload_n 1, 1) := by decide +kernel
theorem dX8_release_1 : decode cX8_release 1 = .ok (.invokestatic 106, 3) := by decide +kernel
theorem dX8_release_4 : decode cX8_release 4 = .ok (.aload_n 0, 1) := by decide +kernel
theorem dX8_release_5 : decode cX8_release 5 = .ok (.getfield 26, 3) := by decide +kernel
theorem dX8_release_8 : decode cX8_release 8 = .ok (.iload_n 1, 1) := by decide +kernel
theorem dX8_release_9 : decode cX8_release 9 = .ok (.aload_n 0, 1) := by decide +kernel
theorem dX8_release_10 : decode cX8_release 10 = .ok (.getfield 60, 3) := by decide +kernel
theorem dX8_release_13 : decode cX8_release 13 = .ok (.invokevirtual 215, 3) := by decide +kernel
theorem dX8_release_16 : decode cX8_release 16 = .ok (.ireturn, 1) := by decide +kernel
theorem dX8_holder_0 : decode cX8_holder 0 = .ok (.iload_n 1, 1) := by decide +kernel
theorem dX8_holder_1 : decode cX8_holder 1 = .ok (.invokestatic 151, 3) := by decide +kernel
theorem dX8_holder_4 : decode cX8_holder 4 = .ok (.aload_n 0, 1) := by decide +kernel
theorem dX8_holder_5 : decode cX8_holder 5 = .ok (.getfield 26, 3) := by decide +kernel
theorem dX8_holder_8 : decode cX8_holder 8 = .ok (.iload_n 1, 1) := by decide +kernel
theorem dX8_holder_9 : decode cX8_holder 9 = .ok (.aload_n 0, 1) := by decide +kernel
theorem dX8_holder_10 : decode cX8_holder 10 = .ok (.getfield 60, 3) := by decide +kernel
theorem dX8_holder_13 : decode cX8_holder 13 = .ok (.invokevirtual 219, 3) := by decide +kernel
theorem dX8_holder_16 : decode cX8_holder 16 = .ok (.ireturn, 1) := by decide +kernel
theorem dX8_setMark_0 : decode cX8_setMark 0 = .ok (.iload_n 1, 1) := by decide +kernel
theorem dX8_setMark_1 : decode cX8_setMark 1 = .ok (.invokestatic 222, 3) := by decide +kernel
theorem dX8_setMark_4 : decode cX8_setMark 4 = .ok (.aload_n 0, 1) := by decide +kernel
theorem dX8_setMark_5 : decode cX8_setMark 5 = .ok (.getfield 32, 3) := by decide +kernel
theorem dX8_setMark_8 : decode cX8_setMark 8 = .ok (.iload_n 1, 1) := by decide +kernel
theorem dX8_setMark_9 : decode cX8_setMark 9 = .ok (.aaload, 1) := by decide +kernel
theorem dX8_setMark_10 : decode cX8_setMark 10 = .ok (.aload_n 0, 1) := by decide +kernel
theorem dX8_setMark_11 : decode cX8_setMark 11 = .ok (.getfield 19, 3) := by decide +kernel
theorem dX8_setMark_14 : decode cX8_setMark 14 = .ok (.aload_n 0, 1) := by decide +kernel
theorem dX8_setMark_15 : decode cX8_setMark 15 = .ok (.getfield 39, 3) := by decide +kernel
theorem dX8_setMark_18 : decode cX8_setMark 18 = .ok (.invokevirtual 225, 3) := by decide +kernel
theorem dX8_setMark_21 : decode cX8_setMark 21 = .ok (.aload_n 0, 1) := by decide +kernel
theorem dX8_setMark_22 : decode cX8_setMark 22 = .ok (.getfield 19, 3) := by decide +kernel
theorem dX8_setMark_25 : decode cX8_setMark 25 = .ok (.getfield 65, 3) := by decide +kernel
theorem dX8_setMark_28 : decode cX8_setMark 28 = .ok (.ireturn, 1) := by decide +kernel
theorem dX8_replay_0 : decode cX8_replay 0 = .ok (.iload_n 1, 1) := by decide +kernel
theorem dX8_replay_1 : decode cX8_replay 1 = .ok (.invokestatic 222, 3) := by decide +kernel
theorem dX8_replay_4 : decode cX8_replay 4 = .ok (.iload_n 2, 1) := by decide +kernel
theorem dX8_replay_5 : decode cX8_replay 5 = .ok (.invokestatic 151, 3) := by decide +kernel
theorem dX8_replay_8 : decode cX8_replay 8 = .ok (.aload_n 0, 1) := by decide +kernel
theorem dX8_replay_9 : decode cX8_replay 9 = .ok (.iload_n 1, 1) := by decide +kernel
theorem dX8_replay_10 : decode cX8_replay 10 = .ok (.invokevirtual 229, 3) := by decide +kernel
theorem dX8_replay_13 : decode cX8_replay 13 = .ok (.aload_n 0, 1) := by decide +kernel
theorem dX8_replay_14 : decode cX8_replay 14 = .ok (.getfield 32, 3) := by decide +kernel
theorem dX8_replay_17 : decode cX8_replay 17 = .ok (.iload_n 1, 1) := by decide +kernel
theorem dX8_replay_18 : decode cX8_replay 18 = .ok (.aaload, 1) := by decide +kernel
theorem dX8_replay_19 : decode cX8_replay 19 = .ok (.getfield 232, 3) := by decide +kernel
theorem dX8_replay_22 : decode cX8_replay 22 = .ok (.iload_n 2, 1) := by decide +kernel
theorem dX8_replay_23 : decode cX8_replay 23 = .ok (.iaload, 1) := by decide +kernel
theorem dX8_replay_24 : decode cX8_replay 24 = .ok (.ireturn, 1) := by decide +kernel
theorem dX8_difference_0 : decode cX8_difference 0 = .ok (.iload_n 1, 1) := by decide +kernel
theorem dX8_difference_1 : decode cX8_difference 1 = .ok (.invokestatic 222, 3) := by decide +kernel
theorem dX8_difference_4 : decode cX8_difference 4 = .ok (.aload_n 0, 1) := by decide +kernel
theorem dX8_difference_5 : decode cX8_difference 5 = .ok (.iload_n 1, 1) := by decide +kernel
theorem dX8_difference_6 : decode cX8_difference 6 = .ok (.invokevirtual 229, 3) := by decide +kernel
theorem dX8_difference_9 : decode cX8_difference 9 = .ok (.aload_n 0, 1) := by decide +kernel
theorem dX8_difference_10 : decode cX8_difference 10 = .ok (.getfield 39, 3) := by decide +kernel
theorem dX8_difference_13 : decode cX8_difference 13 = .ok (.getfield 154, 3) := by decide +kernel
theorem dX8_difference_16 : decode cX8_difference 16 = .ok (.aload_n 0, 1) := by decide +kernel
theorem dX8_difference_17 : decode cX8_difference 17 = .ok (.getfield 32, 3) := by decide +kernel
theorem dX8_difference_20 : decode cX8_difference 20 = .ok (.iload_n 1, 1) := by decide +kernel
theorem dX8_difference_21 : decode cX8_difference 21 = .ok (.aaload, 1) := by decide +kernel
theorem dX8_difference_22 : decode cX8_difference 22 = .ok (.getfield 232, 3) := by decide +kernel
theorem dX8_difference_25 : decode cX8_difference 25 = .ok (.invokestatic 233, 3) := by decide +kernel
theorem dX8_difference_28 : decode cX8_difference 28 = .ok (.ireturn, 1) := by decide +kernel
theorem dX8_rewind_0 : decode cX8_rewind 0 = .ok (.iload_n 1, 1) := by decide +kernel
theorem dX8_rewind_1 : decode cX8_rewind 1 = .ok (.invokestatic 222, 3) := by decide +kernel
theorem dX8_rewind_4 : decode cX8_rewind 4 = .ok (.aload_n 0, 1) := by decide +kernel
theorem dX8_rewind_5 : decode cX8_rewind 5 = .ok (.iload_n 1, 1) := by decide +kernel
theorem dX8_rewind_6 : decode cX8_rewind 6 = .ok (.invokevirtual 229, 3) := by decide +kernel
theorem dX8_rewind_9 : decode cX8_rewind 9 = .ok (.aload_n 0, 1) := by decide +kernel
theorem dX8_rewind_10 : decode cX8_rewind 10 = .ok (.getfield 19, 3) := by decide +kernel
theorem dX8_rewind_13 : decode cX8_rewind 13 = .ok (.getfield 65, 3) := by decide +kernel
theorem dX8_rewind_16 : decode cX8_rewind 16 = .ok (.aload_n 0, 1) := by decide +kernel
theorem dX8_rewind_17 : decode cX8_rewind 17 = .ok (.getfield 32, 3) := by decide +kernel
theorem dX8_rewind_20 : decode cX8_rewind 20 = .ok (.iload_n 1, 1) := by decide +kernel
theorem dX8_rewind_21 : decode cX8_rewind 21 = .ok (.aaload, 1) := by decide +kernel
theorem dX8_rewind_22 : decode cX8_rewind 22 = .ok (.getfield 237, 3) := by decide +kernel
theorem dX8_rewind_25 : decode cX8_rewind 25 = .ok (.isub, 1) := by decide +kernel
theorem dX8_rewind_26 : decode cX8_rewind 26 = .ok (.istore_n 2, 1) := by decide +kernel
theorem dX8_rewind_27 : decode cX8_rewind 27 = .ok (.aload_n 0, 1) := by decide +kernel
theorem dX8_rewind_28 : decode cX8_rewind 28 = .ok (.getfield 19, 3) := by decide +kernel
theorem dX8_rewind_31 : decode cX8_rewind 31 = .ok (.aload_n 0, 1) := by decide +kernel
theorem dX8_rewind_32 : decode cX8_rewind 32 = .ok (.getfield 32, 3) := by decide +kernel
theorem dX8_rewind_35 : decode cX8_rewind 35 = .ok (.iload_n 1, 1) := by decide +kernel
theorem dX8_rewind_36 : decode cX8_rewind 36 = .ok (.aaload, 1) := by decide +kernel
theorem dX8_rewind_37 : decode cX8_rewind 37 = .ok (.invokevirtual 238, 3) := by decide +kernel
theorem dX8_rewind_40 : decode cX8_rewind 40 = .ok (.iconst 0, 1) := by decide +kernel
theorem dX8_rewind_41 : decode cX8_rewind 41 = .ok (.istore_n 3, 1) := by decide +kernel
theorem dX8_rewind_42 : decode cX8_rewind 42 = .ok (.iload_n 3, 1) := by decide +kernel
theorem dX8_rewind_43 : decode cX8_rewind 43 = .ok (.bipush 6, 2) := by decide +kernel
theorem dX8_rewind_45 : decode cX8_rewind 45 = .ok (.if_icmp .ge 38, 3) := by decide +kernel
theorem dX8_rewind_48 : decode cX8_rewind 48 = .ok (.aload_n 0, 1) := by decide +kernel
theorem dX8_rewind_49 : decode cX8_rewind 49 = .ok (.getfield 32, 3) := by decide +kernel
theorem dX8_rewind_52 : decode cX8_rewind 52 = .ok (.iload_n 3, 1) := by decide +kernel
theorem dX8_rewind_53 : decode cX8_rewind 53 = .ok (.aaload, 1) := by decide +kernel
theorem dX8_rewind_54 : decode cX8_rewind 54 = .ok (.getfield 237, 3) := by decide +kernel
theorem dX8_rewind_57 : decode cX8_rewind 57 = .ok (.aload_n 0, 1) := by decide +kernel
theorem dX8_rewind_58 : decode cX8_rewind 58 = .ok (.getfield 19, 3) := by decide +kernel
theorem dX8_rewind_61 : decode cX8_rewind 61 = .ok (.getfield 65, 3) := by decide +kernel
theorem dX8_rewind_64 : decode cX8_rewind 64 = .ok (.if_icmp .le 13, 3) := by decide +kernel
theorem dX8_rewind_67 : decode cX8_rewind 67 = .ok (.aload_n 0, 1) := by decide +kernel
theorem dX8_rewind_68 : decode cX8_rewind 68 = .ok (.getfield 32, 3) := by decide +kernel
theorem dX8_rewind_71 : decode cX8_rewind 71 = .ok (.iload_n 3, 1) := by decide +kernel
theorem dX8_rewind_72 : decode cX8_rewind 72 = .ok (.aaload, 1) := by decide +kernel
theorem dX8_rewind_73 : decode cX8_rewind 73 = .ok (.iconst 0, 1) := by decide +kernel
theorem dX8_rewind_74 : decode cX8_rewind 74 = .ok (.putfield 71, 3) := by decide +kernel
theorem dX8_rewind_77 : decode cX8_rewind 77 = .ok (.iinc 3 1, 3) := by decide +kernel
theorem dX8_rewind_80 : decode cX8_rewind 80 = .ok (.goto (-38), 3) := by decide +kernel
theorem dX8_rewind_83 : decode cX8_rewind 83 = .ok (.aload_n 0, 1) := by decide +kernel
theorem dX8_rewind_84 : decode cX8_rewind 84 = .ok (.invokevirtual 75, 3) := by decide +kernel
theorem dX8_rewind_87 : decode cX8_rewind 87 = .ok (.iload_n 2, 1) := by decide +kernel
theorem dX8_rewind_88 : decode cX8_rewind 88 = .ok (.ireturn, 1) := by decide +kernel
theorem dX8_color_0 : decode cX8_color 0 = .ok (.iload_n 1, 1) := by decide +kernel
theorem dX8_color_1 : decode cX8_color 1 = .ok (.invokestatic 151, 3) := by decide +kernel
theorem dX8_color_4 : decode cX8_color 4 = .ok (.aload_n 0, 1) := by decide +kernel
theorem dX8_color_5 : decode cX8_color 5 = .ok (.getfield 39, 3) := by decide +kernel
theorem dX8_color_8 : decode cX8_color 8 = .ok (.getfield 154, 3) := by decide +kernel
theorem dX8_color_11 : decode cX8_color 11 = .ok (.iload_n 1, 1) := by decide +kernel
theorem dX8_color_12 : decode cX8_color 12 = .ok (.iaload, 1) := by decide +kernel
theorem dX8_color_13 : decode cX8_color 13 = .ok (.ireturn, 1) := by decide +kernel
theorem dX8_colorLater_0 : decode cX8_colorLater 0 = .ok (.iload_n 1, 1) := by decide +kernel
theorem dX8_colorLater_1 : decode cX8_colorLater 1 = .ok (.invokestatic 151, 3) := by decide +kernel
theorem dX8_colorLater_4 : decode cX8_colorLater 4 = .ok (.iload_n 2, 1) := by decide +kernel
theorem dX8_colorLater_5 : decode cX8_colorLater 5 = .ok (.ifCond .lt 10, 3) := by decide +kernel
theorem dX8_colorLater_8 : decode cX8_colorLater 8 = .ok (.iload_n 2, 1) := by decide +kernel
theorem dX8_colorLater_9 : decode cX8_colorLater 9 = .ok (.sipush 1000, 3) := by decide +kernel
theorem dX8_colorLater_12 : decode cX8_colorLater 12 = .ok (.if_icmp .le 13, 3) := by decide +kernel
theorem dX8_colorLater_15 : decode cX8_colorLater 15 = .ok (.new 78, 3) := by decide +kernel
theorem dX8_colorLater_18 : decode cX8_colorLater 18 = .ok (.dup, 1) := by decide +kernel
theorem dX8_colorLater_19 : decode cX8_colorLater 19 = .ok (.ldc 242, 2) := by decide +kernel
theorem dX8_colorLater_21 : decode cX8_colorLater 21 = .ok (.invokespecial 82, 3) := by decide +kernel
theorem dX8_colorLater_24 : decode cX8_colorLater 24 = .ok (.athrow, 1) := by decide +kernel
theorem dX8_colorLater_25 : decode cX8_colorLater 25 = .ok (.aload_n 0, 1) := by decide +kernel
theorem dX8_colorLater_26 : decode cX8_colorLater 26 = .ok (.getfield 43, 3) := by decide +kernel
theorem dX8_colorLater_29 : decode cX8_colorLater 29 = .ok (.aload_n 0, 1) := by decide +kernel
theorem dX8_colorLater_30 : decode cX8_colorLater 30 = .ok (.getfield 19, 3) := by decide +kernel
theorem dX8_colorLater_33 : decode cX8_colorLater 33 = .ok (.aload_n 0, 1) := by decide +kernel
theorem dX8_colorLater_34 : decode cX8_colorLater 34 = .ok (.getfield 60, 3) := by decide +kernel
theorem dX8_colorLater_37 : decode cX8_colorLater 37 = .ok (.iload_n 2, 1) := by decide +kernel
theorem dX8_colorLater_38 : decode cX8_colorLater 38 = .ok (.iadd, 1) := by decide +kernel
theorem dX8_colorLater_39 : decode cX8_colorLater 39 = .ok (.iconst (-1), 1) := by decide +kernel
theorem dX8_colorLater_40 : decode cX8_colorLater 40 = .ok (.invokevirtual 244, 3) := by decide +kernel
theorem dX8_colorLater_43 : decode cX8_colorLater 43 = .ok (.aload_n 0, 1) := by decide +kernel
theorem dX8_colorLater_44 : decode cX8_colorLater 44 = .ok (.getfield 43, 3) := by decide +kernel
theorem dX8_colorLater_47 : decode cX8_colorLater 47 = .ok (.getfield 154, 3) := by decide +kernel
theorem dX8_colorLater_50 : decode cX8_colorLater 50 = .ok (.iload_n 1, 1) := by decide +kernel
theorem dX8_colorLater_51 : decode cX8_colorLater 51 = .ok (.iaload, 1) := by decide +kernel
theorem dX8_colorLater_52 : decode cX8_colorLater 52 = .ok (.ireturn, 1) := by decide +kernel
theorem dX8_top_0 : decode cX8_top 0 = .ok (.iload_n 1, 1) := by decide +kernel
theorem dX8_top_1 : decode cX8_top 1 = .ok (.invokestatic 151, 3) := by decide +kernel
theorem dX8_top_4 : decode cX8_top 4 = .ok (.aload_n 0, 1) := by decide +kernel
theorem dX8_top_5 : decode cX8_top 5 = .ok (.getfield 39, 3) := by decide +kernel
theorem dX8_top_8 : decode cX8_top 8 = .ok (.getfield 248, 3) := by decide +kernel
theorem dX8_top_11 : decode cX8_top 11 = .ok (.iload_n 1, 1) := by decide +kernel
theorem dX8_top_12 : decode cX8_top 12 = .ok (.iaload, 1) := by decide +kernel
theorem dX8_top_13 : decode cX8_top 13 = .ok (.ireturn, 1) := by decide +kernel
theorem dX8_count_0 : decode cX8_count 0 = .ok (.iload_n 1, 1) := by decide +kernel
theorem dX8_count_1 : decode cX8_count 1 = .ok (.ifCond .lt 9, 3) := by decide +kernel
theorem dX8_count_4 : decode cX8_count 4 = .ok (.iload_n 1, 1) := by decide +kernel
theorem dX8_count_5 : decode cX8_count 5 = .ok (.bipush 10, 2) := by decide +kernel
theorem dX8_count_7 : decode cX8_count 7 = .ok (.if_icmp .lt 13, 3) := by decide +kernel
theorem dX8_count_10 : decode cX8_count 10 = .ok (.new 78, 3) := by decide +kernel
theorem dX8_count_13 : decode cX8_count 13 = .ok (.dup, 1) := by decide +kernel
theorem dX8_count_14 : decode cX8_count 14 = .ok (.ldc 251, 2) := by decide +kernel
theorem dX8_count_16 : decode cX8_count 16 = .ok (.invokespecial 82, 3) := by decide +kernel
theorem dX8_count_19 : decode cX8_count 19 = .ok (.athrow, 1) := by decide +kernel
theorem dX8_count_20 : decode cX8_count 20 = .ok (.aload_n 0, 1) := by decide +kernel
theorem dX8_count_21 : decode cX8_count 21 = .ok (.iload_n 1, 1) := by decide +kernel
theorem dX8_count_22 : decode cX8_count 22 = .ok (.invokevirtual 253, 3) := by decide +kernel
theorem dX8_count_25 : decode cX8_count 25 = .ok (.ireturn, 1) := by decide +kernel
theorem dX8_operation_0 : decode cX8_operation 0 = .ok (.aload_n 0, 1) := by decide +kernel
theorem dX8_operation_1 : decode cX8_operation 1 = .ok (.iload_n 1, 1) := by decide +kernel
theorem dX8_operation_2 : decode cX8_operation 2 = .ok (.invokevirtual 256, 3) := by decide +kernel
theorem dX8_operation_5 : decode cX8_operation 5 = .ok (.iload_n 2, 1) := by decide +kernel
theorem dX8_operation_6 : decode cX8_operation 6 = .ok (.ifCond .lt 9, 3) := by decide +kernel
theorem dX8_operation_9 : decode cX8_operation 9 = .ok (.iload_n 2, 1) := by decide +kernel
theorem dX8_operation_10 : decode cX8_operation 10 = .ok (.bipush 11, 2) := by decide +kernel
theorem dX8_operation_12 : decode cX8_operation 12 = .ok (.if_icmp .lt 14, 3) := by decide +kernel
theorem dX8_operation_15 : decode cX8_operation 15 = .ok (.new 78, 3) := by decide +kernel
theorem dX8_operation_18 : decode cX8_operation 18 = .ok (.dup, 1) := by decide +kernel
theorem dX8_operation_19 : decode cX8_operation 19 = .ok (.ldc_w 259, 3) := by decide +kernel
theorem dX8_operation_22 : decode cX8_operation 22 = .ok (.invokespecial 82, 3) := by decide +kernel
theorem dX8_operation_25 : decode cX8_operation 25 = .ok (.athrow, 1) := by decide +kernel
theorem dX8_operation_26 : decode cX8_operation 26 = .ok (.aload_n 0, 1) := by decide +kernel
theorem dX8_operation_27 : decode cX8_operation 27 = .ok (.iload_n 1, 1) := by decide +kernel
theorem dX8_operation_28 : decode cX8_operation 28 = .ok (.iload_n 2, 1) := by decide +kernel
theorem dX8_operation_29 : decode cX8_operation 29 = .ok (.invokevirtual 261, 3) := by decide +kernel
theorem dX8_operation_32 : decode cX8_operation 32 = .ok (.ireturn, 1) := by decide +kernel
theorem dX8_ifSwitched_0 : decode cX8_ifSwitched 0 = .ok (.aload_n 0, 1) := by decide +kernel
theorem dX8_ifSwitched_1 : decode cX8_ifSwitched 1 = .ok (.iload_n 1, 1) := by decide +kernel
theorem dX8_ifSwitched_2 : decode cX8_ifSwitched 2 = .ok (.invokevirtual 256, 3) := by decide +kernel
theorem dX8_ifSwitched_5 : decode cX8_ifSwitched 5 = .ok (.aload_n 0, 1) := by decide +kernel
theorem dX8_ifSwitched_6 : decode cX8_ifSwitched 6 = .ok (.iload_n 1, 1) := by decide +kernel
theorem dX8_ifSwitched_7 : decode cX8_ifSwitched 7 = .ok (.invokevirtual 147, 3) := by decide +kernel
theorem dX8_ifSwitched_10 : decode cX8_ifSwitched 10 = .ok (.ireturn, 1) := by decide +kernel
theorem dX8_user_0 : decode cX8_user 0 = .ok (.iload_n 1, 1) := by decide +kernel
theorem dX8_user_1 : decode cX8_user 1 = .ok (.invokestatic 106, 3) := by decide +kernel
theorem dX8_user_4 : decode cX8_user 4 = .ok (.iload_n 2, 1) := by decide +kernel
theorem dX8_user_5 : decode cX8_user 5 = .ok (.ifCond .lt 8, 3) := by decide +kernel
theorem dX8_user_8 : decode cX8_user 8 = .ok (.iload_n 2, 1) := by decide +kernel
theorem dX8_user_9 : decode cX8_user 9 = .ok (.iconst 5, 1) := by decide +kernel
theorem dX8_user_10 : decode cX8_user 10 = .ok (.if_icmp .lt 14, 3) := by decide +kernel
theorem dX8_user_13 : decode cX8_user 13 = .ok (.new 78, 3) := by decide +kernel
theorem dX8_user_16 : decode cX8_user 16 = .ok (.dup, 1) := by decide +kernel
theorem dX8_user_17 : decode cX8_user 17 = .ok (.ldc_w 264, 3) := by decide +kernel
theorem dX8_user_20 : decode cX8_user 20 = .ok (.invokespecial 82, 3) := by decide +kernel
theorem dX8_user_23 : decode cX8_user 23 = .ok (.athrow, 1) := by decide +kernel
theorem dX8_user_24 : decode cX8_user 24 = .ok (.aload_n 0, 1) := by decide +kernel
theorem dX8_user_25 : decode cX8_user 25 = .ok (.iload_n 1, 1) := by decide +kernel
theorem dX8_user_26 : decode cX8_user 26 = .ok (.iload_n 2, 1) := by decide +kernel
theorem dX8_user_27 : decode cX8_user 27 = .ok (.invokevirtual 266, 3) := by decide +kernel
theorem dX8_user_30 : decode cX8_user 30 = .ok (.ireturn, 1) := by decide +kernel
theorem dX8_meanStrength_0 : decode cX8_meanStrength 0 = .ok (.iconst 0, 1) := by decide +kernel
theorem dX8_meanStrength_1 : decode cX8_meanStrength 1 = .ok (.istore_n 1, 1) := by decide +kernel
theorem dX8_meanStrength_2 : decode cX8_meanStrength 2 = .ok (.iconst 0, 1) := by decide +kernel
theorem dX8_meanStrength_3 : decode cX8_meanStrength 3 = .ok (.istore_n 2, 1) := by decide +kernel
theorem dX8_meanStrength_4 : decode cX8_meanStrength 4 = .ok (.iconst 0, 1) := by decide +kernel
theorem dX8_meanStrength_5 : decode cX8_meanStrength 5 = .ok (.istore_n 3, 1) := by decide +kernel
theorem dX8_meanStrength_6 : decode cX8_meanStrength 6 = .ok (.iload_n 3, 1) := by decide +kernel
theorem dX8_meanStrength_7 : decode cX8_meanStrength 7 = .ok (.sipush 256, 3) := by decide +kernel
theorem dX8_meanStrength_10 : decode cX8_meanStrength 10 = .ok (.if_icmp .ge 55, 3) := by decide +kernel
theorem dX8_meanStrength_13 : decode cX8_meanStrength 13 = .ok (.aload_n 0, 1) := by decide +kernel
theorem dX8_meanStrength_14 : decode cX8_meanStrength 14 = .ok (.getfield 39, 3) := by decide +kernel
theorem dX8_meanStrength_17 : decode cX8_meanStrength 17 = .ok (.getfield 248, 3) := by decide +kernel
theorem dX8_meanStrength_20 : decode cX8_meanStrength 20 = .ok (.iload_n 3, 1) := by decide +kernel
theorem dX8_meanStrength_21 : decode cX8_meanStrength 21 = .ok (.iaload, 1) := by decide +kernel
theorem dX8_meanStrength_22 : decode cX8_meanStrength 22 = .ok (.istore 4, 2) := by decide +kernel
theorem dX8_meanStrength_24 : decode cX8_meanStrength 24 = .ok (.aload_n 0, 1) := by decide +kernel
theorem dX8_meanStrength_25 : decode cX8_meanStrength 25 = .ok (.getfield 19, 3) := by decide +kernel
theorem dX8_meanStrength_28 : decode cX8_meanStrength 28 = .ok (.iload 4, 2) := by decide +kernel
theorem dX8_meanStrength_30 : decode cX8_meanStrength 30 = .ok (.invokevirtual 171, 3) := by decide +kernel
theorem dX8_meanStrength_33 : decode cX8_meanStrength 33 = .ok (.ifCond .eq 26, 3) := by decide +kernel
theorem dX8_meanStrength_36 : decode cX8_meanStrength 36 = .ok (.iload_n 1, 1) := by decide +kernel
theorem dX8_meanStrength_37 : decode cX8_meanStrength 37 = .ok (.aload_n 0, 1) := by decide +kernel
theorem dX8_meanStrength_38 : decode cX8_meanStrength 38 = .ok (.getfield 19, 3) := by decide +kernel
theorem dX8_meanStrength_41 : decode cX8_meanStrength 41 = .ok (.getfield 269, 3) := by decide +kernel
theorem dX8_meanStrength_44 : decode cX8_meanStrength 44 = .ok (.iload 4, 2) := by decide +kernel
theorem dX8_meanStrength_46 : decode cX8_meanStrength 46 = .ok (.aaload, 1) := by decide +kernel
theorem dX8_meanStrength_47 : decode cX8_meanStrength 47 = .ok (.aload_n 0, 1) := by decide +kernel
theorem dX8_meanStrength_48 : decode cX8_meanStrength 48 = .ok (.getfield 60, 3) := by decide +kernel
theorem dX8_meanStrength_51 : decode cX8_meanStrength 51 = .ok (.invokevirtual 273, 3) := by decide +kernel
theorem dX8_meanStrength_54 : decode cX8_meanStrength 54 = .ok (.iadd, 1) := by decide +kernel
theorem dX8_meanStrength_55 : decode cX8_meanStrength 55 = .ok (.istore_n 1, 1) := by decide +kernel
theorem dX8_meanStrength_56 : decode cX8_meanStrength 56 = .ok (.iinc 2 1, 3) := by decide +kernel
theorem dX8_meanStrength_59 : decode cX8_meanStrength 59 = .ok (.iinc 3 1, 3) := by decide +kernel
theorem dX8_meanStrength_62 : decode cX8_meanStrength 62 = .ok (.goto (-56), 3) := by decide +kernel
theorem dX8_meanStrength_65 : decode cX8_meanStrength 65 = .ok (.iload_n 2, 1) := by decide +kernel
theorem dX8_meanStrength_66 : decode cX8_meanStrength 66 = .ok (.ifCond .ne 7, 3) := by decide +kernel
theorem dX8_meanStrength_69 : decode cX8_meanStrength 69 = .ok (.dconst 0, 1) := by decide +kernel
theorem dX8_meanStrength_70 : decode cX8_meanStrength 70 = .ok (.goto 8, 3) := by decide +kernel
theorem dX8_meanStrength_73 : decode cX8_meanStrength 73 = .ok (.iload_n 1, 1) := by decide +kernel
theorem dX8_meanStrength_74 : decode cX8_meanStrength 74 = .ok (.i2d, 1) := by decide +kernel
theorem dX8_meanStrength_75 : decode cX8_meanStrength 75 = .ok (.iload_n 2, 1) := by decide +kernel
theorem dX8_meanStrength_76 : decode cX8_meanStrength 76 = .ok (.i2d, 1) := by decide +kernel
theorem dX8_meanStrength_77 : decode cX8_meanStrength 77 = .ok (.ddiv, 1) := by decide +kernel
theorem dX8_meanStrength_78 : decode cX8_meanStrength 78 = .ok (.dreturn, 1) := by decide +kernel
theorem dX8_digest_0 : decode cX8_digest 0 = .ok (.ldc2_w 276, 3) := by decide +kernel
theorem dX8_digest_3 : decode cX8_digest 3 = .ok (.lstore_n 1, 1) := by decide +kernel
theorem dX8_digest_4 : decode cX8_digest 4 = .ok (.iconst 0, 1) := by decide +kernel
theorem dX8_digest_5 : decode cX8_digest 5 = .ok (.istore_n 3, 1) := by decide +kernel
theorem dX8_digest_6 : decode cX8_digest 6 = .ok (.iload_n 3, 1) := by decide +kernel
theorem dX8_digest_7 : decode cX8_digest 7 = .ok (.bipush 10, 2) := by decide +kernel
theorem dX8_digest_9 : decode cX8_digest 9 = .ok (.if_icmp .ge 22, 3) := by decide +kernel
theorem dX8_digest_12 : decode cX8_digest 12 = .ok (.ldc2_w 278, 3) := by decide +kernel
theorem dX8_digest_15 : decode cX8_digest 15 = .ok (.lload_n 1, 1) := by decide +kernel
theorem dX8_digest_16 : decode cX8_digest 16 = .ok (.lmul, 1) := by decide +kernel
theorem dX8_digest_17 : decode cX8_digest 17 = .ok (.aload_n 0, 1) := by decide +kernel
theorem dX8_digest_18 : decode cX8_digest 18 = .ok (.iload_n 3, 1) := by decide +kernel
theorem dX8_digest_19 : decode cX8_digest 19 = .ok (.invokevirtual 253, 3) := by decide +kernel
theorem dX8_digest_22 : decode cX8_digest 22 = .ok (.i2l, 1) := by decide +kernel
theorem dX8_digest_23 : decode cX8_digest 23 = .ok (.ladd, 1) := by decide +kernel
theorem dX8_digest_24 : decode cX8_digest 24 = .ok (.lstore_n 1, 1) := by decide +kernel
theorem dX8_digest_25 : decode cX8_digest 25 = .ok (.iinc 3 1, 3) := by decide +kernel
theorem dX8_digest_28 : decode cX8_digest 28 = .ok (.goto (-22), 3) := by decide +kernel
theorem dX8_digest_31 : decode cX8_digest 31 = .ok (.iconst 0, 1) := by decide +kernel
theorem dX8_digest_32 : decode cX8_digest 32 = .ok (.istore_n 3, 1) := by decide +kernel
theorem dX8_digest_33 : decode cX8_digest 33 = .ok (.iload_n 3, 1) := by decide +kernel
theorem dX8_digest_34 : decode cX8_digest 34 = .ok (.sipush 256, 3) := by decide +kernel
theorem dX8_digest_37 : decode cX8_digest 37 = .ok (.if_icmp .ge 26, 3) := by decide +kernel
theorem dX8_digest_40 : decode cX8_digest 40 = .ok (.ldc2_w 278, 3) := by decide +kernel
theorem dX8_digest_43 : decode cX8_digest 43 = .ok (.lload_n 1, 1) := by decide +kernel
theorem dX8_digest_44 : decode cX8_digest 44 = .ok (.lmul, 1) := by decide +kernel
theorem dX8_digest_45 : decode cX8_digest 45 = .ok (.aload_n 0, 1) := by decide +kernel
theorem dX8_digest_46 : decode cX8_digest 46 = .ok (.getfield 39, 3) := by decide +kernel
theorem dX8_digest_49 : decode cX8_digest 49 = .ok (.getfield 154, 3) := by decide +kernel
theorem dX8_digest_52 : decode cX8_digest 52 = .ok (.iload_n 3, 1) := by decide +kernel
theorem dX8_digest_53 : decode cX8_digest 53 = .ok (.iaload, 1) := by decide +kernel
theorem dX8_digest_54 : decode cX8_digest 54 = .ok (.i2l, 1) := by decide +kernel
theorem dX8_digest_55 : decode cX8_digest 55 = .ok (.ladd, 1) := by decide +kernel
theorem dX8_digest_56 : decode cX8_digest 56 = .ok (.lstore_n 1, 1) := by decide +kernel
theorem dX8_digest_57 : decode cX8_digest 57 = .ok (.iinc 3 1, 3) := by decide +kernel
theorem dX8_digest_60 : decode cX8_digest 60 = .ok (.goto (-27), 3) := by decide +kernel
theorem dX8_digest_63 : decode cX8_digest 63 = .ok (.iconst 0, 1) := by decide +kernel
theorem dX8_digest_64 : decode cX8_digest 64 = .ok (.istore_n 3, 1) := by decide +kernel
theorem dX8_digest_65 : decode cX8_digest 65 = .ok (.iload_n 3, 1) := by decide +kernel
theorem dX8_digest_66 : decode cX8_digest 66 = .ok (.aload_n 0, 1) := by decide +kernel
theorem dX8_digest_67 : decode cX8_digest 67 = .ok (.getfield 19, 3) := by decide +kernel
theorem dX8_digest_70 : decode cX8_digest 70 = .ok (.getfield 65, 3) := by decide +kernel
theorem dX8_digest_73 : decode cX8_digest 73 = .ok (.if_icmp .ge 40, 3) := by decide +kernel
theorem dX8_digest_76 : decode cX8_digest 76 = .ok (.iconst 0, 1) := by decide +kernel
theorem dX8_digest_77 : decode cX8_digest 77 = .ok (.istore 4, 2) := by decide +kernel
theorem dX8_digest_79 : decode cX8_digest 79 = .ok (.iload 4, 2) := by decide +kernel
theorem dX8_digest_81 : decode cX8_digest 81 = .ok (.bipush 11, 2) := by decide +kernel
theorem dX8_digest_83 : decode cX8_digest 83 = .ok (.if_icmp .ge 24, 3) := by decide +kernel
theorem dX8_digest_86 : decode cX8_digest 86 = .ok (.ldc2_w 278, 3) := by decide +kernel
theorem dX8_digest_89 : decode cX8_digest 89 = .ok (.lload_n 1, 1) := by decide +kernel
theorem dX8_digest_90 : decode cX8_digest 90 = .ok (.lmul, 1) := by decide +kernel
theorem dX8_digest_91 : decode cX8_digest 91 = .ok (.aload_n 0, 1) := by decide +kernel
theorem dX8_digest_92 : decode cX8_digest 92 = .ok (.iload_n 3, 1) := by decide +kernel
theorem dX8_digest_93 : decode cX8_digest 93 = .ok (.iload 4, 2) := by decide +kernel
theorem dX8_digest_95 : decode cX8_digest 95 = .ok (.invokevirtual 261, 3) := by decide +kernel
theorem dX8_digest_98 : decode cX8_digest 98 = .ok (.i2l, 1) := by decide +kernel
theorem dX8_digest_99 : decode cX8_digest 99 = .ok (.ladd, 1) := by decide +kernel
theorem dX8_digest_100 : decode cX8_digest 100 = .ok (.lstore_n 1, 1) := by decide +kernel
theorem dX8_digest_101 : decode cX8_digest 101 = .ok (.iinc 4 1, 3) := by decide +kernel
theorem dX8_digest_104 : decode cX8_digest 104 = .ok (.goto (-25), 3) := by decide +kernel
theorem dX8_digest_107 : decode cX8_digest 107 = .ok (.iinc 3 1, 3) := by decide +kernel
theorem dX8_digest_110 : decode cX8_digest 110 = .ok (.goto (-45), 3) := by decide +kernel
theorem dX8_digest_113 : decode cX8_digest 113 = .ok (.iconst 0, 1) := by decide +kernel
theorem dX8_digest_114 : decode cX8_digest 114 = .ok (.istore_n 3, 1) := by decide +kernel
theorem dX8_digest_115 : decode cX8_digest 115 = .ok (.iload_n 3, 1) := by decide +kernel
theorem dX8_digest_116 : decode cX8_digest 116 = .ok (.iconst 5, 1) := by decide +kernel
theorem dX8_digest_117 : decode cX8_digest 117 = .ok (.if_icmp .ge 39, 3) := by decide +kernel
theorem dX8_digest_120 : decode cX8_digest 120 = .ok (.iconst 0, 1) := by decide +kernel
theorem dX8_digest_121 : decode cX8_digest 121 = .ok (.istore 4, 2) := by decide +kernel
theorem dX8_digest_123 : decode cX8_digest 123 = .ok (.iload 4, 2) := by decide +kernel
theorem dX8_digest_125 : decode cX8_digest 125 = .ok (.iconst 5, 1) := by decide +kernel
theorem dX8_digest_126 : decode cX8_digest 126 = .ok (.if_icmp .ge 24, 3) := by decide +kernel
theorem dX8_digest_129 : decode cX8_digest 129 = .ok (.ldc2_w 278, 3) := by decide +kernel
theorem dX8_digest_132 : decode cX8_digest 132 = .ok (.lload_n 1, 1) := by decide +kernel
theorem dX8_digest_133 : decode cX8_digest 133 = .ok (.lmul, 1) := by decide +kernel
theorem dX8_digest_134 : decode cX8_digest 134 = .ok (.aload_n 0, 1) := by decide +kernel
theorem dX8_digest_135 : decode cX8_digest 135 = .ok (.iload_n 3, 1) := by decide +kernel
theorem dX8_digest_136 : decode cX8_digest 136 = .ok (.iload 4, 2) := by decide +kernel
theorem dX8_digest_138 : decode cX8_digest 138 = .ok (.invokevirtual 266, 3) := by decide +kernel
theorem dX8_digest_141 : decode cX8_digest 141 = .ok (.i2l, 1) := by decide +kernel
theorem dX8_digest_142 : decode cX8_digest 142 = .ok (.ladd, 1) := by decide +kernel
theorem dX8_digest_143 : decode cX8_digest 143 = .ok (.lstore_n 1, 1) := by decide +kernel
theorem dX8_digest_144 : decode cX8_digest 144 = .ok (.iinc 4 1, 3) := by decide +kernel
theorem dX8_digest_147 : decode cX8_digest 147 = .ok (.goto (-24), 3) := by decide +kernel
theorem dX8_digest_150 : decode cX8_digest 150 = .ok (.iinc 3 1, 3) := by decide +kernel
theorem dX8_digest_153 : decode cX8_digest 153 = .ok (.goto (-38), 3) := by decide +kernel
theorem dX8_digest_156 : decode cX8_digest 156 = .ok (.iconst 0, 1) := by decide +kernel
theorem dX8_digest_157 : decode cX8_digest 157 = .ok (.istore_n 3, 1) := by decide +kernel
theorem dX8_digest_158 : decode cX8_digest 158 = .ok (.iload_n 3, 1) := by decide +kernel
theorem dX8_digest_159 : decode cX8_digest 159 = .ok (.bipush 6, 2) := by decide +kernel
theorem dX8_digest_161 : decode cX8_digest 161 = .ok (.if_icmp .ge 48, 3) := by decide +kernel
theorem dX8_digest_164 : decode cX8_digest 164 = .ok (.aload_n 0, 1) := by decide +kernel
theorem dX8_digest_165 : decode cX8_digest 165 = .ok (.getfield 32, 3) := by decide +kernel
theorem dX8_digest_168 : decode cX8_digest 168 = .ok (.iload_n 3, 1) := by decide +kernel
theorem dX8_digest_169 : decode cX8_digest 169 = .ok (.aaload, 1) := by decide +kernel
theorem dX8_digest_170 : decode cX8_digest 170 = .ok (.getfield 71, 3) := by decide +kernel
theorem dX8_digest_173 : decode cX8_digest 173 = .ok (.ifCond .eq 30, 3) := by decide +kernel
theorem dX8_digest_176 : decode cX8_digest 176 = .ok (.ldc2_w 278, 3) := by decide +kernel
theorem dX8_digest_179 : decode cX8_digest 179 = .ok (.lload_n 1, 1) := by decide +kernel
theorem dX8_digest_180 : decode cX8_digest 180 = .ok (.lmul, 1) := by decide +kernel
theorem dX8_digest_181 : decode cX8_digest 181 = .ok (.aload_n 0, 1) := by decide +kernel
theorem dX8_digest_182 : decode cX8_digest 182 = .ok (.getfield 39, 3) := by decide +kernel
theorem dX8_digest_185 : decode cX8_digest 185 = .ok (.getfield 154, 3) := by decide +kernel
theorem dX8_digest_188 : decode cX8_digest 188 = .ok (.aload_n 0, 1) := by decide +kernel
theorem dX8_digest_189 : decode cX8_digest 189 = .ok (.getfield 32, 3) := by decide +kernel
theorem dX8_digest_192 : decode cX8_digest 192 = .ok (.iload_n 3, 1) := by decide +kernel
theorem dX8_digest_193 : decode cX8_digest 193 = .ok (.aaload, 1) := by decide +kernel
theorem dX8_digest_194 : decode cX8_digest 194 = .ok (.getfield 232, 3) := by decide +kernel
theorem dX8_digest_197 : decode cX8_digest 197 = .ok (.invokestatic 233, 3) := by decide +kernel
theorem dX8_digest_200 : decode cX8_digest 200 = .ok (.i2l, 1) := by decide +kernel
theorem dX8_digest_201 : decode cX8_digest 201 = .ok (.ladd, 1) := by decide +kernel
theorem dX8_digest_202 : decode cX8_digest 202 = .ok (.lstore_n 1, 1) := by decide +kernel
theorem dX8_digest_203 : decode cX8_digest 203 = .ok (.iinc 3 1, 3) := by decide +kernel
theorem dX8_digest_206 : decode cX8_digest 206 = .ok (.goto (-48), 3) := by decide +kernel
theorem dX8_digest_209 : decode cX8_digest 209 = .ok (.ldc2_w 278, 3) := by decide +kernel
theorem dX8_digest_212 : decode cX8_digest 212 = .ok (.lload_n 1, 1) := by decide +kernel
theorem dX8_digest_213 : decode cX8_digest 213 = .ok (.lmul, 1) := by decide +kernel
theorem dX8_digest_214 : decode cX8_digest 214 = .ok (.aload_n 0, 1) := by decide +kernel
theorem dX8_digest_215 : decode cX8_digest 215 = .ok (.getfield 10, 3) := by decide +kernel
theorem dX8_digest_218 : decode cX8_digest 218 = .ok (.getfield 93, 3) := by decide +kernel
theorem dX8_digest_221 : decode cX8_digest 221 = .ok (.i2l, 1) := by decide +kernel
theorem dX8_digest_222 : decode cX8_digest 222 = .ok (.ladd, 1) := by decide +kernel
theorem dX8_digest_223 : decode cX8_digest 223 = .ok (.lstore_n 1, 1) := by decide +kernel
theorem dX8_digest_224 : decode cX8_digest 224 = .ok (.iconst 0, 1) := by decide +kernel
theorem dX8_digest_225 : decode cX8_digest 225 = .ok (.istore_n 3, 1) := by decide +kernel
theorem dX8_digest_226 : decode cX8_digest 226 = .ok (.iload_n 3, 1) := by decide +kernel
theorem dX8_digest_227 : decode cX8_digest 227 = .ok (.aload_n 0, 1) := by decide +kernel
theorem dX8_digest_228 : decode cX8_digest 228 = .ok (.getfield 10, 3) := by decide +kernel
theorem dX8_digest_231 : decode cX8_digest 231 = .ok (.getfield 93, 3) := by decide +kernel
theorem dX8_digest_234 : decode cX8_digest 234 = .ok (.if_icmp .ge 26, 3) := by decide +kernel
theorem dX8_digest_237 : decode cX8_digest 237 = .ok (.ldc2_w 278, 3) := by decide +kernel
theorem dX8_digest_240 : decode cX8_digest 240 = .ok (.lload_n 1, 1) := by decide +kernel
theorem dX8_digest_241 : decode cX8_digest 241 = .ok (.lmul, 1) := by decide +kernel
theorem dX8_digest_242 : decode cX8_digest 242 = .ok (.aload_n 0, 1) := by decide +kernel
theorem dX8_digest_243 : decode cX8_digest 243 = .ok (.getfield 10, 3) := by decide +kernel
theorem dX8_digest_246 : decode cX8_digest 246 = .ok (.getfield 98, 3) := by decide +kernel
theorem dX8_digest_249 : decode cX8_digest 249 = .ok (.iload_n 3, 1) := by decide +kernel
theorem dX8_digest_250 : decode cX8_digest 250 = .ok (.iaload, 1) := by decide +kernel
theorem dX8_digest_251 : decode cX8_digest 251 = .ok (.i2l, 1) := by decide +kernel
theorem dX8_digest_252 : decode cX8_digest 252 = .ok (.ladd, 1) := by decide +kernel
theorem dX8_digest_253 : decode cX8_digest 253 = .ok (.lstore_n 1, 1) := by decide +kernel
theorem dX8_digest_254 : decode cX8_digest 254 = .ok (.iinc 3 1, 3) := by decide +kernel
theorem dX8_digest_257 : decode cX8_digest 257 = .ok (.goto (-31), 3) := by decide +kernel
theorem dX8_digest_260 : decode cX8_digest 260 = .ok (.lload_n 1, 1) := by decide +kernel
theorem dX8_digest_261 : decode cX8_digest 261 = .ok (.lreturn, 1) := by decide +kernel
theorem dX8_refuseWrongUser_0 : decode cX8_refuseWrongUser 0 = .ok (.iload_n 0, 1) := by decide +kernel
theorem dX8_refuseWrongUser_1 : decode cX8_refuseWrongUser 1 = .ok (.ifCond .lt 8, 3) := by decide +kernel
theorem dX8_refuseWrongUser_4 : decode cX8_refuseWrongUser 4 = .ok (.iload_n 0, 1) := by decide +kernel
theorem dX8_refuseWrongUser_5 : decode cX8_refuseWrongUser 5 = .ok (.iconst 5, 1) := by decide +kernel
theorem dX8_refuseWrongUser_6 : decode cX8_refuseWrongUser 6 = .ok (.if_icmp .lt 14, 3) := by decide +kernel
theorem dX8_refuseWrongUser_9 : decode cX8_refuseWrongUser 9 = .ok (.new 280, 3) := by decide +kernel
theorem dX8_refuseWrongUser_12 : decode cX8_refuseWrongUser 12 = .ok (.dup, 1) := by decide +kernel
theorem dX8_refuseWrongUser_13 : decode cX8_refuseWrongUser 13 = .ok (.ldc_w 282, 3) := by decide +kernel
theorem dX8_refuseWrongUser_16 : decode cX8_refuseWrongUser 16 = .ok (.invokespecial 284, 3) := by decide +kernel
theorem dX8_refuseWrongUser_19 : decode cX8_refuseWrongUser 19 = .ok (.athrow, 1) := by decide +kernel
theorem dX8_refuseWrongUser_20 : decode cX8_refuseWrongUser 20 = .ok (.return_, 1) := by decide +kernel
theorem dX8_refuseWrongLayer_0 : decode cX8_refuseWrongLayer 0 = .ok (.iload_n 0, 1) := by decide +kernel
theorem dX8_refuseWrongLayer_1 : decode cX8_refuseWrongLayer 1 = .ok (.ifCond .lt 8, 3) := by decide +kernel
theorem dX8_refuseWrongLayer_4 : decode cX8_refuseWrongLayer 4 = .ok (.iload_n 0, 1) := by decide +kernel
theorem dX8_refuseWrongLayer_5 : decode cX8_refuseWrongLayer 5 = .ok (.iconst 3, 1) := by decide +kernel
theorem dX8_refuseWrongLayer_6 : decode cX8_refuseWrongLayer 6 = .ok (.if_icmp .lt 14, 3) := by decide +kernel
theorem dX8_refuseWrongLayer_9 : decode cX8_refuseWrongLayer 9 = .ok (.new 280, 3) := by decide +kernel
theorem dX8_refuseWrongLayer_12 : decode cX8_refuseWrongLayer 12 = .ok (.dup, 1) := by decide +kernel
theorem dX8_refuseWrongLayer_13 : decode cX8_refuseWrongLayer 13 = .ok (.ldc_w 285, 3) := by decide +kernel
theorem dX8_refuseWrongLayer_16 : decode cX8_refuseWrongLayer 16 = .ok (.invokespecial 284, 3) := by decide +kernel
theorem dX8_refuseWrongLayer_19 : decode cX8_refuseWrongLayer 19 = .ok (.athrow, 1) := by decide +kernel
theorem dX8_refuseWrongLayer_20 : decode cX8_refuseWrongLayer 20 = .ok (.return_, 1) := by decide +kernel
theorem dX8_refuseWrongCell_0 : decode cX8_refuseWrongCell 0 = .ok (.iload_n 0, 1) := by decide +kernel
theorem dX8_refuseWrongCell_1 : decode cX8_refuseWrongCell 1 = .ok (.ifCond .lt 10, 3) := by decide +kernel
theorem dX8_refuseWrongCell_4 : decode cX8_refuseWrongCell 4 = .ok (.iload_n 0, 1) := by decide +kernel
theorem dX8_refuseWrongCell_5 : decode cX8_refuseWrongCell 5 = .ok (.sipush 256, 3) := by decide +kernel
theorem dX8_refuseWrongCell_8 : decode cX8_refuseWrongCell 8 = .ok (.if_icmp .lt 14, 3) := by decide +kernel
theorem dX8_refuseWrongCell_11 : decode cX8_refuseWrongCell 11 = .ok (.new 280, 3) := by decide +kernel
theorem dX8_refuseWrongCell_14 : decode cX8_refuseWrongCell 14 = .ok (.dup, 1) := by decide +kernel
theorem dX8_refuseWrongCell_15 : decode cX8_refuseWrongCell 15 = .ok (.ldc_w 287, 3) := by decide +kernel
theorem dX8_refuseWrongCell_18 : decode cX8_refuseWrongCell 18 = .ok (.invokespecial 284, 3) := by decide +kernel
theorem dX8_refuseWrongCell_21 : decode cX8_refuseWrongCell 21 = .ok (.athrow, 1) := by decide +kernel
theorem dX8_refuseWrongCell_22 : decode cX8_refuseWrongCell 22 = .ok (.return_, 1) := by decide +kernel
theorem dX8_refuseWrongMark_0 : decode cX8_refuseWrongMark 0 = .ok (.iload_n 0, 1) := by decide +kernel
theorem dX8_refuseWrongMark_1 : decode cX8_refuseWrongMark 1 = .ok (.ifCond .lt 9, 3) := by decide +kernel
theorem dX8_refuseWrongMark_4 : decode cX8_refuseWrongMark 4 = .ok (.iload_n 0, 1) := by decide +kernel
theorem dX8_refuseWrongMark_5 : decode cX8_refuseWrongMark 5 = .ok (.bipush 6, 2) := by decide +kernel
theorem dX8_refuseWrongMark_7 : decode cX8_refuseWrongMark 7 = .ok (.if_icmp .lt 14, 3) := by decide +kernel
theorem dX8_refuseWrongMark_10 : decode cX8_refuseWrongMark 10 = .ok (.new 280, 3) := by decide +kernel
theorem dX8_refuseWrongMark_13 : decode cX8_refuseWrongMark 13 = .ok (.dup, 1) := by decide +kernel
theorem dX8_refuseWrongMark_14 : decode cX8_refuseWrongMark 14 = .ok (.ldc_w 289, 3) := by decide +kernel
theorem dX8_refuseWrongMark_17 : decode cX8_refuseWrongMark 17 = .ok (.invokespecial 284, 3) := by decide +kernel
theorem dX8_refuseWrongMark_20 : decode cX8_refuseWrongMark 20 = .ok (.athrow, 1) := by decide +kernel
theorem dX8_refuseWrongMark_21 : decode cX8_refuseWrongMark 21 = .ok (.return_, 1) := by decide +kernel
theorem dX8_refuseWrongOperation_0 : decode cX8_refuseWrongOperation 0 = .ok (.aload_n 0, 1) := by decide +kernel
theorem dX8_refuseWrongOperation_1 : decode cX8_refuseWrongOperation 1 = .ok (.getfield 19, 3) := by decide +kernel
theorem dX8_refuseWrongOperation_4 : decode cX8_refuseWrongOperation 4 = .ok (.iload_n 1, 1) := by decide +kernel
theorem dX8_refuseWrongOperation_5 : decode cX8_refuseWrongOperation 5 = .ok (.invokevirtual 171, 3) := by decide +kernel
theorem dX8_refuseWrongOperation_8 : decode cX8_refuseWrongOperation 8 = .ok (.ifCond .ne 14, 3) := by decide +kernel
theorem dX8_refuseWrongOperation_11 : decode cX8_refuseWrongOperation 11 = .ok (.new 280, 3) := by decide +kernel
theorem dX8_refuseWrongOperation_14 : decode cX8_refuseWrongOperation 14 = .ok (.dup, 1) := by decide +kernel
theorem dX8_refuseWrongOperation_15 : decode cX8_refuseWrongOperation 15 = .ok (.ldc_w 291, 3) := by decide +kernel
theorem dX8_refuseWrongOperation_18 : decode cX8_refuseWrongOperation 18 = .ok (.invokespecial 284, 3) := by decide +kernel
theorem dX8_refuseWrongOperation_21 : decode cX8_refuseWrongOperation 21 = .ok (.athrow, 1) := by decide +kernel
theorem dX8_refuseWrongOperation_22 : decode cX8_refuseWrongOperation 22 = .ok (.return_, 1) := by decide +kernel
theorem dX8_refuseWrongColor_0 : decode cX8_refuseWrongColor 0 = .ok (.iload_n 0, 1) := by decide +kernel
theorem dX8_refuseWrongColor_1 : decode cX8_refuseWrongColor 1 = .ok (.iconst 1, 1) := by decide +kernel
theorem dX8_refuseWrongColor_2 : decode cX8_refuseWrongColor 2 = .ok (.if_icmp .lt 9, 3) := by decide +kernel
theorem dX8_refuseWrongColor_5 : decode cX8_refuseWrongColor 5 = .ok (.iload_n 0, 1) := by decide +kernel
theorem dX8_refuseWrongColor_6 : decode cX8_refuseWrongColor 6 = .ok (.bipush 9, 2) := by decide +kernel
theorem dX8_refuseWrongColor_8 : decode cX8_refuseWrongColor 8 = .ok (.if_icmp .le 14, 3) := by decide +kernel
theorem dX8_refuseWrongColor_11 : decode cX8_refuseWrongColor 11 = .ok (.new 78, 3) := by decide +kernel
theorem dX8_refuseWrongColor_14 : decode cX8_refuseWrongColor 14 = .ok (.dup, 1) := by decide +kernel
theorem dX8_refuseWrongColor_15 : decode cX8_refuseWrongColor 15 = .ok (.ldc_w 293, 3) := by decide +kernel
theorem dX8_refuseWrongColor_18 : decode cX8_refuseWrongColor 18 = .ok (.invokespecial 82, 3) := by decide +kernel
theorem dX8_refuseWrongColor_21 : decode cX8_refuseWrongColor 21 = .ok (.athrow, 1) := by decide +kernel
theorem dX8_refuseWrongColor_22 : decode cX8_refuseWrongColor 22 = .ok (.return_, 1) := by decide +kernel
theorem dX8_refuseWrongPath_0 : decode cX8_refuseWrongPath 0 = .ok (.aload_n 0, 1) := by decide +kernel
theorem dX8_refuseWrongPath_1 : decode cX8_refuseWrongPath 1 = .ok (.getfield 10, 3) := by decide +kernel
theorem dX8_refuseWrongPath_4 : decode cX8_refuseWrongPath 4 = .ok (.invokevirtual 295, 3) := by decide +kernel
theorem dX8_refuseWrongPath_7 : decode cX8_refuseWrongPath 7 = .ok (.ifCond .ne 14, 3) := by decide +kernel
theorem dX8_refuseWrongPath_10 : decode cX8_refuseWrongPath 10 = .ok (.new 86, 3) := by decide +kernel
theorem dX8_refuseWrongPath_13 : decode cX8_refuseWrongPath 13 = .ok (.dup, 1) := by decide +kernel
theorem dX8_refuseWrongPath_14 : decode cX8_refuseWrongPath 14 = .ok (.ldc_w 299, 3) := by decide +kernel
theorem dX8_refuseWrongPath_17 : decode cX8_refuseWrongPath 17 = .ok (.invokespecial 90, 3) := by decide +kernel
theorem dX8_refuseWrongPath_20 : decode cX8_refuseWrongPath 20 = .ok (.athrow, 1) := by decide +kernel
theorem dX8_refuseWrongPath_21 : decode cX8_refuseWrongPath 21 = .ok (.return_, 1) := by decide +kernel
theorem dX8_refuseFullLog_0 : decode cX8_refuseFullLog 0 = .ok (.aload_n 0, 1) := by decide +kernel
theorem dX8_refuseFullLog_1 : decode cX8_refuseFullLog 1 = .ok (.getfield 19, 3) := by decide +kernel
theorem dX8_refuseFullLog_4 : decode cX8_refuseFullLog 4 = .ok (.getfield 65, 3) := by decide +kernel
theorem dX8_refuseFullLog_7 : decode cX8_refuseFullLog 7 = .ok (.bipush 60, 2) := by decide +kernel
theorem dX8_refuseFullLog_9 : decode cX8_refuseFullLog 9 = .ok (.if_icmp .lt 14, 3) := by decide +kernel
theorem dX8_refuseFullLog_12 : decode cX8_refuseFullLog 12 = .ok (.new 86, 3) := by decide +kernel
theorem dX8_refuseFullLog_15 : decode cX8_refuseFullLog 15 = .ok (.dup, 1) := by decide +kernel
theorem dX8_refuseFullLog_16 : decode cX8_refuseFullLog 16 = .ok (.ldc_w 301, 3) := by decide +kernel
theorem dX8_refuseFullLog_19 : decode cX8_refuseFullLog 19 = .ok (.invokespecial 90, 3) := by decide +kernel
theorem dX8_refuseFullLog_22 : decode cX8_refuseFullLog 22 = .ok (.athrow, 1) := by decide +kernel
theorem dX8_refuseFullLog_23 : decode cX8_refuseFullLog 23 = .ok (.return_, 1) := by decide +kernel
theorem dX8_refuseUnsetMark_0 : decode cX8_refuseUnsetMark 0 = .ok (.aload_n 0, 1) := by decide +kernel
theorem dX8_refuseUnsetMark_1 : decode cX8_refuseUnsetMark 1 = .ok (.getfield 32, 3) := by decide +kernel
theorem dX8_refuseUnsetMark_4 : decode cX8_refuseUnsetMark 4 = .ok (.iload_n 1, 1) := by decide +kernel
theorem dX8_refuseUnsetMark_5 : decode cX8_refuseUnsetMark 5 = .ok (.aaload, 1) := by decide +kernel
theorem dX8_refuseUnsetMark_6 : decode cX8_refuseUnsetMark 6 = .ok (.getfield 71, 3) := by decide +kernel
theorem dX8_refuseUnsetMark_9 : decode cX8_refuseUnsetMark 9 = .ok (.ifCond .ne 14, 3) := by decide +kernel
theorem dX8_refuseUnsetMark_12 : decode cX8_refuseUnsetMark 12 = .ok (.new 86, 3) := by decide +kernel
theorem dX8_refuseUnsetMark_15 : decode cX8_refuseUnsetMark 15 = .ok (.dup, 1) := by decide +kernel
theorem dX8_refuseUnsetMark_16 : decode cX8_refuseUnsetMark 16 = .ok (.ldc_w 303, 3) := by decide +kernel
theorem dX8_refuseUnsetMark_19 : decode cX8_refuseUnsetMark 19 = .ok (.invokespecial 90, 3) := by decide +kernel
theorem dX8_refuseUnsetMark_22 : decode cX8_refuseUnsetMark 22 = .ok (.athrow, 1) := by decide +kernel
theorem dX8_refuseUnsetMark_23 : decode cX8_refuseUnsetMark 23 = .ok (.return_, 1) := by decide +kernel
theorem dX8_showNow_0 : decode cX8_showNow 0 = .ok (.aload_n 0, 1) := by decide +kernel
theorem dX8_showNow_1 : decode cX8_showNow 1 = .ok (.getfield 39, 3) := by decide +kernel
theorem dX8_showNow_4 : decode cX8_showNow 4 = .ok (.aload_n 0, 1) := by decide +kernel
theorem dX8_showNow_5 : decode cX8_showNow 5 = .ok (.getfield 19, 3) := by decide +kernel
theorem dX8_showNow_8 : decode cX8_showNow 8 = .ok (.aload_n 0, 1) := by decide +kernel
theorem dX8_showNow_9 : decode cX8_showNow 9 = .ok (.getfield 60, 3) := by decide +kernel
theorem dX8_showNow_12 : decode cX8_showNow 12 = .ok (.iconst (-1), 1) := by decide +kernel
theorem dX8_showNow_13 : decode cX8_showNow 13 = .ok (.invokevirtual 244, 3) := by decide +kernel
theorem dX8_showNow_16 : decode cX8_showNow 16 = .ok (.return_, 1) := by decide +kernel
theorem dX8_takeCellsFromBuffer_0 : decode cX8_takeCellsFromBuffer 0 = .ok (.aload_n 0, 1) := by decide +kernel
theorem dX8_takeCellsFromBuffer_1 : decode cX8_takeCellsFromBuffer 1 = .ok (.getfield 10, 3) := by decide +kernel
theorem dX8_takeCellsFromBuffer_4 : decode cX8_takeCellsFromBuffer 4 = .ok (.aload_n 1, 1) := by decide +kernel
theorem dX8_takeCellsFromBuffer_5 : decode cX8_takeCellsFromBuffer 5 = .ok (.getfield 140, 3) := by decide +kernel
theorem dX8_takeCellsFromBuffer_8 : decode cX8_takeCellsFromBuffer 8 = .ok (.invokevirtual 305, 3) := by decide +kernel
theorem dX8_takeCellsFromBuffer_11 : decode cX8_takeCellsFromBuffer 11 = .ok (.aload_n 0, 1) := by decide +kernel
theorem dX8_takeCellsFromBuffer_12 : decode cX8_takeCellsFromBuffer 12 = .ok (.getfield 10, 3) := by decide +kernel
theorem dX8_takeCellsFromBuffer_15 : decode cX8_takeCellsFromBuffer 15 = .ok (.iconst 0, 1) := by decide +kernel
theorem dX8_takeCellsFromBuffer_16 : decode cX8_takeCellsFromBuffer 16 = .ok (.putfield 93, 3) := by decide +kernel
theorem dX8_takeCellsFromBuffer_19 : decode cX8_takeCellsFromBuffer 19 = .ok (.aload_n 0, 1) := by decide +kernel
theorem dX8_takeCellsFromBuffer_20 : decode cX8_takeCellsFromBuffer 20 = .ok (.aload_n 1, 1) := by decide +kernel
theorem dX8_takeCellsFromBuffer_21 : decode cX8_takeCellsFromBuffer 21 = .ok (.invokevirtual 165, 3) := by decide +kernel
theorem dX8_takeCellsFromBuffer_24 : decode cX8_takeCellsFromBuffer 24 = .ok (.return_, 1) := by decide +kernel
theorem dX8_leaveOutClosedCells_0 : decode cX8_leaveOutClosedCells 0 = .ok (.aload_n 0, 1) := by decide +kernel
theorem dX8_leaveOutClosedCells_1 : decode cX8_leaveOutClosedCells 1 = .ok (.getfield 26, 3) := by decide +kernel
theorem dX8_leaveOutClosedCells_4 : decode cX8_leaveOutClosedCells 4 = .ok (.aload_n 1, 1) := by decide +kernel
theorem dX8_leaveOutClosedCells_5 : decode cX8_leaveOutClosedCells 5 = .ok (.getfield 309, 3) := by decide +kernel
theorem dX8_leaveOutClosedCells_8 : decode cX8_leaveOutClosedCells 8 = .ok (.aload_n 0, 1) := by decide +kernel
theorem dX8_leaveOutClosedCells_9 : decode cX8_leaveOutClosedCells 9 = .ok (.getfield 60, 3) := by decide +kernel
theorem dX8_leaveOutClosedCells_12 : decode cX8_leaveOutClosedCells 12 = .ok (.aload_n 0, 1) := by decide +kernel
theorem dX8_leaveOutClosedCells_13 : decode cX8_leaveOutClosedCells 13 = .ok (.getfield 56, 3) := by decide +kernel
theorem dX8_leaveOutClosedCells_16 : decode cX8_leaveOutClosedCells 16 = .ok (.invokevirtual 190, 3) := by decide +kernel
theorem dX8_leaveOutClosedCells_19 : decode cX8_leaveOutClosedCells 19 = .ok (.aload_n 1, 1) := by decide +kernel
theorem dX8_leaveOutClosedCells_20 : decode cX8_leaveOutClosedCells 20 = .ok (.getfield 140, 3) := by decide +kernel
theorem dX8_leaveOutClosedCells_23 : decode cX8_leaveOutClosedCells 23 = .ok (.aload_n 0, 1) := by decide +kernel
theorem dX8_leaveOutClosedCells_24 : decode cX8_leaveOutClosedCells 24 = .ok (.getfield 56, 3) := by decide +kernel
theorem dX8_leaveOutClosedCells_27 : decode cX8_leaveOutClosedCells 27 = .ok (.invokevirtual 312, 3) := by decide +kernel
theorem dX8_leaveOutClosedCells_30 : decode cX8_leaveOutClosedCells 30 = .ok (.return_, 1) := by decide +kernel
theorem dX8_changedBySwitching_0 : decode cX8_changedBySwitching 0 = .ok (.aload_n 0, 1) := by decide +kernel
theorem dX8_changedBySwitching_1 : decode cX8_changedBySwitching 1 = .ok (.getfield 43, 3) := by decide +kernel
theorem dX8_changedBySwitching_4 : decode cX8_changedBySwitching 4 = .ok (.aload_n 0, 1) := by decide +kernel
theorem dX8_changedBySwitching_5 : decode cX8_changedBySwitching 5 = .ok (.getfield 19, 3) := by decide +kernel
theorem dX8_changedBySwitching_8 : decode cX8_changedBySwitching 8 = .ok (.aload_n 0, 1) := by decide +kernel
theorem dX8_changedBySwitching_9 : decode cX8_changedBySwitching 9 = .ok (.getfield 60, 3) := by decide +kernel
theorem dX8_changedBySwitching_12 : decode cX8_changedBySwitching 12 = .ok (.iload_n 1, 1) := by decide +kernel
theorem dX8_changedBySwitching_13 : decode cX8_changedBySwitching 13 = .ok (.invokevirtual 244, 3) := by decide +kernel
theorem dX8_changedBySwitching_16 : decode cX8_changedBySwitching 16 = .ok (.aload_n 0, 1) := by decide +kernel
theorem dX8_changedBySwitching_17 : decode cX8_changedBySwitching 17 = .ok (.getfield 39, 3) := by decide +kernel
theorem dX8_changedBySwitching_20 : decode cX8_changedBySwitching 20 = .ok (.getfield 154, 3) := by decide +kernel
theorem dX8_changedBySwitching_23 : decode cX8_changedBySwitching 23 = .ok (.aload_n 0, 1) := by decide +kernel
theorem dX8_changedBySwitching_24 : decode cX8_changedBySwitching 24 = .ok (.getfield 43, 3) := by decide +kernel
theorem dX8_changedBySwitching_27 : decode cX8_changedBySwitching 27 = .ok (.getfield 154, 3) := by decide +kernel
theorem dX8_changedBySwitching_30 : decode cX8_changedBySwitching 30 = .ok (.invokestatic 233, 3) := by decide +kernel
theorem dX8_changedBySwitching_33 : decode cX8_changedBySwitching 33 = .ok (.ireturn, 1) := by decide +kernel
theorem dX8_changedCells_0 : decode cX8_changedCells 0 = .ok (.iconst 0, 1) := by decide +kernel
theorem dX8_changedCells_1 : decode cX8_changedCells 1 = .ok (.istore_n 2, 1) := by decide +kernel
theorem dX8_changedCells_2 : decode cX8_changedCells 2 = .ok (.iconst 0, 1) := by decide +kernel
theorem dX8_changedCells_3 : decode cX8_changedCells 3 = .ok (.istore_n 3, 1) := by decide +kernel
theorem dX8_changedCells_4 : decode cX8_changedCells 4 = .ok (.iload_n 3, 1) := by decide +kernel
theorem dX8_changedCells_5 : decode cX8_changedCells 5 = .ok (.sipush 256, 3) := by decide +kernel
theorem dX8_changedCells_8 : decode cX8_changedCells 8 = .ok (.if_icmp .ge 21, 3) := by decide +kernel
theorem dX8_changedCells_11 : decode cX8_changedCells 11 = .ok (.aload_n 0, 1) := by decide +kernel
theorem dX8_changedCells_12 : decode cX8_changedCells 12 = .ok (.iload_n 3, 1) := by decide +kernel
theorem dX8_changedCells_13 : decode cX8_changedCells 13 = .ok (.iaload, 1) := by decide +kernel
theorem dX8_changedCells_14 : decode cX8_changedCells 14 = .ok (.aload_n 1, 1) := by decide +kernel
theorem dX8_changedCells_15 : decode cX8_changedCells 15 = .ok (.iload_n 3, 1) := by decide +kernel
theorem dX8_changedCells_16 : decode cX8_changedCells 16 = .ok (.iaload, 1) := by decide +kernel
theorem dX8_changedCells_17 : decode cX8_changedCells 17 = .ok (.if_icmp .eq 6, 3) := by decide +kernel
theorem dX8_changedCells_20 : decode cX8_changedCells 20 = .ok (.iinc 2 1, 3) := by decide +kernel
theorem dX8_changedCells_23 : decode cX8_changedCells 23 = .ok (.iinc 3 1, 3) := by decide +kernel
theorem dX8_changedCells_26 : decode cX8_changedCells 26 = .ok (.goto (-22), 3) := by decide +kernel
theorem dX8_changedCells_29 : decode cX8_changedCells 29 = .ok (.iload_n 2, 1) := by decide +kernel
theorem dX8_changedCells_30 : decode cX8_changedCells 30 = .ok (.ireturn, 1) := by decide +kernel
theorem dX8_boardProperty_0 : decode cX8_boardProperty 0 = .ok (.iload_n 1, 1) := by decide +kernel
theorem dX8_boardProperty_1 : decode cX8_boardProperty 1 = .ok (.tableswitch 142 0 8 #[51, 56, 64, 72, 80, 85, 97, 121, 126], 51) := by decide +kernel
theorem dX8_boardProperty_52 : decode cX8_boardProperty 52 = .ok (.aload_n 0, 1) := by decide +kernel
theorem dX8_boardProperty_53 : decode cX8_boardProperty 53 = .ok (.getfield 60, 3) := by decide +kernel
theorem dX8_boardProperty_56 : decode cX8_boardProperty 56 = .ok (.ireturn, 1) := by decide +kernel
theorem dX8_boardProperty_57 : decode cX8_boardProperty 57 = .ok (.aload_n 0, 1) := by decide +kernel
theorem dX8_boardProperty_58 : decode cX8_boardProperty 58 = .ok (.getfield 19, 3) := by decide +kernel
theorem dX8_boardProperty_61 : decode cX8_boardProperty 61 = .ok (.getfield 65, 3) := by decide +kernel
theorem dX8_boardProperty_64 : decode cX8_boardProperty 64 = .ok (.ireturn, 1) := by decide +kernel
theorem dX8_boardProperty_65 : decode cX8_boardProperty 65 = .ok (.aload_n 0, 1) := by decide +kernel
theorem dX8_boardProperty_66 : decode cX8_boardProperty 66 = .ok (.getfield 19, 3) := by decide +kernel
theorem dX8_boardProperty_69 : decode cX8_boardProperty 69 = .ok (.invokevirtual 315, 3) := by decide +kernel
theorem dX8_boardProperty_72 : decode cX8_boardProperty 72 = .ok (.ireturn, 1) := by decide +kernel
theorem dX8_boardProperty_73 : decode cX8_boardProperty 73 = .ok (.aload_n 0, 1) := by decide +kernel
theorem dX8_boardProperty_74 : decode cX8_boardProperty 74 = .ok (.getfield 39, 3) := by decide +kernel
theorem dX8_boardProperty_77 : decode cX8_boardProperty 77 = .ok (.invokevirtual 318, 3) := by decide +kernel
theorem dX8_boardProperty_80 : decode cX8_boardProperty 80 = .ok (.ireturn, 1) := by decide +kernel
theorem dX8_boardProperty_81 : decode cX8_boardProperty 81 = .ok (.aload_n 0, 1) := by decide +kernel
theorem dX8_boardProperty_82 : decode cX8_boardProperty 82 = .ok (.invokevirtual 321, 3) := by decide +kernel
theorem dX8_boardProperty_85 : decode cX8_boardProperty 85 = .ok (.ireturn, 1) := by decide +kernel
theorem dX8_boardProperty_86 : decode cX8_boardProperty 86 = .ok (.aload_n 0, 1) := by decide +kernel
theorem dX8_boardProperty_87 : decode cX8_boardProperty 87 = .ok (.getfield 26, 3) := by decide +kernel
theorem dX8_boardProperty_90 : decode cX8_boardProperty 90 = .ok (.aload_n 0, 1) := by decide +kernel
theorem dX8_boardProperty_91 : decode cX8_boardProperty 91 = .ok (.getfield 60, 3) := by decide +kernel
theorem dX8_boardProperty_94 : decode cX8_boardProperty 94 = .ok (.invokevirtual 212, 3) := by decide +kernel
theorem dX8_boardProperty_97 : decode cX8_boardProperty 97 = .ok (.ireturn, 1) := by decide +kernel
theorem dX8_boardProperty_98 : decode cX8_boardProperty 98 = .ok (.aload_n 0, 1) := by decide +kernel
theorem dX8_boardProperty_99 : decode cX8_boardProperty 99 = .ok (.getfield 26, 3) := by decide +kernel
theorem dX8_boardProperty_102 : decode cX8_boardProperty 102 = .ok (.iconst (-1), 1) := by decide +kernel
theorem dX8_boardProperty_103 : decode cX8_boardProperty 103 = .ok (.aload_n 0, 1) := by decide +kernel
theorem dX8_boardProperty_104 : decode cX8_boardProperty 104 = .ok (.getfield 60, 3) := by decide +kernel
theorem dX8_boardProperty_107 : decode cX8_boardProperty 107 = .ok (.aload_n 0, 1) := by decide +kernel
theorem dX8_boardProperty_108 : decode cX8_boardProperty 108 = .ok (.getfield 56, 3) := by decide +kernel
theorem dX8_boardProperty_111 : decode cX8_boardProperty 111 = .ok (.invokevirtual 190, 3) := by decide +kernel
theorem dX8_boardProperty_114 : decode cX8_boardProperty 114 = .ok (.aload_n 0, 1) := by decide +kernel
theorem dX8_boardProperty_115 : decode cX8_boardProperty 115 = .ok (.getfield 56, 3) := by decide +kernel
theorem dX8_boardProperty_118 : decode cX8_boardProperty 118 = .ok (.invokevirtual 143, 3) := by decide +kernel
theorem dX8_boardProperty_121 : decode cX8_boardProperty 121 = .ok (.ireturn, 1) := by decide +kernel
theorem dX8_boardProperty_122 : decode cX8_boardProperty 122 = .ok (.aload_n 0, 1) := by decide +kernel
theorem dX8_boardProperty_123 : decode cX8_boardProperty 123 = .ok (.invokevirtual 324, 3) := by decide +kernel
theorem dX8_boardProperty_126 : decode cX8_boardProperty 126 = .ok (.ireturn, 1) := by decide +kernel
theorem dX8_boardProperty_127 : decode cX8_boardProperty 127 = .ok (.aload_n 0, 1) := by decide +kernel
theorem dX8_boardProperty_128 : decode cX8_boardProperty 128 = .ok (.getfield 39, 3) := by decide +kernel
theorem dX8_boardProperty_131 : decode cX8_boardProperty 131 = .ok (.aload_n 0, 1) := by decide +kernel
theorem dX8_boardProperty_132 : decode cX8_boardProperty 132 = .ok (.getfield 19, 3) := by decide +kernel
theorem dX8_boardProperty_135 : decode cX8_boardProperty 135 = .ok (.aload_n 0, 1) := by decide +kernel
theorem dX8_boardProperty_136 : decode cX8_boardProperty 136 = .ok (.getfield 60, 3) := by decide +kernel
theorem dX8_boardProperty_139 : decode cX8_boardProperty 139 = .ok (.invokevirtual 327, 3) := by decide +kernel
theorem dX8_boardProperty_142 : decode cX8_boardProperty 142 = .ok (.ireturn, 1) := by decide +kernel
theorem dX8_boardProperty_143 : decode cX8_boardProperty 143 = .ok (.aload_n 0, 1) := by decide +kernel
theorem dX8_boardProperty_144 : decode cX8_boardProperty 144 = .ok (.invokevirtual 331, 3) := by decide +kernel
theorem dX8_boardProperty_147 : decode cX8_boardProperty 147 = .ok (.ireturn, 1) := by decide +kernel
theorem dX8_differentColors_0 : decode cX8_differentColors 0 = .ok (.iconst 0, 1) := by decide +kernel
theorem dX8_differentColors_1 : decode cX8_differentColors 1 = .ok (.istore_n 1, 1) := by decide +kernel
theorem dX8_differentColors_2 : decode cX8_differentColors 2 = .ok (.iconst 1, 1) := by decide +kernel
theorem dX8_differentColors_3 : decode cX8_differentColors 3 = .ok (.istore_n 2, 1) := by decide +kernel
theorem dX8_differentColors_4 : decode cX8_differentColors 4 = .ok (.iload_n 2, 1) := by decide +kernel
theorem dX8_differentColors_5 : decode cX8_differentColors 5 = .ok (.bipush 9, 2) := by decide +kernel
theorem dX8_differentColors_7 : decode cX8_differentColors 7 = .ok (.if_icmp .gt 34, 3) := by decide +kernel
theorem dX8_differentColors_10 : decode cX8_differentColors 10 = .ok (.aload_n 0, 1) := by decide +kernel
theorem dX8_differentColors_11 : decode cX8_differentColors 11 = .ok (.getfield 39, 3) := by decide +kernel
theorem dX8_differentColors_14 : decode cX8_differentColors 14 = .ok (.iload_n 2, 1) := by decide +kernel
theorem dX8_differentColors_15 : decode cX8_differentColors 15 = .ok (.aload_n 0, 1) := by decide +kernel
theorem dX8_differentColors_16 : decode cX8_differentColors 16 = .ok (.getfield 56, 3) := by decide +kernel
theorem dX8_differentColors_19 : decode cX8_differentColors 19 = .ok (.invokevirtual 157, 3) := by decide +kernel
theorem dX8_differentColors_22 : decode cX8_differentColors 22 = .ok (.aload_n 0, 1) := by decide +kernel
theorem dX8_differentColors_23 : decode cX8_differentColors 23 = .ok (.getfield 56, 3) := by decide +kernel
theorem dX8_differentColors_26 : decode cX8_differentColors 26 = .ok (.invokevirtual 143, 3) := by decide +kernel
theorem dX8_differentColors_29 : decode cX8_differentColors 29 = .ok (.ifCond .le 6, 3) := by decide +kernel
theorem dX8_differentColors_32 : decode cX8_differentColors 32 = .ok (.iinc 1 1, 3) := by decide +kernel
theorem dX8_differentColors_35 : decode cX8_differentColors 35 = .ok (.iinc 2 1, 3) := by decide +kernel
theorem dX8_differentColors_38 : decode cX8_differentColors 38 = .ok (.goto (-34), 3) := by decide +kernel
theorem dX8_differentColors_41 : decode cX8_differentColors 41 = .ok (.iload_n 1, 1) := by decide +kernel
theorem dX8_differentColors_42 : decode cX8_differentColors 42 = .ok (.ireturn, 1) := by decide +kernel
theorem dX8_marksSet_0 : decode cX8_marksSet 0 = .ok (.iconst 0, 1) := by decide +kernel
theorem dX8_marksSet_1 : decode cX8_marksSet 1 = .ok (.istore_n 1, 1) := by decide +kernel
theorem dX8_marksSet_2 : decode cX8_marksSet 2 = .ok (.iconst 0, 1) := by decide +kernel
theorem dX8_marksSet_3 : decode cX8_marksSet 3 = .ok (.istore_n 2, 1) := by decide +kernel
theorem dX8_marksSet_4 : decode cX8_marksSet 4 = .ok (.iload_n 2, 1) := by decide +kernel
theorem dX8_marksSet_5 : decode cX8_marksSet 5 = .ok (.bipush 6, 2) := by decide +kernel
theorem dX8_marksSet_7 : decode cX8_marksSet 7 = .ok (.if_icmp .ge 24, 3) := by decide +kernel
theorem dX8_marksSet_10 : decode cX8_marksSet 10 = .ok (.aload_n 0, 1) := by decide +kernel
theorem dX8_marksSet_11 : decode cX8_marksSet 11 = .ok (.getfield 32, 3) := by decide +kernel
theorem dX8_marksSet_14 : decode cX8_marksSet 14 = .ok (.iload_n 2, 1) := by decide +kernel
theorem dX8_marksSet_15 : decode cX8_marksSet 15 = .ok (.aaload, 1) := by decide +kernel
theorem dX8_marksSet_16 : decode cX8_marksSet 16 = .ok (.getfield 71, 3) := by decide +kernel
theorem dX8_marksSet_19 : decode cX8_marksSet 19 = .ok (.ifCond .eq 6, 3) := by decide +kernel
theorem dX8_marksSet_22 : decode cX8_marksSet 22 = .ok (.iinc 1 1, 3) := by decide +kernel
theorem dX8_marksSet_25 : decode cX8_marksSet 25 = .ok (.iinc 2 1, 3) := by decide +kernel
theorem dX8_marksSet_28 : decode cX8_marksSet 28 = .ok (.goto (-24), 3) := by decide +kernel
theorem dX8_marksSet_31 : decode cX8_marksSet 31 = .ok (.iload_n 1, 1) := by decide +kernel
theorem dX8_marksSet_32 : decode cX8_marksSet 32 = .ok (.ireturn, 1) := by decide +kernel
theorem dX8_colorRegions_0 : decode cX8_colorRegions 0 = .ok (.iconst 0, 1) := by decide +kernel
theorem dX8_colorRegions_1 : decode cX8_colorRegions 1 = .ok (.istore_n 1, 1) := by decide +kernel
theorem dX8_colorRegions_2 : decode cX8_colorRegions 2 = .ok (.iconst 0, 1) := by decide +kernel
theorem dX8_colorRegions_3 : decode cX8_colorRegions 3 = .ok (.istore_n 2, 1) := by decide +kernel
theorem dX8_colorRegions_4 : decode cX8_colorRegions 4 = .ok (.iload_n 2, 1) := by decide +kernel
theorem dX8_colorRegions_5 : decode cX8_colorRegions 5 = .ok (.bipush 9, 2) := by decide +kernel
theorem dX8_colorRegions_7 : decode cX8_colorRegions 7 = .ok (.if_icmp .gt 36, 3) := by decide +kernel
theorem dX8_colorRegions_10 : decode cX8_colorRegions 10 = .ok (.aload_n 0, 1) := by decide +kernel
theorem dX8_colorRegions_11 : decode cX8_colorRegions 11 = .ok (.getfield 39, 3) := by decide +kernel
theorem dX8_colorRegions_14 : decode cX8_colorRegions 14 = .ok (.iload_n 2, 1) := by decide +kernel
theorem dX8_colorRegions_15 : decode cX8_colorRegions 15 = .ok (.aload_n 0, 1) := by decide +kernel
theorem dX8_colorRegions_16 : decode cX8_colorRegions 16 = .ok (.getfield 56, 3) := by decide +kernel
theorem dX8_colorRegions_19 : decode cX8_colorRegions 19 = .ok (.invokevirtual 157, 3) := by decide +kernel
theorem dX8_colorRegions_22 : decode cX8_colorRegions 22 = .ok (.iload_n 1, 1) := by decide +kernel
theorem dX8_colorRegions_23 : decode cX8_colorRegions 23 = .ok (.aload_n 0, 1) := by decide +kernel
theorem dX8_colorRegions_24 : decode cX8_colorRegions 24 = .ok (.getfield 49, 3) := by decide +kernel
theorem dX8_colorRegions_27 : decode cX8_colorRegions 27 = .ok (.aload_n 0, 1) := by decide +kernel
theorem dX8_colorRegions_28 : decode cX8_colorRegions 28 = .ok (.getfield 56, 3) := by decide +kernel
theorem dX8_colorRegions_31 : decode cX8_colorRegions 31 = .ok (.iconst 0, 1) := by decide +kernel
theorem dX8_colorRegions_32 : decode cX8_colorRegions 32 = .ok (.invokevirtual 334, 3) := by decide +kernel
theorem dX8_colorRegions_35 : decode cX8_colorRegions 35 = .ok (.iadd, 1) := by decide +kernel
theorem dX8_colorRegions_36 : decode cX8_colorRegions 36 = .ok (.istore_n 1, 1) := by decide +kernel
theorem dX8_colorRegions_37 : decode cX8_colorRegions 37 = .ok (.iinc 2 1, 3) := by decide +kernel
theorem dX8_colorRegions_40 : decode cX8_colorRegions 40 = .ok (.goto (-36), 3) := by decide +kernel
theorem dX8_colorRegions_43 : decode cX8_colorRegions 43 = .ok (.iload_n 1, 1) := by decide +kernel
theorem dX8_colorRegions_44 : decode cX8_colorRegions 44 = .ok (.ireturn, 1) := by decide +kernel
theorem dX8_operationProperty_0 : decode cX8_operationProperty 0 = .ok (.aload_n 0, 1) := by decide +kernel
theorem dX8_operationProperty_1 : decode cX8_operationProperty 1 = .ok (.getfield 19, 3) := by decide +kernel
theorem dX8_operationProperty_4 : decode cX8_operationProperty 4 = .ok (.getfield 269, 3) := by decide +kernel
theorem dX8_operationProperty_7 : decode cX8_operationProperty 7 = .ok (.iload_n 1, 1) := by decide +kernel
theorem dX8_operationProperty_8 : decode cX8_operationProperty 8 = .ok (.aaload, 1) := by decide +kernel
theorem dX8_operationProperty_9 : decode cX8_operationProperty 9 = .ok (.astore_n 3, 1) := by decide +kernel
theorem dX8_operationProperty_10 : decode cX8_operationProperty 10 = .ok (.iload_n 2, 1) := by decide +kernel
theorem dX8_operationProperty_11 : decode cX8_operationProperty 11 = .ok (.tableswitch 140 0 9 #[53, 58, 63, 68, 73, 78, 91, 99, 112, 130], 53) := by decide +kernel
theorem dX8_operationProperty_64 : decode cX8_operationProperty 64 = .ok (.aload_n 3, 1) := by decide +kernel
theorem dX8_operationProperty_65 : decode cX8_operationProperty 65 = .ok (.getfield 338, 3) := by decide +kernel
theorem dX8_operationProperty_68 : decode cX8_operationProperty 68 = .ok (.ireturn, 1) := by decide +kernel
theorem dX8_operationProperty_69 : decode cX8_operationProperty 69 = .ok (.aload_n 3, 1) := by decide +kernel
theorem dX8_operationProperty_70 : decode cX8_operationProperty 70 = .ok (.getfield 309, 3) := by decide +kernel
theorem dX8_operationProperty_73 : decode cX8_operationProperty 73 = .ok (.ireturn, 1) := by decide +kernel
theorem dX8_operationProperty_74 : decode cX8_operationProperty 74 = .ok (.aload_n 3, 1) := by decide +kernel
theorem dX8_operationProperty_75 : decode cX8_operationProperty 75 = .ok (.getfield 341, 3) := by decide +kernel
theorem dX8_operationProperty_78 : decode cX8_operationProperty 78 = .ok (.ireturn, 1) := by decide +kernel
theorem dX8_operationProperty_79 : decode cX8_operationProperty 79 = .ok (.aload_n 3, 1) := by decide +kernel
theorem dX8_operationProperty_80 : decode cX8_operationProperty 80 = .ok (.getfield 128, 3) := by decide +kernel
theorem dX8_operationProperty_83 : decode cX8_operationProperty 83 = .ok (.ireturn, 1) := by decide +kernel
theorem dX8_operationProperty_84 : decode cX8_operationProperty 84 = .ok (.aload_n 3, 1) := by decide +kernel
theorem dX8_operationProperty_85 : decode cX8_operationProperty 85 = .ok (.getfield 344, 3) := by decide +kernel
theorem dX8_operationProperty_88 : decode cX8_operationProperty 88 = .ok (.ireturn, 1) := by decide +kernel
theorem dX8_operationProperty_89 : decode cX8_operationProperty 89 = .ok (.aload_n 3, 1) := by decide +kernel
theorem dX8_operationProperty_90 : decode cX8_operationProperty 90 = .ok (.getfield 347, 3) := by decide +kernel
theorem dX8_operationProperty_93 : decode cX8_operationProperty 93 = .ok (.ifCond .eq 7, 3) := by decide +kernel
theorem dX8_operationProperty_96 : decode cX8_operationProperty 96 = .ok (.iconst 1, 1) := by decide +kernel
theorem dX8_operationProperty_97 : decode cX8_operationProperty 97 = .ok (.goto 4, 3) := by decide +kernel
theorem dX8_operationProperty_100 : decode cX8_operationProperty 100 = .ok (.iconst 0, 1) := by decide +kernel
theorem dX8_operationProperty_101 : decode cX8_operationProperty 101 = .ok (.ireturn, 1) := by decide +kernel
theorem dX8_operationProperty_102 : decode cX8_operationProperty 102 = .ok (.aload_n 3, 1) := by decide +kernel
theorem dX8_operationProperty_103 : decode cX8_operationProperty 103 = .ok (.getfield 140, 3) := by decide +kernel
theorem dX8_operationProperty_106 : decode cX8_operationProperty 106 = .ok (.invokevirtual 143, 3) := by decide +kernel
theorem dX8_operationProperty_109 : decode cX8_operationProperty 109 = .ok (.ireturn, 1) := by decide +kernel
theorem dX8_operationProperty_110 : decode cX8_operationProperty 110 = .ok (.aload_n 0, 1) := by decide +kernel
theorem dX8_operationProperty_111 : decode cX8_operationProperty 111 = .ok (.getfield 39, 3) := by decide +kernel
theorem dX8_operationProperty_114 : decode cX8_operationProperty 114 = .ok (.getfield 350, 3) := by decide +kernel
theorem dX8_operationProperty_117 : decode cX8_operationProperty 117 = .ok (.iload_n 1, 1) := by decide +kernel
theorem dX8_operationProperty_118 : decode cX8_operationProperty 118 = .ok (.aaload, 1) := by decide +kernel
theorem dX8_operationProperty_119 : decode cX8_operationProperty 119 = .ok (.invokevirtual 143, 3) := by decide +kernel
theorem dX8_operationProperty_122 : decode cX8_operationProperty 122 = .ok (.ireturn, 1) := by decide +kernel
theorem dX8_operationProperty_123 : decode cX8_operationProperty 123 = .ok (.aload_n 0, 1) := by decide +kernel
theorem dX8_operationProperty_124 : decode cX8_operationProperty 124 = .ok (.getfield 49, 3) := by decide +kernel
theorem dX8_operationProperty_127 : decode cX8_operationProperty 127 = .ok (.aload_n 0, 1) := by decide +kernel
theorem dX8_operationProperty_128 : decode cX8_operationProperty 128 = .ok (.getfield 39, 3) := by decide +kernel
theorem dX8_operationProperty_131 : decode cX8_operationProperty 131 = .ok (.getfield 350, 3) := by decide +kernel
theorem dX8_operationProperty_134 : decode cX8_operationProperty 134 = .ok (.iload_n 1, 1) := by decide +kernel
theorem dX8_operationProperty_135 : decode cX8_operationProperty 135 = .ok (.aaload, 1) := by decide +kernel
theorem dX8_operationProperty_136 : decode cX8_operationProperty 136 = .ok (.iconst 1, 1) := by decide +kernel
theorem dX8_operationProperty_137 : decode cX8_operationProperty 137 = .ok (.invokevirtual 334, 3) := by decide +kernel
theorem dX8_operationProperty_140 : decode cX8_operationProperty 140 = .ok (.ireturn, 1) := by decide +kernel
theorem dX8_operationProperty_141 : decode cX8_operationProperty 141 = .ok (.aload_n 0, 1) := by decide +kernel
theorem dX8_operationProperty_142 : decode cX8_operationProperty 142 = .ok (.getfield 39, 3) := by decide +kernel
theorem dX8_operationProperty_145 : decode cX8_operationProperty 145 = .ok (.getfield 353, 3) := by decide +kernel
theorem dX8_operationProperty_148 : decode cX8_operationProperty 148 = .ok (.iload_n 1, 1) := by decide +kernel
theorem dX8_operationProperty_149 : decode cX8_operationProperty 149 = .ok (.iaload, 1) := by decide +kernel
theorem dX8_operationProperty_150 : decode cX8_operationProperty 150 = .ok (.ireturn, 1) := by decide +kernel
theorem dX8_operationProperty_151 : decode cX8_operationProperty 151 = .ok (.aload_n 3, 1) := by decide +kernel
theorem dX8_operationProperty_152 : decode cX8_operationProperty 152 = .ok (.aload_n 0, 1) := by decide +kernel
theorem dX8_operationProperty_153 : decode cX8_operationProperty 153 = .ok (.getfield 60, 3) := by decide +kernel
theorem dX8_operationProperty_156 : decode cX8_operationProperty 156 = .ok (.invokevirtual 273, 3) := by decide +kernel
theorem dX8_operationProperty_159 : decode cX8_operationProperty 159 = .ok (.ireturn, 1) := by decide +kernel
theorem dX8_userProperty_0 : decode cX8_userProperty 0 = .ok (.iload_n 2, 1) := by decide +kernel
theorem dX8_userProperty_1 : decode cX8_userProperty 1 = .ok (.tableswitch 64 0 3 #[31, 40, 49, 58], 31) := by decide +kernel
theorem dX8_userProperty_32 : decode cX8_userProperty 32 = .ok (.aload_n 0, 1) := by decide +kernel
theorem dX8_userProperty_33 : decode cX8_userProperty 33 = .ok (.getfield 19, 3) := by decide +kernel
theorem dX8_userProperty_36 : decode cX8_userProperty 36 = .ok (.iload_n 1, 1) := by decide +kernel
theorem dX8_userProperty_37 : decode cX8_userProperty 37 = .ok (.invokevirtual 356, 3) := by decide +kernel
theorem dX8_userProperty_40 : decode cX8_userProperty 40 = .ok (.ireturn, 1) := by decide +kernel
theorem dX8_userProperty_41 : decode cX8_userProperty 41 = .ok (.aload_n 0, 1) := by decide +kernel
theorem dX8_userProperty_42 : decode cX8_userProperty 42 = .ok (.getfield 19, 3) := by decide +kernel
theorem dX8_userProperty_45 : decode cX8_userProperty 45 = .ok (.iload_n 1, 1) := by decide +kernel
theorem dX8_userProperty_46 : decode cX8_userProperty 46 = .ok (.invokevirtual 359, 3) := by decide +kernel
theorem dX8_userProperty_49 : decode cX8_userProperty 49 = .ok (.ireturn, 1) := by decide +kernel
theorem dX8_userProperty_50 : decode cX8_userProperty 50 = .ok (.aload_n 0, 1) := by decide +kernel
theorem dX8_userProperty_51 : decode cX8_userProperty 51 = .ok (.getfield 19, 3) := by decide +kernel
theorem dX8_userProperty_54 : decode cX8_userProperty 54 = .ok (.iload_n 1, 1) := by decide +kernel
theorem dX8_userProperty_55 : decode cX8_userProperty 55 = .ok (.invokevirtual 362, 3) := by decide +kernel
theorem dX8_userProperty_58 : decode cX8_userProperty 58 = .ok (.ireturn, 1) := by decide +kernel
theorem dX8_userProperty_59 : decode cX8_userProperty 59 = .ok (.aload_n 0, 1) := by decide +kernel
theorem dX8_userProperty_60 : decode cX8_userProperty 60 = .ok (.iload_n 1, 1) := by decide +kernel
theorem dX8_userProperty_61 : decode cX8_userProperty 61 = .ok (.invokevirtual 365, 3) := by decide +kernel
theorem dX8_userProperty_64 : decode cX8_userProperty 64 = .ok (.ireturn, 1) := by decide +kernel
theorem dX8_userProperty_65 : decode cX8_userProperty 65 = .ok (.aload_n 0, 1) := by decide +kernel
theorem dX8_userProperty_66 : decode cX8_userProperty 66 = .ok (.getfield 26, 3) := by decide +kernel
theorem dX8_userProperty_69 : decode cX8_userProperty 69 = .ok (.iload_n 1, 1) := by decide +kernel
theorem dX8_userProperty_70 : decode cX8_userProperty 70 = .ok (.aload_n 0, 1) := by decide +kernel
theorem dX8_userProperty_71 : decode cX8_userProperty 71 = .ok (.getfield 60, 3) := by decide +kernel
theorem dX8_userProperty_74 : decode cX8_userProperty 74 = .ok (.invokevirtual 368, 3) := by decide +kernel
theorem dX8_userProperty_77 : decode cX8_userProperty 77 = .ok (.ireturn, 1) := by decide +kernel
theorem dX8_cellsOf_0 : decode cX8_cellsOf 0 = .ok (.iconst 0, 1) := by decide +kernel
theorem dX8_cellsOf_1 : decode cX8_cellsOf 1 = .ok (.istore_n 2, 1) := by decide +kernel
theorem dX8_cellsOf_2 : decode cX8_cellsOf 2 = .ok (.iconst 0, 1) := by decide +kernel
theorem dX8_cellsOf_3 : decode cX8_cellsOf 3 = .ok (.istore_n 3, 1) := by decide +kernel
theorem dX8_cellsOf_4 : decode cX8_cellsOf 4 = .ok (.iload_n 3, 1) := by decide +kernel
theorem dX8_cellsOf_5 : decode cX8_cellsOf 5 = .ok (.aload_n 0, 1) := by decide +kernel
theorem dX8_cellsOf_6 : decode cX8_cellsOf 6 = .ok (.getfield 19, 3) := by decide +kernel
theorem dX8_cellsOf_9 : decode cX8_cellsOf 9 = .ok (.getfield 65, 3) := by decide +kernel
theorem dX8_cellsOf_12 : decode cX8_cellsOf 12 = .ok (.if_icmp .ge 37, 3) := by decide +kernel
theorem dX8_cellsOf_15 : decode cX8_cellsOf 15 = .ok (.aload_n 0, 1) := by decide +kernel
theorem dX8_cellsOf_16 : decode cX8_cellsOf 16 = .ok (.getfield 19, 3) := by decide +kernel
theorem dX8_cellsOf_19 : decode cX8_cellsOf 19 = .ok (.getfield 269, 3) := by decide +kernel
theorem dX8_cellsOf_22 : decode cX8_cellsOf 22 = .ok (.iload_n 3, 1) := by decide +kernel
theorem dX8_cellsOf_23 : decode cX8_cellsOf 23 = .ok (.aaload, 1) := by decide +kernel
theorem dX8_cellsOf_24 : decode cX8_cellsOf 24 = .ok (.getfield 309, 3) := by decide +kernel
theorem dX8_cellsOf_27 : decode cX8_cellsOf 27 = .ok (.iload_n 1, 1) := by decide +kernel
theorem dX8_cellsOf_28 : decode cX8_cellsOf 28 = .ok (.if_icmp .ne 15, 3) := by decide +kernel
theorem dX8_cellsOf_31 : decode cX8_cellsOf 31 = .ok (.iload_n 2, 1) := by decide +kernel
theorem dX8_cellsOf_32 : decode cX8_cellsOf 32 = .ok (.aload_n 0, 1) := by decide +kernel
theorem dX8_cellsOf_33 : decode cX8_cellsOf 33 = .ok (.getfield 39, 3) := by decide +kernel
theorem dX8_cellsOf_36 : decode cX8_cellsOf 36 = .ok (.getfield 353, 3) := by decide +kernel
theorem dX8_cellsOf_39 : decode cX8_cellsOf 39 = .ok (.iload_n 3, 1) := by decide +kernel
theorem dX8_cellsOf_40 : decode cX8_cellsOf 40 = .ok (.iaload, 1) := by decide +kernel
theorem dX8_cellsOf_41 : decode cX8_cellsOf 41 = .ok (.iadd, 1) := by decide +kernel
theorem dX8_cellsOf_42 : decode cX8_cellsOf 42 = .ok (.istore_n 2, 1) := by decide +kernel
theorem dX8_cellsOf_43 : decode cX8_cellsOf 43 = .ok (.iinc 3 1, 3) := by decide +kernel
theorem dX8_cellsOf_46 : decode cX8_cellsOf 46 = .ok (.goto (-42), 3) := by decide +kernel
theorem dX8_cellsOf_49 : decode cX8_cellsOf 49 = .ok (.iload_n 2, 1) := by decide +kernel
theorem dX8_cellsOf_50 : decode cX8_cellsOf 50 = .ok (.ireturn, 1) := by decide +kernel
theorem fk_X8_10 : Cond.fieldLink RX8 10 RX8 (TX8 0).2.1 (TX8 0).2.2.1 ∈ gl := gl_tb (by decide +kernel) rfl
theorem fk_X8_19 : Cond.fieldLink RX8 19 RX8 (TX8 1).2.1 (TX8 1).2.2.1 ∈ gl := gl_tb (by decide +kernel) rfl
theorem fk_X8_26 : Cond.fieldLink RX8 26 RX8 (TX8 2).2.1 (TX8 2).2.2.1 ∈ gl := gl_tb (by decide +kernel) rfl
theorem fk_X8_32 : Cond.fieldLink RX8 32 RX8 (TX8 3).2.1 (TX8 3).2.2.1 ∈ gl := gl_tb (by decide +kernel) rfl
theorem fk_X8_39 : Cond.fieldLink RX8 39 RX8 (TX8 4).2.1 (TX8 4).2.2.1 ∈ gl := gl_tb (by decide +kernel) rfl
theorem fk_X8_43 : Cond.fieldLink RX8 43 RX8 (TX8 5).2.1 (TX8 5).2.2.1 ∈ gl := gl_tb (by decide +kernel) rfl
theorem fk_X8_49 : Cond.fieldLink RX8 49 RX8 (TX8 6).2.1 (TX8 6).2.2.1 ∈ gl := gl_tb (by decide +kernel) rfl
theorem fk_X8_56 : Cond.fieldLink RX8 56 RX8 (TX8 7).2.1 (TX8 7).2.2.1 ∈ gl := gl_tb (by decide +kernel) rfl
theorem fk_X8_60 : Cond.fieldLink RX8 60 RX8 (TX8 8).2.1 (TX8 8).2.2.1 ∈ gl := gl_tb (by decide +kernel) rfl
theorem fk_X8_65 : Cond.fieldLink RX8 65 RX2 (TX2 1).2.1 (TX2 1).2.2.1 ∈ gl := gl_tb (by decide +kernel) rfl
theorem mk_X8_68 : Cond.methodLink RX8 68 yX1_endAll ∈ gl := gl_tb (by decide +kernel) rfl
theorem fk_X8_71 : Cond.fieldLink RX8 71 RX3 (TX3 0).2.1 (TX3 0).2.2.1 ∈ gl := gl_tb (by decide +kernel) rfl
theorem mk_X8_75 : Cond.methodLink RX8 75 yX8_showNow ∈ gl := gl_tb (by decide +kernel) rfl
theorem fk_X8_93 : Cond.fieldLink RX8 93 RX5 (TX5 1).2.1 (TX5 1).2.2.1 ∈ gl := gl_tb (by decide +kernel) rfl
theorem fk_X8_98 : Cond.fieldLink RX8 98 RX5 (TX5 0).2.1 (TX5 0).2.2.1 ∈ gl := gl_tb (by decide +kernel) rfl
theorem mk_X8_102 : Cond.methodLink RX8 102 yX5_readToError ∈ gl := gl_tb (by decide +kernel) rfl
theorem mk_X8_106 : Cond.methodLink RX8 106 yX8_refuseWrongUser ∈ gl := gl_tb (by decide +kernel) rfl
theorem mk_X8_110 : Cond.methodLink RX8 110 yX8_refuseWrongLayer ∈ gl := gl_tb (by decide +kernel) rfl
theorem mk_X8_113 : Cond.methodLink RX8 113 yX8_refuseWrongColor ∈ gl := gl_tb (by decide +kernel) rfl
theorem mk_X8_118 : Cond.methodLink RX8 118 yX8_refuseWrongPath ∈ gl := gl_tb (by decide +kernel) rfl
theorem mk_X8_121 : Cond.methodLink RX8 121 yX8_refuseFullLog ∈ gl := gl_tb (by decide +kernel) rfl
theorem mk_X8_124 : Cond.methodLink RX8 124 yX2_begin ∈ gl := gl_tb (by decide +kernel) rfl
theorem fk_X8_128 : Cond.fieldLink RX8 128 RX4 (TX4 3).2.1 (TX4 3).2.2.1 ∈ gl := gl_tb (by decide +kernel) rfl
theorem fk_X8_133 : Cond.fieldLink RX8 133 RX4 (TX4 4).2.1 (TX4 4).2.2.1 ∈ gl := gl_tb (by decide +kernel) rfl
theorem mk_X8_136 : Cond.methodLink RX8 136 yX8_takeCellsFromBuffer ∈ gl := gl_tb (by decide +kernel) rfl
theorem fk_X8_140 : Cond.fieldLink RX8 140 RX4 (TX4 8).2.1 (TX4 8).2.2.1 ∈ gl := gl_tb (by decide +kernel) rfl
theorem mk_X8_143 : Cond.methodLink RX8 143 yX0_size ∈ gl := gl_tb (by decide +kernel) rfl
theorem mk_X8_147 : Cond.methodLink RX8 147 yX8_changedBySwitching ∈ gl := gl_tb (by decide +kernel) rfl
theorem mk_X8_151 : Cond.methodLink RX8 151 yX8_refuseWrongCell ∈ gl := gl_tb (by decide +kernel) rfl
theorem fk_X8_154 : Cond.fieldLink RX8 154 RX7 (TX7 2).2.1 (TX7 2).2.2.1 ∈ gl := gl_tb (by decide +kernel) rfl
theorem mk_X8_157 : Cond.methodLink RX8 157 yX7_collectColor ∈ gl := gl_tb (by decide +kernel) rfl
theorem mk_X8_161 : Cond.methodLink RX8 161 yX6_reach ∈ gl := gl_tb (by decide +kernel) rfl
theorem mk_X8_165 : Cond.methodLink RX8 165 yX8_leaveOutClosedCells ∈ gl := gl_tb (by decide +kernel) rfl
theorem mk_X8_168 : Cond.methodLink RX8 168 yX2_latestActive ∈ gl := gl_tb (by decide +kernel) rfl
theorem mk_X8_171 : Cond.methodLink RX8 171 yX2_contains ∈ gl := gl_tb (by decide +kernel) rfl
theorem mk_X8_177 : Cond.methodLink RX8 177 yX2_switchOff ∈ gl := gl_tb (by decide +kernel) rfl
theorem mk_X8_180 : Cond.methodLink RX8 180 yX2_lastUndone ∈ gl := gl_tb (by decide +kernel) rfl
theorem mk_X8_185 : Cond.methodLink RX8 185 yX2_switchOn ∈ gl := gl_tb (by decide +kernel) rfl
theorem mk_X8_190 : Cond.methodLink RX8 190 yX1_collectClosed ∈ gl := gl_tb (by decide +kernel) rfl
theorem mk_X8_194 : Cond.methodLink RX8 194 yX0_meetsRectangle ∈ gl := gl_tb (by decide +kernel) rfl
theorem mk_X8_198 : Cond.methodLink RX8 198 yX1_freeSlot ∈ gl := gl_tb (by decide +kernel) rfl
theorem mk_X8_201 : Cond.methodLink RX8 201 yX1_begin ∈ gl := gl_tb (by decide +kernel) rfl
theorem fk_X8_204 : Cond.fieldLink RX8 204 RX1 (TX1 0).2.1 (TX1 0).2.2.1 ∈ gl := gl_tb (by decide +kernel) rfl
theorem mk_X8_208 : Cond.methodLink RX8 208 yX0_becomeRectangle ∈ gl := gl_tb (by decide +kernel) rfl
theorem mk_X8_212 : Cond.methodLink RX8 212 yX1_inForce ∈ gl := gl_tb (by decide +kernel) rfl
theorem mk_X8_215 : Cond.methodLink RX8 215 yX1_endAllOf ∈ gl := gl_tb (by decide +kernel) rfl
theorem mk_X8_219 : Cond.methodLink RX8 219 yX1_lowestOwner ∈ gl := gl_tb (by decide +kernel) rfl
theorem mk_X8_222 : Cond.methodLink RX8 222 yX8_refuseWrongMark ∈ gl := gl_tb (by decide +kernel) rfl
theorem mk_X8_225 : Cond.methodLink RX8 225 yX3_keep ∈ gl := gl_tb (by decide +kernel) rfl
theorem mk_X8_229 : Cond.methodLink RX8 229 yX8_refuseUnsetMark ∈ gl := gl_tb (by decide +kernel) rfl
theorem fk_X8_232 : Cond.fieldLink RX8 232 RX3 (TX3 3).2.1 (TX3 3).2.2.1 ∈ gl := gl_tb (by decide +kernel) rfl
theorem mk_X8_233 : Cond.methodLink RX8 233 yX8_changedCells ∈ gl := gl_tb (by decide +kernel) rfl
theorem fk_X8_237 : Cond.fieldLink RX8 237 RX3 (TX3 1).2.1 (TX3 1).2.2.1 ∈ gl := gl_tb (by decide +kernel) rfl
theorem mk_X8_238 : Cond.methodLink RX8 238 yX2_goBack ∈ gl := gl_tb (by decide +kernel) rfl
theorem mk_X8_244 : Cond.methodLink RX8 244 yX7_show ∈ gl := gl_tb (by decide +kernel) rfl
theorem fk_X8_248 : Cond.fieldLink RX8 248 RX7 (TX7 1).2.1 (TX7 1).2.2.1 ∈ gl := gl_tb (by decide +kernel) rfl
theorem mk_X8_253 : Cond.methodLink RX8 253 yX8_boardProperty ∈ gl := gl_tb (by decide +kernel) rfl
theorem mk_X8_256 : Cond.methodLink RX8 256 yX8_refuseWrongOperation ∈ gl := gl_tb (by decide +kernel) rfl
theorem mk_X8_261 : Cond.methodLink RX8 261 yX8_operationProperty ∈ gl := gl_tb (by decide +kernel) rfl
theorem mk_X8_266 : Cond.methodLink RX8 266 yX8_userProperty ∈ gl := gl_tb (by decide +kernel) rfl
theorem fk_X8_269 : Cond.fieldLink RX8 269 RX2 (TX2 0).2.1 (TX2 0).2.2.1 ∈ gl := gl_tb (by decide +kernel) rfl
theorem mk_X8_273 : Cond.methodLink RX8 273 yX4_strengthAt ∈ gl := gl_tb (by decide +kernel) rfl
theorem mk_X8_295 : Cond.methodLink RX8 295 yX5_isPath ∈ gl := gl_tb (by decide +kernel) rfl
theorem mk_X8_305 : Cond.methodLink RX8 305 yX5_drawInto ∈ gl := gl_tb (by decide +kernel) rfl
theorem fk_X8_309 : Cond.fieldLink RX8 309 RX4 (TX4 1).2.1 (TX4 1).2.2.1 ∈ gl := gl_tb (by decide +kernel) rfl
theorem mk_X8_312 : Cond.methodLink RX8 312 yX0_takeAway ∈ gl := gl_tb (by decide +kernel) rfl
theorem mk_X8_315 : Cond.methodLink RX8 315 yX2_activeOperations ∈ gl := gl_tb (by decide +kernel) rfl
theorem mk_X8_318 : Cond.methodLink RX8 318 yX7_paintedCells ∈ gl := gl_tb (by decide +kernel) rfl
theorem mk_X8_321 : Cond.methodLink RX8 321 yX8_differentColors ∈ gl := gl_tb (by decide +kernel) rfl
theorem mk_X8_324 : Cond.methodLink RX8 324 yX8_marksSet ∈ gl := gl_tb (by decide +kernel) rfl
theorem mk_X8_327 : Cond.methodLink RX8 327 yX7_hiddenOperations ∈ gl := gl_tb (by decide +kernel) rfl
theorem mk_X8_331 : Cond.methodLink RX8 331 yX8_colorRegions ∈ gl := gl_tb (by decide +kernel) rfl
theorem mk_X8_334 : Cond.methodLink RX8 334 yX6_parts ∈ gl := gl_tb (by decide +kernel) rfl
theorem fk_X8_338 : Cond.fieldLink RX8 338 RX4 (TX4 0).2.1 (TX4 0).2.2.1 ∈ gl := gl_tb (by decide +kernel) rfl
theorem fk_X8_341 : Cond.fieldLink RX8 341 RX4 (TX4 2).2.1 (TX4 2).2.2.1 ∈ gl := gl_tb (by decide +kernel) rfl
theorem fk_X8_344 : Cond.fieldLink RX8 344 RX4 (TX4 5).2.1 (TX4 5).2.2.1 ∈ gl := gl_tb (by decide +kernel) rfl
theorem fk_X8_347 : Cond.fieldLink RX8 347 RX4 (TX4 6).2.1 (TX4 6).2.2.1 ∈ gl := gl_tb (by decide +kernel) rfl
theorem fk_X8_350 : Cond.fieldLink RX8 350 RX7 (TX7 0).2.1 (TX7 0).2.2.1 ∈ gl := gl_tb (by decide +kernel) rfl
theorem fk_X8_353 : Cond.fieldLink RX8 353 RX7 (TX7 3).2.1 (TX7 3).2.2.1 ∈ gl := gl_tb (by decide +kernel) rfl
theorem mk_X8_356 : Cond.methodLink RX8 356 yX2_operationsOf ∈ gl := gl_tb (by decide +kernel) rfl
theorem mk_X8_359 : Cond.methodLink RX8 359 yX2_activeOf ∈ gl := gl_tb (by decide +kernel) rfl
theorem mk_X8_362 : Cond.methodLink RX8 362 yX2_redoableOf ∈ gl := gl_tb (by decide +kernel) rfl
theorem mk_X8_365 : Cond.methodLink RX8 365 yX8_cellsOf ∈ gl := gl_tb (by decide +kernel) rfl
theorem mk_X8_368 : Cond.methodLink RX8 368 yX1_inForceOf ∈ gl := gl_tb (by decide +kernel) rfl
theorem vw_X8_clear : vwM RX8 yX8_clear (.code yX8_clear cX8_clear 3 (some .int)) := ⟨gl_tb (by decide +kernel) rfl, by first | exact gl_tb (by decide +kernel) rfl | exact gl_pv (by decide +kernel) rfl, gl_tb (by decide +kernel) rfl, gl_tb (by decide +kernel) rfl⟩
theorem vw_X8_pass : vwM RX8 yX8_pass (.code yX8_pass cX8_pass 2 (some .int)) := ⟨gl_tb (by decide +kernel) rfl, by first | exact gl_tb (by decide +kernel) rfl | exact gl_pv (by decide +kernel) rfl, gl_tb (by decide +kernel) rfl, gl_tb (by decide +kernel) rfl⟩
theorem vw_X8_append : vwM RX8 yX8_append (.code yX8_append cX8_append 2 (some .int)) := ⟨gl_tb (by decide +kernel) rfl, by first | exact gl_tb (by decide +kernel) rfl | exact gl_pv (by decide +kernel) rfl, gl_tb (by decide +kernel) rfl, gl_tb (by decide +kernel) rfl⟩
theorem vw_X8_clearBuffer : vwM RX8 yX8_clearBuffer (.code yX8_clearBuffer cX8_clearBuffer 2 (some .int)) := ⟨gl_tb (by decide +kernel) rfl, by first | exact gl_tb (by decide +kernel) rfl | exact gl_pv (by decide +kernel) rfl, gl_tb (by decide +kernel) rfl, gl_tb (by decide +kernel) rfl⟩
theorem vw_X8_firstError : vwM RX8 yX8_firstError (.code yX8_firstError cX8_firstError 1 (some .int)) := ⟨gl_tb (by decide +kernel) rfl, by first | exact gl_tb (by decide +kernel) rfl | exact gl_pv (by decide +kernel) rfl, gl_tb (by decide +kernel) rfl, gl_tb (by decide +kernel) rfl⟩
theorem vw_X8_stroke : vwM RX8 yX8_stroke (.code yX8_stroke cX8_stroke 6 (some .int)) := ⟨gl_tb (by decide +kernel) rfl, by first | exact gl_tb (by decide +kernel) rfl | exact gl_pv (by decide +kernel) rfl, gl_tb (by decide +kernel) rfl, gl_tb (by decide +kernel) rfl⟩
theorem vw_X8_erase : vwM RX8 yX8_erase (.code yX8_erase cX8_erase 5 (some .int)) := ⟨gl_tb (by decide +kernel) rfl, by first | exact gl_tb (by decide +kernel) rfl | exact gl_pv (by decide +kernel) rfl, gl_tb (by decide +kernel) rfl, gl_tb (by decide +kernel) rfl⟩
theorem vw_X8_fill : vwM RX8 yX8_fill (.code yX8_fill cX8_fill 6 (some .int)) := ⟨gl_tb (by decide +kernel) rfl, by first | exact gl_tb (by decide +kernel) rfl | exact gl_pv (by decide +kernel) rfl, gl_tb (by decide +kernel) rfl, gl_tb (by decide +kernel) rfl⟩
theorem vw_X8_undo : vwM RX8 yX8_undo (.code yX8_undo cX8_undo 3 (some .int)) := ⟨gl_tb (by decide +kernel) rfl, by first | exact gl_tb (by decide +kernel) rfl | exact gl_pv (by decide +kernel) rfl, gl_tb (by decide +kernel) rfl, gl_tb (by decide +kernel) rfl⟩
theorem vw_X8_redo : vwM RX8 yX8_redo (.code yX8_redo cX8_redo 3 (some .int)) := ⟨gl_tb (by decide +kernel) rfl, by first | exact gl_tb (by decide +kernel) rfl | exact gl_pv (by decide +kernel) rfl, gl_tb (by decide +kernel) rfl, gl_tb (by decide +kernel) rfl⟩
theorem vw_X8_lease : vwM RX8 yX8_lease (.code yX8_lease cX8_lease 6 (some .int)) := ⟨gl_tb (by decide +kernel) rfl, by first | exact gl_tb (by decide +kernel) rfl | exact gl_pv (by decide +kernel) rfl, gl_tb (by decide +kernel) rfl, gl_tb (by decide +kernel) rfl⟩
theorem vw_X8_release : vwM RX8 yX8_release (.code yX8_release cX8_release 2 (some .int)) := ⟨gl_tb (by decide +kernel) rfl, by first | exact gl_tb (by decide +kernel) rfl | exact gl_pv (by decide +kernel) rfl, gl_tb (by decide +kernel) rfl, gl_tb (by decide +kernel) rfl⟩
theorem vw_X8_holder : vwM RX8 yX8_holder (.code yX8_holder cX8_holder 2 (some .int)) := ⟨gl_tb (by decide +kernel) rfl, by first | exact gl_tb (by decide +kernel) rfl | exact gl_pv (by decide +kernel) rfl, gl_tb (by decide +kernel) rfl, gl_tb (by decide +kernel) rfl⟩
theorem vw_X8_setMark : vwM RX8 yX8_setMark (.code yX8_setMark cX8_setMark 2 (some .int)) := ⟨gl_tb (by decide +kernel) rfl, by first | exact gl_tb (by decide +kernel) rfl | exact gl_pv (by decide +kernel) rfl, gl_tb (by decide +kernel) rfl, gl_tb (by decide +kernel) rfl⟩
theorem vw_X8_replay : vwM RX8 yX8_replay (.code yX8_replay cX8_replay 3 (some .int)) := ⟨gl_tb (by decide +kernel) rfl, by first | exact gl_tb (by decide +kernel) rfl | exact gl_pv (by decide +kernel) rfl, gl_tb (by decide +kernel) rfl, gl_tb (by decide +kernel) rfl⟩
theorem vw_X8_difference : vwM RX8 yX8_difference (.code yX8_difference cX8_difference 2 (some .int)) := ⟨gl_tb (by decide +kernel) rfl, by first | exact gl_tb (by decide +kernel) rfl | exact gl_pv (by decide +kernel) rfl, gl_tb (by decide +kernel) rfl, gl_tb (by decide +kernel) rfl⟩
theorem vw_X8_rewind : vwM RX8 yX8_rewind (.code yX8_rewind cX8_rewind 4 (some .int)) := ⟨gl_tb (by decide +kernel) rfl, by first | exact gl_tb (by decide +kernel) rfl | exact gl_pv (by decide +kernel) rfl, gl_tb (by decide +kernel) rfl, gl_tb (by decide +kernel) rfl⟩
theorem vw_X8_color : vwM RX8 yX8_color (.code yX8_color cX8_color 2 (some .int)) := ⟨gl_tb (by decide +kernel) rfl, by first | exact gl_tb (by decide +kernel) rfl | exact gl_pv (by decide +kernel) rfl, gl_tb (by decide +kernel) rfl, gl_tb (by decide +kernel) rfl⟩
theorem vw_X8_colorLater : vwM RX8 yX8_colorLater (.code yX8_colorLater cX8_colorLater 3 (some .int)) := ⟨gl_tb (by decide +kernel) rfl, by first | exact gl_tb (by decide +kernel) rfl | exact gl_pv (by decide +kernel) rfl, gl_tb (by decide +kernel) rfl, gl_tb (by decide +kernel) rfl⟩
theorem vw_X8_top : vwM RX8 yX8_top (.code yX8_top cX8_top 2 (some .int)) := ⟨gl_tb (by decide +kernel) rfl, by first | exact gl_tb (by decide +kernel) rfl | exact gl_pv (by decide +kernel) rfl, gl_tb (by decide +kernel) rfl, gl_tb (by decide +kernel) rfl⟩
theorem vw_X8_count : vwM RX8 yX8_count (.code yX8_count cX8_count 2 (some .int)) := ⟨gl_tb (by decide +kernel) rfl, by first | exact gl_tb (by decide +kernel) rfl | exact gl_pv (by decide +kernel) rfl, gl_tb (by decide +kernel) rfl, gl_tb (by decide +kernel) rfl⟩
theorem vw_X8_operation : vwM RX8 yX8_operation (.code yX8_operation cX8_operation 3 (some .int)) := ⟨gl_tb (by decide +kernel) rfl, by first | exact gl_tb (by decide +kernel) rfl | exact gl_pv (by decide +kernel) rfl, gl_tb (by decide +kernel) rfl, gl_tb (by decide +kernel) rfl⟩
theorem vw_X8_ifSwitched : vwM RX8 yX8_ifSwitched (.code yX8_ifSwitched cX8_ifSwitched 2 (some .int)) := ⟨gl_tb (by decide +kernel) rfl, by first | exact gl_tb (by decide +kernel) rfl | exact gl_pv (by decide +kernel) rfl, gl_tb (by decide +kernel) rfl, gl_tb (by decide +kernel) rfl⟩
theorem vw_X8_user : vwM RX8 yX8_user (.code yX8_user cX8_user 3 (some .int)) := ⟨gl_tb (by decide +kernel) rfl, by first | exact gl_tb (by decide +kernel) rfl | exact gl_pv (by decide +kernel) rfl, gl_tb (by decide +kernel) rfl, gl_tb (by decide +kernel) rfl⟩
theorem vw_X8_meanStrength : vwM RX8 yX8_meanStrength (.code yX8_meanStrength cX8_meanStrength 5 (some .double)) := ⟨gl_tb (by decide +kernel) rfl, by first | exact gl_tb (by decide +kernel) rfl | exact gl_pv (by decide +kernel) rfl, gl_tb (by decide +kernel) rfl, gl_tb (by decide +kernel) rfl⟩
theorem vw_X8_digest : vwM RX8 yX8_digest (.code yX8_digest cX8_digest 5 (some .long)) := ⟨gl_tb (by decide +kernel) rfl, by first | exact gl_tb (by decide +kernel) rfl | exact gl_pv (by decide +kernel) rfl, gl_tb (by decide +kernel) rfl, gl_tb (by decide +kernel) rfl⟩
theorem vw_X8_refuseWrongUser : vwS yX8_refuseWrongUser (.code yX8_refuseWrongUser cX8_refuseWrongUser 1 none) := ⟨gl_tb (by decide +kernel) rfl, gl_tb (by decide +kernel) rfl, gl_tb (by decide +kernel) rfl⟩
theorem vw_X8_refuseWrongLayer : vwS yX8_refuseWrongLayer (.code yX8_refuseWrongLayer cX8_refuseWrongLayer 1 none) := ⟨gl_tb (by decide +kernel) rfl, gl_tb (by decide +kernel) rfl, gl_tb (by decide +kernel) rfl⟩
theorem vw_X8_refuseWrongCell : vwS yX8_refuseWrongCell (.code yX8_refuseWrongCell cX8_refuseWrongCell 1 none) := ⟨gl_tb (by decide +kernel) rfl, gl_tb (by decide +kernel) rfl, gl_tb (by decide +kernel) rfl⟩
theorem vw_X8_refuseWrongMark : vwS yX8_refuseWrongMark (.code yX8_refuseWrongMark cX8_refuseWrongMark 1 none) := ⟨gl_tb (by decide +kernel) rfl, gl_tb (by decide +kernel) rfl, gl_tb (by decide +kernel) rfl⟩
theorem vw_X8_refuseWrongOperation : vwM RX8 yX8_refuseWrongOperation (.code yX8_refuseWrongOperation cX8_refuseWrongOperation 2 none) := ⟨gl_tb (by decide +kernel) rfl, by first | exact gl_tb (by decide +kernel) rfl | exact gl_pv (by decide +kernel) rfl, gl_tb (by decide +kernel) rfl, gl_tb (by decide +kernel) rfl⟩
theorem vw_X8_refuseWrongColor : vwS yX8_refuseWrongColor (.code yX8_refuseWrongColor cX8_refuseWrongColor 1 none) := ⟨gl_tb (by decide +kernel) rfl, gl_tb (by decide +kernel) rfl, gl_tb (by decide +kernel) rfl⟩
theorem vw_X8_refuseWrongPath : vwM RX8 yX8_refuseWrongPath (.code yX8_refuseWrongPath cX8_refuseWrongPath 1 none) := ⟨gl_tb (by decide +kernel) rfl, by first | exact gl_tb (by decide +kernel) rfl | exact gl_pv (by decide +kernel) rfl, gl_tb (by decide +kernel) rfl, gl_tb (by decide +kernel) rfl⟩
theorem vw_X8_refuseFullLog : vwM RX8 yX8_refuseFullLog (.code yX8_refuseFullLog cX8_refuseFullLog 1 none) := ⟨gl_tb (by decide +kernel) rfl, by first | exact gl_tb (by decide +kernel) rfl | exact gl_pv (by decide +kernel) rfl, gl_tb (by decide +kernel) rfl, gl_tb (by decide +kernel) rfl⟩
theorem vw_X8_refuseUnsetMark : vwM RX8 yX8_refuseUnsetMark (.code yX8_refuseUnsetMark cX8_refuseUnsetMark 2 none) := ⟨gl_tb (by decide +kernel) rfl, by first | exact gl_tb (by decide +kernel) rfl | exact gl_pv (by decide +kernel) rfl, gl_tb (by decide +kernel) rfl, gl_tb (by decide +kernel) rfl⟩
theorem vw_X8_showNow : vwM RX8 yX8_showNow (.code yX8_showNow cX8_showNow 1 none) := ⟨gl_tb (by decide +kernel) rfl, by first | exact gl_tb (by decide +kernel) rfl | exact gl_pv (by decide +kernel) rfl, gl_tb (by decide +kernel) rfl, gl_tb (by decide +kernel) rfl⟩
theorem vw_X8_takeCellsFromBuffer : vwM RX8 yX8_takeCellsFromBuffer (.code yX8_takeCellsFromBuffer cX8_takeCellsFromBuffer 2 none) := ⟨gl_tb (by decide +kernel) rfl, by first | exact gl_tb (by decide +kernel) rfl | exact gl_pv (by decide +kernel) rfl, gl_tb (by decide +kernel) rfl, gl_tb (by decide +kernel) rfl⟩
theorem vw_X8_leaveOutClosedCells : vwM RX8 yX8_leaveOutClosedCells (.code yX8_leaveOutClosedCells cX8_leaveOutClosedCells 2 none) := ⟨gl_tb (by decide +kernel) rfl, by first | exact gl_tb (by decide +kernel) rfl | exact gl_pv (by decide +kernel) rfl, gl_tb (by decide +kernel) rfl, gl_tb (by decide +kernel) rfl⟩
theorem vw_X8_changedBySwitching : vwM RX8 yX8_changedBySwitching (.code yX8_changedBySwitching cX8_changedBySwitching 2 (some .int)) := ⟨gl_tb (by decide +kernel) rfl, by first | exact gl_tb (by decide +kernel) rfl | exact gl_pv (by decide +kernel) rfl, gl_tb (by decide +kernel) rfl, gl_tb (by decide +kernel) rfl⟩
theorem vw_X8_changedCells : vwS yX8_changedCells (.code yX8_changedCells cX8_changedCells 4 (some .int)) := ⟨gl_tb (by decide +kernel) rfl, gl_tb (by decide +kernel) rfl, gl_tb (by decide +kernel) rfl⟩
theorem vw_X8_boardProperty : vwM RX8 yX8_boardProperty (.code yX8_boardProperty cX8_boardProperty 2 (some .int)) := ⟨gl_tb (by decide +kernel) rfl, by first | exact gl_tb (by decide +kernel) rfl | exact gl_pv (by decide +kernel) rfl, gl_tb (by decide +kernel) rfl, gl_tb (by decide +kernel) rfl⟩
theorem vw_X8_differentColors : vwM RX8 yX8_differentColors (.code yX8_differentColors cX8_differentColors 3 (some .int)) := ⟨gl_tb (by decide +kernel) rfl, by first | exact gl_tb (by decide +kernel) rfl | exact gl_pv (by decide +kernel) rfl, gl_tb (by decide +kernel) rfl, gl_tb (by decide +kernel) rfl⟩
theorem vw_X8_marksSet : vwM RX8 yX8_marksSet (.code yX8_marksSet cX8_marksSet 3 (some .int)) := ⟨gl_tb (by decide +kernel) rfl, by first | exact gl_tb (by decide +kernel) rfl | exact gl_pv (by decide +kernel) rfl, gl_tb (by decide +kernel) rfl, gl_tb (by decide +kernel) rfl⟩
theorem vw_X8_colorRegions : vwM RX8 yX8_colorRegions (.code yX8_colorRegions cX8_colorRegions 3 (some .int)) := ⟨gl_tb (by decide +kernel) rfl, by first | exact gl_tb (by decide +kernel) rfl | exact gl_pv (by decide +kernel) rfl, gl_tb (by decide +kernel) rfl, gl_tb (by decide +kernel) rfl⟩
theorem vw_X8_operationProperty : vwM RX8 yX8_operationProperty (.code yX8_operationProperty cX8_operationProperty 4 (some .int)) := ⟨gl_tb (by decide +kernel) rfl, by first | exact gl_tb (by decide +kernel) rfl | exact gl_pv (by decide +kernel) rfl, gl_tb (by decide +kernel) rfl, gl_tb (by decide +kernel) rfl⟩
theorem vw_X8_userProperty : vwM RX8 yX8_userProperty (.code yX8_userProperty cX8_userProperty 3 (some .int)) := ⟨gl_tb (by decide +kernel) rfl, by first | exact gl_tb (by decide +kernel) rfl | exact gl_pv (by decide +kernel) rfl, gl_tb (by decide +kernel) rfl, gl_tb (by decide +kernel) rfl⟩
theorem vw_X8_cellsOf : vwM RX8 yX8_cellsOf (.code yX8_cellsOf cX8_cellsOf 4 (some .int)) := ⟨gl_tb (by decide +kernel) rfl, by first | exact gl_tb (by decide +kernel) rfl | exact gl_pv (by decide +kernel) rfl, gl_tb (by decide +kernel) rfl, gl_tb (by decide +kernel) rfl⟩
