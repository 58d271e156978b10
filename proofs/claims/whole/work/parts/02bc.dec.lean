theorem dX5_init_0 : decode cX5_init 0 = .ok (.aload_n 0, 1) := by decide +kernel
theorem dX5_init_1 : decode cX5_init 1 = .ok (.invokespecial 3, 3) := by decide +kernel
theorem dX5_init_4 : decode cX5_init 4 = .ok (.aload_n 0, 1) := by decide +kernel
theorem dX5_init_5 : decode cX5_init 5 = .ok (.bipush 40, 2) := by decide +kernel
theorem dX5_init_7 : decode cX5_init 7 = .ok (.newarray .int, 2) := by decide +kernel
theorem dX5_init_9 : decode cX5_init 9 = .ok (.putfield 9, 3) := by decide +kernel
theorem dX5_init_12 : decode cX5_init 12 = .ok (.aload_n 0, 1) := by decide +kernel
theorem dX5_init_13 : decode cX5_init 13 = .ok (.iconst 0, 1) := by decide +kernel
theorem dX5_init_14 : decode cX5_init 14 = .ok (.putfield 15, 3) := by decide +kernel
theorem dX5_init_17 : decode cX5_init 17 = .ok (.aload_n 0, 1) := by decide +kernel
theorem dX5_init_18 : decode cX5_init 18 = .ok (.bipush 6, 2) := by decide +kernel
theorem dX5_init_20 : decode cX5_init 20 = .ok (.newarray .int, 2) := by decide +kernel
theorem dX5_init_22 : decode cX5_init 22 = .ok (.putfield 19, 3) := by decide +kernel
theorem dX5_init_25 : decode cX5_init 25 = .ok (.aload_n 0, 1) := by decide +kernel
theorem dX5_init_26 : decode cX5_init 26 = .ok (.bipush 6, 2) := by decide +kernel
theorem dX5_init_28 : decode cX5_init 28 = .ok (.newarray .int, 2) := by decide +kernel
theorem dX5_init_30 : decode cX5_init 30 = .ok (.putfield 22, 3) := by decide +kernel
theorem dX5_init_33 : decode cX5_init 33 = .ok (.aload_n 0, 1) := by decide +kernel
theorem dX5_init_34 : decode cX5_init 34 = .ok (.iconst 0, 1) := by decide +kernel
theorem dX5_init_35 : decode cX5_init 35 = .ok (.putfield 25, 3) := by decide +kernel
theorem dX5_init_38 : decode cX5_init 38 = .ok (.aload_n 0, 1) := by decide +kernel
theorem dX5_init_39 : decode cX5_init 39 = .ok (.iconst 0, 1) := by decide +kernel
theorem dX5_init_40 : decode cX5_init 40 = .ok (.putfield 28, 3) := by decide +kernel
theorem dX5_init_43 : decode cX5_init 43 = .ok (.aload_n 0, 1) := by decide +kernel
theorem dX5_init_44 : decode cX5_init 44 = .ok (.iconst (-1), 1) := by decide +kernel
theorem dX5_init_45 : decode cX5_init 45 = .ok (.putfield 32, 3) := by decide +kernel
theorem dX5_init_48 : decode cX5_init 48 = .ok (.return_, 1) := by decide +kernel
theorem dX5_readToError_0 : decode cX5_readToError 0 = .ok (.aload_n 0, 1) := by decide +kernel
theorem dX5_readToError_1 : decode cX5_readToError 1 = .ok (.iconst 0, 1) := by decide +kernel
theorem dX5_readToError_2 : decode cX5_readToError 2 = .ok (.putfield 25, 3) := by decide +kernel
theorem dX5_readToError_5 : decode cX5_readToError 5 = .ok (.aload_n 0, 1) := by decide +kernel
theorem dX5_readToError_6 : decode cX5_readToError 6 = .ok (.iconst 0, 1) := by decide +kernel
theorem dX5_readToError_7 : decode cX5_readToError 7 = .ok (.putfield 28, 3) := by decide +kernel
theorem dX5_readToError_10 : decode cX5_readToError 10 = .ok (.aload_n 0, 1) := by decide +kernel
theorem dX5_readToError_11 : decode cX5_readToError 11 = .ok (.iconst (-1), 1) := by decide +kernel
theorem dX5_readToError_12 : decode cX5_readToError 12 = .ok (.putfield 32, 3) := by decide +kernel
theorem dX5_readToError_15 : decode cX5_readToError 15 = .ok (.iconst 0, 1) := by decide +kernel
theorem dX5_readToError_16 : decode cX5_readToError 16 = .ok (.istore_n 1, 1) := by decide +kernel
theorem dX5_readToError_17 : decode cX5_readToError 17 = .ok (.iload_n 1, 1) := by decide +kernel
theorem dX5_readToError_18 : decode cX5_readToError 18 = .ok (.aload_n 0, 1) := by decide +kernel
theorem dX5_readToError_19 : decode cX5_readToError 19 = .ok (.getfield 15, 3) := by decide +kernel
theorem dX5_readToError_22 : decode cX5_readToError 22 = .ok (.if_icmp .ge 24, 3) := by decide +kernel
theorem dX5_readToError_25 : decode cX5_readToError 25 = .ok (.aload_n 0, 1) := by decide +kernel
theorem dX5_readToError_26 : decode cX5_readToError 26 = .ok (.aload_n 0, 1) := by decide +kernel
theorem dX5_readToError_27 : decode cX5_readToError 27 = .ok (.getfield 9, 3) := by decide +kernel
theorem dX5_readToError_30 : decode cX5_readToError 30 = .ok (.iload_n 1, 1) := by decide +kernel
theorem dX5_readToError_31 : decode cX5_readToError 31 = .ok (.iaload, 1) := by decide +kernel
theorem dX5_readToError_32 : decode cX5_readToError 32 = .ok (.invokevirtual 35, 3) := by decide +kernel
theorem dX5_readToError_35 : decode cX5_readToError 35 = .ok (.ifCond .ne 5, 3) := by decide +kernel
theorem dX5_readToError_38 : decode cX5_readToError 38 = .ok (.iload_n 1, 1) := by decide +kernel
theorem dX5_readToError_39 : decode cX5_readToError 39 = .ok (.ireturn, 1) := by decide +kernel
theorem dX5_readToError_40 : decode cX5_readToError 40 = .ok (.iinc 1 1, 3) := by decide +kernel
theorem dX5_readToError_43 : decode cX5_readToError 43 = .ok (.goto (-26), 3) := by decide +kernel
theorem dX5_readToError_46 : decode cX5_readToError 46 = .ok (.aload_n 0, 1) := by decide +kernel
theorem dX5_readToError_47 : decode cX5_readToError 47 = .ok (.getfield 15, 3) := by decide +kernel
theorem dX5_readToError_50 : decode cX5_readToError 50 = .ok (.ireturn, 1) := by decide +kernel
theorem dX5_isPath_0 : decode cX5_isPath 0 = .ok (.aload_n 0, 1) := by decide +kernel
theorem dX5_isPath_1 : decode cX5_isPath 1 = .ok (.invokevirtual 39, 3) := by decide +kernel
theorem dX5_isPath_4 : decode cX5_isPath 4 = .ok (.aload_n 0, 1) := by decide +kernel
theorem dX5_isPath_5 : decode cX5_isPath 5 = .ok (.getfield 15, 3) := by decide +kernel
theorem dX5_isPath_8 : decode cX5_isPath 8 = .ok (.if_icmp .ne 22, 3) := by decide +kernel
theorem dX5_isPath_11 : decode cX5_isPath 11 = .ok (.aload_n 0, 1) := by decide +kernel
theorem dX5_isPath_12 : decode cX5_isPath 12 = .ok (.getfield 28, 3) := by decide +kernel
theorem dX5_isPath_15 : decode cX5_isPath 15 = .ok (.ifCond .eq 15, 3) := by decide +kernel
theorem dX5_isPath_18 : decode cX5_isPath 18 = .ok (.aload_n 0, 1) := by decide +kernel
theorem dX5_isPath_19 : decode cX5_isPath 19 = .ok (.getfield 32, 3) := by decide +kernel
theorem dX5_isPath_22 : decode cX5_isPath 22 = .ok (.iconst (-1), 1) := by decide +kernel
theorem dX5_isPath_23 : decode cX5_isPath 23 = .ok (.if_icmp .eq 7, 3) := by decide +kernel
theorem dX5_isPath_26 : decode cX5_isPath 26 = .ok (.iconst 1, 1) := by decide +kernel
theorem dX5_isPath_27 : decode cX5_isPath 27 = .ok (.goto 4, 3) := by decide +kernel
theorem dX5_isPath_30 : decode cX5_isPath 30 = .ok (.iconst 0, 1) := by decide +kernel
theorem dX5_isPath_31 : decode cX5_isPath 31 = .ok (.ireturn, 1) := by decide +kernel
theorem dX5_takes_0 : decode cX5_takes 0 = .ok (.iload_n 1, 1) := by decide +kernel
theorem dX5_takes_1 : decode cX5_takes 1 = .ok (.bipush 48, 2) := by decide +kernel
theorem dX5_takes_3 : decode cX5_takes 3 = .ok (.if_icmp .lt 18, 3) := by decide +kernel
theorem dX5_takes_6 : decode cX5_takes 6 = .ok (.iload_n 1, 1) := by decide +kernel
theorem dX5_takes_7 : decode cX5_takes 7 = .ok (.bipush 57, 2) := by decide +kernel
theorem dX5_takes_9 : decode cX5_takes 9 = .ok (.if_icmp .gt 12, 3) := by decide +kernel
theorem dX5_takes_12 : decode cX5_takes 12 = .ok (.aload_n 0, 1) := by decide +kernel
theorem dX5_takes_13 : decode cX5_takes 13 = .ok (.iload_n 1, 1) := by decide +kernel
theorem dX5_takes_14 : decode cX5_takes 14 = .ok (.bipush 48, 2) := by decide +kernel
theorem dX5_takes_16 : decode cX5_takes 16 = .ok (.isub, 1) := by decide +kernel
theorem dX5_takes_17 : decode cX5_takes 17 = .ok (.invokevirtual 43, 3) := by decide +kernel
theorem dX5_takes_20 : decode cX5_takes 20 = .ok (.ireturn, 1) := by decide +kernel
theorem dX5_takes_21 : decode cX5_takes 21 = .ok (.aload_n 0, 1) := by decide +kernel
theorem dX5_takes_22 : decode cX5_takes 22 = .ok (.getfield 32, 3) := by decide +kernel
theorem dX5_takes_25 : decode cX5_takes 25 = .ok (.iconst (-1), 1) := by decide +kernel
theorem dX5_takes_26 : decode cX5_takes 26 = .ok (.if_icmp .ne 5, 3) := by decide +kernel
theorem dX5_takes_29 : decode cX5_takes 29 = .ok (.iconst 0, 1) := by decide +kernel
theorem dX5_takes_30 : decode cX5_takes 30 = .ok (.ireturn, 1) := by decide +kernel
theorem dX5_takes_31 : decode cX5_takes 31 = .ok (.iload_n 1, 1) := by decide +kernel
theorem dX5_takes_32 : decode cX5_takes 32 = .ok (.bipush 44, 2) := by decide +kernel
theorem dX5_takes_34 : decode cX5_takes 34 = .ok (.if_icmp .ne 22, 3) := by decide +kernel
theorem dX5_takes_37 : decode cX5_takes 37 = .ok (.aload_n 0, 1) := by decide +kernel
theorem dX5_takes_38 : decode cX5_takes 38 = .ok (.getfield 28, 3) := by decide +kernel
theorem dX5_takes_41 : decode cX5_takes 41 = .ok (.ifCond .ne 15, 3) := by decide +kernel
theorem dX5_takes_44 : decode cX5_takes 44 = .ok (.aload_n 0, 1) := by decide +kernel
theorem dX5_takes_45 : decode cX5_takes 45 = .ok (.iconst 1, 1) := by decide +kernel
theorem dX5_takes_46 : decode cX5_takes 46 = .ok (.putfield 28, 3) := by decide +kernel
theorem dX5_takes_49 : decode cX5_takes 49 = .ok (.aload_n 0, 1) := by decide +kernel
theorem dX5_takes_50 : decode cX5_takes 50 = .ok (.iconst (-1), 1) := by decide +kernel
theorem dX5_takes_51 : decode cX5_takes 51 = .ok (.putfield 32, 3) := by decide +kernel
theorem dX5_takes_54 : decode cX5_takes 54 = .ok (.iconst 1, 1) := by decide +kernel
theorem dX5_takes_55 : decode cX5_takes 55 = .ok (.ireturn, 1) := by decide +kernel
theorem dX5_takes_56 : decode cX5_takes 56 = .ok (.iload_n 1, 1) := by decide +kernel
theorem dX5_takes_57 : decode cX5_takes 57 = .ok (.bipush 45, 2) := by decide +kernel
theorem dX5_takes_59 : decode cX5_takes 59 = .ok (.if_icmp .ne 43, 3) := by decide +kernel
theorem dX5_takes_62 : decode cX5_takes 62 = .ok (.aload_n 0, 1) := by decide +kernel
theorem dX5_takes_63 : decode cX5_takes 63 = .ok (.getfield 28, 3) := by decide +kernel
theorem dX5_takes_66 : decode cX5_takes 66 = .ok (.ifCond .eq 36, 3) := by decide +kernel
theorem dX5_takes_69 : decode cX5_takes 69 = .ok (.aload_n 0, 1) := by decide +kernel
theorem dX5_takes_70 : decode cX5_takes 70 = .ok (.getfield 25, 3) := by decide +kernel
theorem dX5_takes_73 : decode cX5_takes 73 = .ok (.iconst 1, 1) := by decide +kernel
theorem dX5_takes_74 : decode cX5_takes 74 = .ok (.iadd, 1) := by decide +kernel
theorem dX5_takes_75 : decode cX5_takes 75 = .ok (.bipush 6, 2) := by decide +kernel
theorem dX5_takes_77 : decode cX5_takes 77 = .ok (.if_icmp .ge 25, 3) := by decide +kernel
theorem dX5_takes_80 : decode cX5_takes 80 = .ok (.aload_n 0, 1) := by decide +kernel
theorem dX5_takes_81 : decode cX5_takes 81 = .ok (.dup, 1) := by decide +kernel
theorem dX5_takes_82 : decode cX5_takes 82 = .ok (.getfield 25, 3) := by decide +kernel
theorem dX5_takes_85 : decode cX5_takes 85 = .ok (.iconst 1, 1) := by decide +kernel
theorem dX5_takes_86 : decode cX5_takes 86 = .ok (.iadd, 1) := by decide +kernel
theorem dX5_takes_87 : decode cX5_takes 87 = .ok (.putfield 25, 3) := by decide +kernel
theorem dX5_takes_90 : decode cX5_takes 90 = .ok (.aload_n 0, 1) := by decide +kernel
theorem dX5_takes_91 : decode cX5_takes 91 = .ok (.iconst 0, 1) := by decide +kernel
theorem dX5_takes_92 : decode cX5_takes 92 = .ok (.putfield 28, 3) := by decide +kernel
theorem dX5_takes_95 : decode cX5_takes 95 = .ok (.aload_n 0, 1) := by decide +kernel
theorem dX5_takes_96 : decode cX5_takes 96 = .ok (.iconst (-1), 1) := by decide +kernel
theorem dX5_takes_97 : decode cX5_takes 97 = .ok (.putfield 32, 3) := by decide +kernel
theorem dX5_takes_100 : decode cX5_takes 100 = .ok (.iconst 1, 1) := by decide +kernel
theorem dX5_takes_101 : decode cX5_takes 101 = .ok (.ireturn, 1) := by decide +kernel
theorem dX5_takes_102 : decode cX5_takes 102 = .ok (.iconst 0, 1) := by decide +kernel
theorem dX5_takes_103 : decode cX5_takes 103 = .ok (.ireturn, 1) := by decide +kernel
theorem dX5_takesDigit_0 : decode cX5_takesDigit 0 = .ok (.aload_n 0, 1) := by decide +kernel
theorem dX5_takesDigit_1 : decode cX5_takesDigit 1 = .ok (.getfield 32, 3) := by decide +kernel
theorem dX5_takesDigit_4 : decode cX5_takesDigit 4 = .ok (.iconst (-1), 1) := by decide +kernel
theorem dX5_takesDigit_5 : decode cX5_takesDigit 5 = .ok (.if_icmp .ne 11, 3) := by decide +kernel
theorem dX5_takesDigit_8 : decode cX5_takesDigit 8 = .ok (.aload_n 0, 1) := by decide +kernel
theorem dX5_takesDigit_9 : decode cX5_takesDigit 9 = .ok (.iload_n 1, 1) := by decide +kernel
theorem dX5_takesDigit_10 : decode cX5_takesDigit 10 = .ok (.putfield 32, 3) := by decide +kernel
theorem dX5_takesDigit_13 : decode cX5_takesDigit 13 = .ok (.goto 33, 3) := by decide +kernel
theorem dX5_takesDigit_16 : decode cX5_takesDigit 16 = .ok (.aload_n 0, 1) := by decide +kernel
theorem dX5_takesDigit_17 : decode cX5_takesDigit 17 = .ok (.getfield 32, 3) := by decide +kernel
theorem dX5_takesDigit_20 : decode cX5_takesDigit 20 = .ok (.iconst 1, 1) := by decide +kernel
theorem dX5_takesDigit_21 : decode cX5_takesDigit 21 = .ok (.if_icmp .ne 23, 3) := by decide +kernel
theorem dX5_takesDigit_24 : decode cX5_takesDigit 24 = .ok (.bipush 10, 2) := by decide +kernel
theorem dX5_takesDigit_26 : decode cX5_takesDigit 26 = .ok (.iload_n 1, 1) := by decide +kernel
theorem dX5_takesDigit_27 : decode cX5_takesDigit 27 = .ok (.iadd, 1) := by decide +kernel
theorem dX5_takesDigit_28 : decode cX5_takesDigit 28 = .ok (.bipush 16, 2) := by decide +kernel
theorem dX5_takesDigit_30 : decode cX5_takesDigit 30 = .ok (.if_icmp .ge 14, 3) := by decide +kernel
theorem dX5_takesDigit_33 : decode cX5_takesDigit 33 = .ok (.aload_n 0, 1) := by decide +kernel
theorem dX5_takesDigit_34 : decode cX5_takesDigit 34 = .ok (.bipush 10, 2) := by decide +kernel
theorem dX5_takesDigit_36 : decode cX5_takesDigit 36 = .ok (.iload_n 1, 1) := by decide +kernel
theorem dX5_takesDigit_37 : decode cX5_takesDigit 37 = .ok (.iadd, 1) := by decide +kernel
theorem dX5_takesDigit_38 : decode cX5_takesDigit 38 = .ok (.putfield 32, 3) := by decide +kernel
theorem dX5_takesDigit_41 : decode cX5_takesDigit 41 = .ok (.goto 5, 3) := by decide +kernel
theorem dX5_takesDigit_44 : decode cX5_takesDigit 44 = .ok (.iconst 0, 1) := by decide +kernel
theorem dX5_takesDigit_45 : decode cX5_takesDigit 45 = .ok (.ireturn, 1) := by decide +kernel
theorem dX5_takesDigit_46 : decode cX5_takesDigit 46 = .ok (.aload_n 0, 1) := by decide +kernel
theorem dX5_takesDigit_47 : decode cX5_takesDigit 47 = .ok (.getfield 28, 3) := by decide +kernel
theorem dX5_takesDigit_50 : decode cX5_takesDigit 50 = .ok (.ifCond .eq 19, 3) := by decide +kernel
theorem dX5_takesDigit_53 : decode cX5_takesDigit 53 = .ok (.aload_n 0, 1) := by decide +kernel
theorem dX5_takesDigit_54 : decode cX5_takesDigit 54 = .ok (.getfield 22, 3) := by decide +kernel
theorem dX5_takesDigit_57 : decode cX5_takesDigit 57 = .ok (.aload_n 0, 1) := by decide +kernel
theorem dX5_takesDigit_58 : decode cX5_takesDigit 58 = .ok (.getfield 25, 3) := by decide +kernel
theorem dX5_takesDigit_61 : decode cX5_takesDigit 61 = .ok (.aload_n 0, 1) := by decide +kernel
theorem dX5_takesDigit_62 : decode cX5_takesDigit 62 = .ok (.getfield 32, 3) := by decide +kernel
theorem dX5_takesDigit_65 : decode cX5_takesDigit 65 = .ok (.iastore, 1) := by decide +kernel
theorem dX5_takesDigit_66 : decode cX5_takesDigit 66 = .ok (.goto 16, 3) := by decide +kernel
theorem dX5_takesDigit_69 : decode cX5_takesDigit 69 = .ok (.aload_n 0, 1) := by decide +kernel
theorem dX5_takesDigit_70 : decode cX5_takesDigit 70 = .ok (.getfield 19, 3) := by decide +kernel
theorem dX5_takesDigit_73 : decode cX5_takesDigit 73 = .ok (.aload_n 0, 1) := by decide +kernel
theorem dX5_takesDigit_74 : decode cX5_takesDigit 74 = .ok (.getfield 25, 3) := by decide +kernel
theorem dX5_takesDigit_77 : decode cX5_takesDigit 77 = .ok (.aload_n 0, 1) := by decide +kernel
theorem dX5_takesDigit_78 : decode cX5_takesDigit 78 = .ok (.getfield 32, 3) := by decide +kernel
theorem dX5_takesDigit_81 : decode cX5_takesDigit 81 = .ok (.iastore, 1) := by decide +kernel
theorem dX5_takesDigit_82 : decode cX5_takesDigit 82 = .ok (.iconst 1, 1) := by decide +kernel
theorem dX5_takesDigit_83 : decode cX5_takesDigit 83 = .ok (.ireturn, 1) := by decide +kernel
theorem dX5_drawInto_0 : decode cX5_drawInto 0 = .ok (.aload_n 1, 1) := by decide +kernel
theorem dX5_drawInto_1 : decode cX5_drawInto 1 = .ok (.invokevirtual 46, 3) := by decide +kernel
theorem dX5_drawInto_4 : decode cX5_drawInto 4 = .ok (.aload_n 1, 1) := by decide +kernel
theorem dX5_drawInto_5 : decode cX5_drawInto 5 = .ok (.bipush 16, 2) := by decide +kernel
theorem dX5_drawInto_7 : decode cX5_drawInto 7 = .ok (.aload_n 0, 1) := by decide +kernel
theorem dX5_drawInto_8 : decode cX5_drawInto 8 = .ok (.getfield 22, 3) := by decide +kernel
theorem dX5_drawInto_11 : decode cX5_drawInto 11 = .ok (.iconst 0, 1) := by decide +kernel
theorem dX5_drawInto_12 : decode cX5_drawInto 12 = .ok (.iaload, 1) := by decide +kernel
theorem dX5_drawInto_13 : decode cX5_drawInto 13 = .ok (.imul, 1) := by decide +kernel
theorem dX5_drawInto_14 : decode cX5_drawInto 14 = .ok (.aload_n 0, 1) := by decide +kernel
theorem dX5_drawInto_15 : decode cX5_drawInto 15 = .ok (.getfield 19, 3) := by decide +kernel
theorem dX5_drawInto_18 : decode cX5_drawInto 18 = .ok (.iconst 0, 1) := by decide +kernel
theorem dX5_drawInto_19 : decode cX5_drawInto 19 = .ok (.iaload, 1) := by decide +kernel
theorem dX5_drawInto_20 : decode cX5_drawInto 20 = .ok (.iadd, 1) := by decide +kernel
theorem dX5_drawInto_21 : decode cX5_drawInto 21 = .ok (.invokevirtual 51, 3) := by decide +kernel
theorem dX5_drawInto_24 : decode cX5_drawInto 24 = .ok (.iconst 1, 1) := by decide +kernel
theorem dX5_drawInto_25 : decode cX5_drawInto 25 = .ok (.istore_n 2, 1) := by decide +kernel
theorem dX5_drawInto_26 : decode cX5_drawInto 26 = .ok (.iload_n 2, 1) := by decide +kernel
theorem dX5_drawInto_27 : decode cX5_drawInto 27 = .ok (.aload_n 0, 1) := by decide +kernel
theorem dX5_drawInto_28 : decode cX5_drawInto 28 = .ok (.getfield 25, 3) := by decide +kernel
theorem dX5_drawInto_31 : decode cX5_drawInto 31 = .ok (.if_icmp .gt 18, 3) := by decide +kernel
theorem dX5_drawInto_34 : decode cX5_drawInto 34 = .ok (.aload_n 0, 1) := by decide +kernel
theorem dX5_drawInto_35 : decode cX5_drawInto 35 = .ok (.iload_n 2, 1) := by decide +kernel
theorem dX5_drawInto_36 : decode cX5_drawInto 36 = .ok (.iconst 1, 1) := by decide +kernel
theorem dX5_drawInto_37 : decode cX5_drawInto 37 = .ok (.isub, 1) := by decide +kernel
theorem dX5_drawInto_38 : decode cX5_drawInto 38 = .ok (.iload_n 2, 1) := by decide +kernel
theorem dX5_drawInto_39 : decode cX5_drawInto 39 = .ok (.aload_n 1, 1) := by decide +kernel
theorem dX5_drawInto_40 : decode cX5_drawInto 40 = .ok (.invokevirtual 55, 3) := by decide +kernel
theorem dX5_drawInto_43 : decode cX5_drawInto 43 = .ok (.iinc 2 1, 3) := by decide +kernel
theorem dX5_drawInto_46 : decode cX5_drawInto 46 = .ok (.goto (-20), 3) := by decide +kernel
theorem dX5_drawInto_49 : decode cX5_drawInto 49 = .ok (.return_, 1) := by decide +kernel
theorem dX5_drawLine_0 : decode cX5_drawLine 0 = .ok (.aload_n 0, 1) := by decide +kernel
theorem dX5_drawLine_1 : decode cX5_drawLine 1 = .ok (.getfield 19, 3) := by decide +kernel
theorem dX5_drawLine_4 : decode cX5_drawLine 4 = .ok (.iload_n 2, 1) := by decide +kernel
theorem dX5_drawLine_5 : decode cX5_drawLine 5 = .ok (.iaload, 1) := by decide +kernel
theorem dX5_drawLine_6 : decode cX5_drawLine 6 = .ok (.aload_n 0, 1) := by decide +kernel
theorem dX5_drawLine_7 : decode cX5_drawLine 7 = .ok (.getfield 19, 3) := by decide +kernel
theorem dX5_drawLine_10 : decode cX5_drawLine 10 = .ok (.iload_n 1, 1) := by decide +kernel
theorem dX5_drawLine_11 : decode cX5_drawLine 11 = .ok (.iaload, 1) := by decide +kernel
theorem dX5_drawLine_12 : decode cX5_drawLine 12 = .ok (.isub, 1) := by decide +kernel
theorem dX5_drawLine_13 : decode cX5_drawLine 13 = .ok (.istore 4, 2) := by decide +kernel
theorem dX5_drawLine_15 : decode cX5_drawLine 15 = .ok (.aload_n 0, 1) := by decide +kernel
theorem dX5_drawLine_16 : decode cX5_drawLine 16 = .ok (.getfield 22, 3) := by decide +kernel
theorem dX5_drawLine_19 : decode cX5_drawLine 19 = .ok (.iload_n 2, 1) := by decide +kernel
theorem dX5_drawLine_20 : decode cX5_drawLine 20 = .ok (.iaload, 1) := by decide +kernel
theorem dX5_drawLine_21 : decode cX5_drawLine 21 = .ok (.aload_n 0, 1) := by decide +kernel
theorem dX5_drawLine_22 : decode cX5_drawLine 22 = .ok (.getfield 22, 3) := by decide +kernel
theorem dX5_drawLine_25 : decode cX5_drawLine 25 = .ok (.iload_n 1, 1) := by decide +kernel
theorem dX5_drawLine_26 : decode cX5_drawLine 26 = .ok (.iaload, 1) := by decide +kernel
theorem dX5_drawLine_27 : decode cX5_drawLine 27 = .ok (.isub, 1) := by decide +kernel
theorem dX5_drawLine_28 : decode cX5_drawLine 28 = .ok (.istore 5, 2) := by decide +kernel
theorem dX5_drawLine_30 : decode cX5_drawLine 30 = .ok (.iload 4, 2) := by decide +kernel
theorem dX5_drawLine_32 : decode cX5_drawLine 32 = .ok (.invokestatic 59, 3) := by decide +kernel
theorem dX5_drawLine_35 : decode cX5_drawLine 35 = .ok (.iload 5, 2) := by decide +kernel
theorem dX5_drawLine_37 : decode cX5_drawLine 37 = .ok (.invokestatic 59, 3) := by decide +kernel
theorem dX5_drawLine_40 : decode cX5_drawLine 40 = .ok (.invokestatic 65, 3) := by decide +kernel
theorem dX5_drawLine_43 : decode cX5_drawLine 43 = .ok (.istore 6, 2) := by decide +kernel
theorem dX5_drawLine_45 : decode cX5_drawLine 45 = .ok (.iconst 0, 1) := by decide +kernel
theorem dX5_drawLine_46 : decode cX5_drawLine 46 = .ok (.istore 7, 2) := by decide +kernel
theorem dX5_drawLine_48 : decode cX5_drawLine 48 = .ok (.iload 7, 2) := by decide +kernel
theorem dX5_drawLine_50 : decode cX5_drawLine 50 = .ok (.iload 6, 2) := by decide +kernel
theorem dX5_drawLine_52 : decode cX5_drawLine 52 = .ok (.if_icmp .gt 59, 3) := by decide +kernel
theorem dX5_drawLine_55 : decode cX5_drawLine 55 = .ok (.aload_n 0, 1) := by decide +kernel
theorem dX5_drawLine_56 : decode cX5_drawLine 56 = .ok (.getfield 19, 3) := by decide +kernel
theorem dX5_drawLine_59 : decode cX5_drawLine 59 = .ok (.iload_n 1, 1) := by decide +kernel
theorem dX5_drawLine_60 : decode cX5_drawLine 60 = .ok (.iaload, 1) := by decide +kernel
theorem dX5_drawLine_61 : decode cX5_drawLine 61 = .ok (.iload 7, 2) := by decide +kernel
theorem dX5_drawLine_63 : decode cX5_drawLine 63 = .ok (.iload 4, 2) := by decide +kernel
theorem dX5_drawLine_65 : decode cX5_drawLine 65 = .ok (.imul, 1) := by decide +kernel
theorem dX5_drawLine_66 : decode cX5_drawLine 66 = .ok (.iload 6, 2) := by decide +kernel
theorem dX5_drawLine_68 : decode cX5_drawLine 68 = .ok (.invokestatic 69, 3) := by decide +kernel
theorem dX5_drawLine_71 : decode cX5_drawLine 71 = .ok (.iadd, 1) := by decide +kernel
theorem dX5_drawLine_72 : decode cX5_drawLine 72 = .ok (.istore 8, 2) := by decide +kernel
theorem dX5_drawLine_74 : decode cX5_drawLine 74 = .ok (.aload_n 0, 1) := by decide +kernel
theorem dX5_drawLine_75 : decode cX5_drawLine 75 = .ok (.getfield 22, 3) := by decide +kernel
theorem dX5_drawLine_78 : decode cX5_drawLine 78 = .ok (.iload_n 1, 1) := by decide +kernel
theorem dX5_drawLine_79 : decode cX5_drawLine 79 = .ok (.iaload, 1) := by decide +kernel
theorem dX5_drawLine_80 : decode cX5_drawLine 80 = .ok (.iload 7, 2) := by decide +kernel
theorem dX5_drawLine_82 : decode cX5_drawLine 82 = .ok (.iload 5, 2) := by decide +kernel
theorem dX5_drawLine_84 : decode cX5_drawLine 84 = .ok (.imul, 1) := by decide +kernel
theorem dX5_drawLine_85 : decode cX5_drawLine 85 = .ok (.iload 6, 2) := by decide +kernel
theorem dX5_drawLine_87 : decode cX5_drawLine 87 = .ok (.invokestatic 69, 3) := by decide +kernel
theorem dX5_drawLine_90 : decode cX5_drawLine 90 = .ok (.iadd, 1) := by decide +kernel
theorem dX5_drawLine_91 : decode cX5_drawLine 91 = .ok (.istore 9, 2) := by decide +kernel
theorem dX5_drawLine_93 : decode cX5_drawLine 93 = .ok (.aload_n 3, 1) := by decide +kernel
theorem dX5_drawLine_94 : decode cX5_drawLine 94 = .ok (.bipush 16, 2) := by decide +kernel
theorem dX5_drawLine_96 : decode cX5_drawLine 96 = .ok (.iload 9, 2) := by decide +kernel
theorem dX5_drawLine_98 : decode cX5_drawLine 98 = .ok (.imul, 1) := by decide +kernel
theorem dX5_drawLine_99 : decode cX5_drawLine 99 = .ok (.iload 8, 2) := by decide +kernel
theorem dX5_drawLine_101 : decode cX5_drawLine 101 = .ok (.iadd, 1) := by decide +kernel
theorem dX5_drawLine_102 : decode cX5_drawLine 102 = .ok (.invokevirtual 51, 3) := by decide +kernel
theorem dX5_drawLine_105 : decode cX5_drawLine 105 = .ok (.iinc 7 1, 3) := by decide +kernel
theorem dX5_drawLine_108 : decode cX5_drawLine 108 = .ok (.goto (-60), 3) := by decide +kernel
theorem dX5_drawLine_111 : decode cX5_drawLine 111 = .ok (.return_, 1) := by decide +kernel
theorem dX5_roundedQuotient_0 : decode cX5_roundedQuotient 0 = .ok (.iload_n 1, 1) := by decide +kernel
theorem dX5_roundedQuotient_1 : decode cX5_roundedQuotient 1 = .ok (.ifCond .gt 5, 3) := by decide +kernel
theorem dX5_roundedQuotient_4 : decode cX5_roundedQuotient 4 = .ok (.iconst 0, 1) := by decide +kernel
theorem dX5_roundedQuotient_5 : decode cX5_roundedQuotient 5 = .ok (.ireturn, 1) := by decide +kernel
theorem dX5_roundedQuotient_6 : decode cX5_roundedQuotient 6 = .ok (.iconst 2, 1) := by decide +kernel
theorem dX5_roundedQuotient_7 : decode cX5_roundedQuotient 7 = .ok (.iload_n 0, 1) := by decide +kernel
theorem dX5_roundedQuotient_8 : decode cX5_roundedQuotient 8 = .ok (.invokestatic 59, 3) := by decide +kernel
theorem dX5_roundedQuotient_11 : decode cX5_roundedQuotient 11 = .ok (.imul, 1) := by decide +kernel
theorem dX5_roundedQuotient_12 : decode cX5_roundedQuotient 12 = .ok (.iload_n 1, 1) := by decide +kernel
theorem dX5_roundedQuotient_13 : decode cX5_roundedQuotient 13 = .ok (.iadd, 1) := by decide +kernel
theorem dX5_roundedQuotient_14 : decode cX5_roundedQuotient 14 = .ok (.iconst 2, 1) := by decide +kernel
theorem dX5_roundedQuotient_15 : decode cX5_roundedQuotient 15 = .ok (.iload_n 1, 1) := by decide +kernel
theorem dX5_roundedQuotient_16 : decode cX5_roundedQuotient 16 = .ok (.imul, 1) := by decide +kernel
theorem dX5_roundedQuotient_17 : decode cX5_roundedQuotient 17 = .ok (.idiv, 1) := by decide +kernel
theorem dX5_roundedQuotient_18 : decode cX5_roundedQuotient 18 = .ok (.istore_n 2, 1) := by decide +kernel
theorem dX5_roundedQuotient_19 : decode cX5_roundedQuotient 19 = .ok (.iload_n 0, 1) := by decide +kernel
theorem dX5_roundedQuotient_20 : decode cX5_roundedQuotient 20 = .ok (.ifCond .ge 8, 3) := by decide +kernel
theorem dX5_roundedQuotient_23 : decode cX5_roundedQuotient 23 = .ok (.iload_n 2, 1) := by decide +kernel
theorem dX5_roundedQuotient_24 : decode cX5_roundedQuotient 24 = .ok (.ineg, 1) := by decide +kernel
theorem dX5_roundedQuotient_25 : decode cX5_roundedQuotient 25 = .ok (.goto 4, 3) := by decide +kernel
theorem dX5_roundedQuotient_28 : decode cX5_roundedQuotient 28 = .ok (.iload_n 2, 1) := by decide +kernel
theorem dX5_roundedQuotient_29 : decode cX5_roundedQuotient 29 = .ok (.ireturn, 1) := by decide +kernel
theorem dX6_init_0 : decode cX6_init 0 = .ok (.aload_n 0, 1) := by decide +kernel
theorem dX6_init_1 : decode cX6_init 1 = .ok (.invokespecial 3, 3) := by decide +kernel
theorem dX6_init_4 : decode cX6_init 4 = .ok (.aload_n 0, 1) := by decide +kernel
theorem dX6_init_5 : decode cX6_init 5 = .ok (.new 9, 3) := by decide +kernel
theorem dX6_init_8 : decode cX6_init 8 = .ok (.dup, 1) := by decide +kernel
theorem dX6_init_9 : decode cX6_init 9 = .ok (.invokespecial 11, 3) := by decide +kernel
theorem dX6_init_12 : decode cX6_init 12 = .ok (.putfield 12, 3) := by decide +kernel
theorem dX6_init_15 : decode cX6_init 15 = .ok (.aload_n 0, 1) := by decide +kernel
theorem dX6_init_16 : decode cX6_init 16 = .ok (.sipush 256, 3) := by decide +kernel
theorem dX6_init_19 : decode cX6_init 19 = .ok (.newarray .int, 2) := by decide +kernel
theorem dX6_init_21 : decode cX6_init 21 = .ok (.putfield 18, 3) := by decide +kernel
theorem dX6_init_24 : decode cX6_init 24 = .ok (.aload_n 0, 1) := by decide +kernel
theorem dX6_init_25 : decode cX6_init 25 = .ok (.iconst 0, 1) := by decide +kernel
theorem dX6_init_26 : decode cX6_init 26 = .ok (.putfield 22, 3) := by decide +kernel
theorem dX6_init_29 : decode cX6_init 29 = .ok (.return_, 1) := by decide +kernel
theorem dX6_parts_0 : decode cX6_parts 0 = .ok (.aload_n 0, 1) := by decide +kernel
theorem dX6_parts_1 : decode cX6_parts 1 = .ok (.getfield 12, 3) := by decide +kernel
theorem dX6_parts_4 : decode cX6_parts 4 = .ok (.aload_n 1, 1) := by decide +kernel
theorem dX6_parts_5 : decode cX6_parts 5 = .ok (.invokevirtual 26, 3) := by decide +kernel
theorem dX6_parts_8 : decode cX6_parts 8 = .ok (.iconst 0, 1) := by decide +kernel
theorem dX6_parts_9 : decode cX6_parts 9 = .ok (.istore_n 3, 1) := by decide +kernel
theorem dX6_parts_10 : decode cX6_parts 10 = .ok (.iconst 0, 1) := by decide +kernel
theorem dX6_parts_11 : decode cX6_parts 11 = .ok (.istore 4, 2) := by decide +kernel
theorem dX6_parts_13 : decode cX6_parts 13 = .ok (.iload 4, 2) := by decide +kernel
theorem dX6_parts_15 : decode cX6_parts 15 = .ok (.sipush 256, 3) := by decide +kernel
theorem dX6_parts_18 : decode cX6_parts 18 = .ok (.if_icmp .ge 31, 3) := by decide +kernel
theorem dX6_parts_21 : decode cX6_parts 21 = .ok (.aload_n 0, 1) := by decide +kernel
theorem dX6_parts_22 : decode cX6_parts 22 = .ok (.getfield 12, 3) := by decide +kernel
theorem dX6_parts_25 : decode cX6_parts 25 = .ok (.iload 4, 2) := by decide +kernel
theorem dX6_parts_27 : decode cX6_parts 27 = .ok (.invokevirtual 30, 3) := by decide +kernel
theorem dX6_parts_30 : decode cX6_parts 30 = .ok (.ifCond .eq 13, 3) := by decide +kernel
theorem dX6_parts_33 : decode cX6_parts 33 = .ok (.aload_n 0, 1) := by decide +kernel
theorem dX6_parts_34 : decode cX6_parts 34 = .ok (.iload 4, 2) := by decide +kernel
theorem dX6_parts_36 : decode cX6_parts 36 = .ok (.iload_n 2, 1) := by decide +kernel
theorem dX6_parts_37 : decode cX6_parts 37 = .ok (.invokevirtual 34, 3) := by decide +kernel
theorem dX6_parts_40 : decode cX6_parts 40 = .ok (.iinc 3 1, 3) := by decide +kernel
theorem dX6_parts_43 : decode cX6_parts 43 = .ok (.iinc 4 1, 3) := by decide +kernel
theorem dX6_parts_46 : decode cX6_parts 46 = .ok (.goto (-33), 3) := by decide +kernel
theorem dX6_parts_49 : decode cX6_parts 49 = .ok (.iload_n 3, 1) := by decide +kernel
theorem dX6_parts_50 : decode cX6_parts 50 = .ok (.ireturn, 1) := by decide +kernel
theorem dX6_reach_0 : decode cX6_reach 0 = .ok (.aload_n 0, 1) := by decide +kernel
theorem dX6_reach_1 : decode cX6_reach 1 = .ok (.getfield 12, 3) := by decide +kernel
theorem dX6_reach_4 : decode cX6_reach 4 = .ok (.aload_n 2, 1) := by decide +kernel
theorem dX6_reach_5 : decode cX6_reach 5 = .ok (.invokevirtual 26, 3) := by decide +kernel
theorem dX6_reach_8 : decode cX6_reach 8 = .ok (.aload_n 0, 1) := by decide +kernel
theorem dX6_reach_9 : decode cX6_reach 9 = .ok (.iload_n 1, 1) := by decide +kernel
theorem dX6_reach_10 : decode cX6_reach 10 = .ok (.iconst 0, 1) := by decide +kernel
theorem dX6_reach_11 : decode cX6_reach 11 = .ok (.invokevirtual 34, 3) := by decide +kernel
theorem dX6_reach_14 : decode cX6_reach 14 = .ok (.aload_n 3, 1) := by decide +kernel
theorem dX6_reach_15 : decode cX6_reach 15 = .ok (.invokevirtual 38, 3) := by decide +kernel
theorem dX6_reach_18 : decode cX6_reach 18 = .ok (.iconst 0, 1) := by decide +kernel
theorem dX6_reach_19 : decode cX6_reach 19 = .ok (.istore 4, 2) := by decide +kernel
theorem dX6_reach_21 : decode cX6_reach 21 = .ok (.iload 4, 2) := by decide +kernel
theorem dX6_reach_23 : decode cX6_reach 23 = .ok (.aload_n 0, 1) := by decide +kernel
theorem dX6_reach_24 : decode cX6_reach 24 = .ok (.getfield 22, 3) := by decide +kernel
theorem dX6_reach_27 : decode cX6_reach 27 = .ok (.if_icmp .ge 20, 3) := by decide +kernel
theorem dX6_reach_30 : decode cX6_reach 30 = .ok (.aload_n 3, 1) := by decide +kernel
theorem dX6_reach_31 : decode cX6_reach 31 = .ok (.aload_n 0, 1) := by decide +kernel
theorem dX6_reach_32 : decode cX6_reach 32 = .ok (.getfield 18, 3) := by decide +kernel
theorem dX6_reach_35 : decode cX6_reach 35 = .ok (.iload 4, 2) := by decide +kernel
theorem dX6_reach_37 : decode cX6_reach 37 = .ok (.iaload, 1) := by decide +kernel
theorem dX6_reach_38 : decode cX6_reach 38 = .ok (.invokevirtual 41, 3) := by decide +kernel
theorem dX6_reach_41 : decode cX6_reach 41 = .ok (.iinc 4 1, 3) := by decide +kernel
theorem dX6_reach_44 : decode cX6_reach 44 = .ok (.goto (-23), 3) := by decide +kernel
theorem dX6_reach_47 : decode cX6_reach 47 = .ok (.return_, 1) := by decide +kernel
theorem dX6_spread_0 : decode cX6_spread 0 = .ok (.aload_n 0, 1) := by decide +kernel
theorem dX6_spread_1 : decode cX6_spread 1 = .ok (.iconst 0, 1) := by decide +kernel
theorem dX6_spread_2 : decode cX6_spread 2 = .ok (.putfield 22, 3) := by decide +kernel
theorem dX6_spread_5 : decode cX6_spread 5 = .ok (.aload_n 0, 1) := by decide +kernel
theorem dX6_spread_6 : decode cX6_spread 6 = .ok (.iload_n 1, 1) := by decide +kernel
theorem dX6_spread_7 : decode cX6_spread 7 = .ok (.invokestatic 45, 3) := by decide +kernel
theorem dX6_spread_10 : decode cX6_spread 10 = .ok (.iload_n 1, 1) := by decide +kernel
theorem dX6_spread_11 : decode cX6_spread 11 = .ok (.invokestatic 49, 3) := by decide +kernel
theorem dX6_spread_14 : decode cX6_spread 14 = .ok (.invokevirtual 52, 3) := by decide +kernel
theorem dX6_spread_17 : decode cX6_spread 17 = .ok (.iconst 0, 1) := by decide +kernel
theorem dX6_spread_18 : decode cX6_spread 18 = .ok (.istore_n 3, 1) := by decide +kernel
theorem dX6_spread_19 : decode cX6_spread 19 = .ok (.iload_n 3, 1) := by decide +kernel
theorem dX6_spread_20 : decode cX6_spread 20 = .ok (.aload_n 0, 1) := by decide +kernel
theorem dX6_spread_21 : decode cX6_spread 21 = .ok (.getfield 22, 3) := by decide +kernel
theorem dX6_spread_24 : decode cX6_spread 24 = .ok (.if_icmp .ge 130, 3) := by decide +kernel
theorem dX6_spread_27 : decode cX6_spread 27 = .ok (.iload_n 3, 1) := by decide +kernel
theorem dX6_spread_28 : decode cX6_spread 28 = .ok (.sipush 256, 3) := by decide +kernel
theorem dX6_spread_31 : decode cX6_spread 31 = .ok (.if_icmp .ge 123, 3) := by decide +kernel
theorem dX6_spread_34 : decode cX6_spread 34 = .ok (.aload_n 0, 1) := by decide +kernel
theorem dX6_spread_35 : decode cX6_spread 35 = .ok (.getfield 18, 3) := by decide +kernel
theorem dX6_spread_38 : decode cX6_spread 38 = .ok (.iload_n 3, 1) := by decide +kernel
theorem dX6_spread_39 : decode cX6_spread 39 = .ok (.iaload, 1) := by decide +kernel
theorem dX6_spread_40 : decode cX6_spread 40 = .ok (.invokestatic 45, 3) := by decide +kernel
theorem dX6_spread_43 : decode cX6_spread 43 = .ok (.istore 4, 2) := by decide +kernel
theorem dX6_spread_45 : decode cX6_spread 45 = .ok (.aload_n 0, 1) := by decide +kernel
theorem dX6_spread_46 : decode cX6_spread 46 = .ok (.getfield 18, 3) := by decide +kernel
theorem dX6_spread_49 : decode cX6_spread 49 = .ok (.iload_n 3, 1) := by decide +kernel
theorem dX6_spread_50 : decode cX6_spread 50 = .ok (.iaload, 1) := by decide +kernel
theorem dX6_spread_51 : decode cX6_spread 51 = .ok (.invokestatic 49, 3) := by decide +kernel
theorem dX6_spread_54 : decode cX6_spread 54 = .ok (.istore 5, 2) := by decide +kernel
theorem dX6_spread_56 : decode cX6_spread 56 = .ok (.aload_n 0, 1) := by decide +kernel
theorem dX6_spread_57 : decode cX6_spread 57 = .ok (.iload 4, 2) := by decide +kernel
theorem dX6_spread_59 : decode cX6_spread 59 = .ok (.iload 5, 2) := by decide +kernel
theorem dX6_spread_61 : decode cX6_spread 61 = .ok (.iconst 1, 1) := by decide +kernel
theorem dX6_spread_62 : decode cX6_spread 62 = .ok (.isub, 1) := by decide +kernel
theorem dX6_spread_63 : decode cX6_spread 63 = .ok (.invokevirtual 52, 3) := by decide +kernel
theorem dX6_spread_66 : decode cX6_spread 66 = .ok (.aload_n 0, 1) := by decide +kernel
theorem dX6_spread_67 : decode cX6_spread 67 = .ok (.iload 4, 2) := by decide +kernel
theorem dX6_spread_69 : decode cX6_spread 69 = .ok (.iconst 1, 1) := by decide +kernel
theorem dX6_spread_70 : decode cX6_spread 70 = .ok (.isub, 1) := by decide +kernel
theorem dX6_spread_71 : decode cX6_spread 71 = .ok (.iload 5, 2) := by decide +kernel
theorem dX6_spread_73 : decode cX6_spread 73 = .ok (.invokevirtual 52, 3) := by decide +kernel
theorem dX6_spread_76 : decode cX6_spread 76 = .ok (.aload_n 0, 1) := by decide +kernel
theorem dX6_spread_77 : decode cX6_spread 77 = .ok (.iload 4, 2) := by decide +kernel
theorem dX6_spread_79 : decode cX6_spread 79 = .ok (.iconst 1, 1) := by decide +kernel
theorem dX6_spread_80 : decode cX6_spread 80 = .ok (.iadd, 1) := by decide +kernel
theorem dX6_spread_81 : decode cX6_spread 81 = .ok (.iload 5, 2) := by decide +kernel
theorem dX6_spread_83 : decode cX6_spread 83 = .ok (.invokevirtual 52, 3) := by decide +kernel
theorem dX6_spread_86 : decode cX6_spread 86 = .ok (.aload_n 0, 1) := by decide +kernel
theorem dX6_spread_87 : decode cX6_spread 87 = .ok (.iload 4, 2) := by decide +kernel
theorem dX6_spread_89 : decode cX6_spread 89 = .ok (.iload 5, 2) := by decide +kernel
theorem dX6_spread_91 : decode cX6_spread 91 = .ok (.iconst 1, 1) := by decide +kernel
theorem dX6_spread_92 : decode cX6_spread 92 = .ok (.iadd, 1) := by decide +kernel
theorem dX6_spread_93 : decode cX6_spread 93 = .ok (.invokevirtual 52, 3) := by decide +kernel
theorem dX6_spread_96 : decode cX6_spread 96 = .ok (.iload_n 2, 1) := by decide +kernel
theorem dX6_spread_97 : decode cX6_spread 97 = .ok (.ifCond .eq 51, 3) := by decide +kernel
theorem dX6_spread_100 : decode cX6_spread 100 = .ok (.aload_n 0, 1) := by decide +kernel
theorem dX6_spread_101 : decode cX6_spread 101 = .ok (.iload 4, 2) := by decide +kernel
theorem dX6_spread_103 : decode cX6_spread 103 = .ok (.iconst 1, 1) := by decide +kernel
theorem dX6_spread_104 : decode cX6_spread 104 = .ok (.isub, 1) := by decide +kernel
theorem dX6_spread_105 : decode cX6_spread 105 = .ok (.iload 5, 2) := by decide +kernel
theorem dX6_spread_107 : decode cX6_spread 107 = .ok (.iconst 1, 1) := by decide +kernel
theorem dX6_spread_108 : decode cX6_spread 108 = .ok (.isub, 1) := by decide +kernel
theorem dX6_spread_109 : decode cX6_spread 109 = .ok (.invokevirtual 52, 3) := by decide +kernel
theorem dX6_spread_112 : decode cX6_spread 112 = .ok (.aload_n 0, 1) := by decide +kernel
theorem dX6_spread_113 : decode cX6_spread 113 = .ok (.iload 4, 2) := by decide +kernel
theorem dX6_spread_115 : decode cX6_spread 115 = .ok (.iconst 1, 1) := by decide +kernel
theorem dX6_spread_116 : decode cX6_spread 116 = .ok (.iadd, 1) := by decide +kernel
theorem dX6_spread_117 : decode cX6_spread 117 = .ok (.iload 5, 2) := by decide +kernel
theorem dX6_spread_119 : decode cX6_spread 119 = .ok (.iconst 1, 1) := by decide +kernel
theorem dX6_spread_120 : decode cX6_spread 120 = .ok (.isub, 1) := by decide +kernel
theorem dX6_spread_121 : decode cX6_spread 121 = .ok (.invokevirtual 52, 3) := by decide +kernel
theorem dX6_spread_124 : decode cX6_spread 124 = .ok (.aload_n 0, 1) := by decide +kernel
theorem dX6_spread_125 : decode cX6_spread 125 = .ok (.iload 4, 2) := by decide +kernel
theorem dX6_spread_127 : decode cX6_spread 127 = .ok (.iconst 1, 1) := by decide +kernel
theorem dX6_spread_128 : decode cX6_spread 128 = .ok (.isub, 1) := by decide +kernel
theorem dX6_spread_129 : decode cX6_spread 129 = .ok (.iload 5, 2) := by decide +kernel
theorem dX6_spread_131 : decode cX6_spread 131 = .ok (.iconst 1, 1) := by decide +kernel
theorem dX6_spread_132 : decode cX6_spread 132 = .ok (.iadd, 1) := by decide +kernel
theorem dX6_spread_133 : decode cX6_spread 133 = .ok (.invokevirtual 52, 3) := by decide +kernel
theorem dX6_spread_136 : decode cX6_spread 136 = .ok (.aload_n 0, 1) := by decide +kernel
theorem dX6_spread_137 : decode cX6_spread 137 = .ok (.iload 4, 2) := by decide +kernel
theorem dX6_spread_139 : decode cX6_spread 139 = .ok (.iconst 1, 1) := by decide +kernel
theorem dX6_spread_140 : decode cX6_spread 140 = .ok (.iadd, 1) := by decide +kernel
theorem dX6_spread_141 : decode cX6_spread 141 = .ok (.iload 5, 2) := by decide +kernel
theorem dX6_spread_143 : decode cX6_spread 143 = .ok (.iconst 1, 1) := by decide +kernel
theorem dX6_spread_144 : decode cX6_spread 144 = .ok (.iadd, 1) := by decide +kernel
theorem dX6_spread_145 : decode cX6_spread 145 = .ok (.invokevirtual 52, 3) := by decide +kernel
theorem dX6_spread_148 : decode cX6_spread 148 = .ok (.iinc 3 1, 3) := by decide +kernel
theorem dX6_spread_151 : decode cX6_spread 151 = .ok (.goto (-132), 3) := by decide +kernel
theorem dX6_spread_154 : decode cX6_spread 154 = .ok (.return_, 1) := by decide +kernel
theorem dX6_enqueue_0 : decode cX6_enqueue 0 = .ok (.iload_n 1, 1) := by decide +kernel
theorem dX6_enqueue_1 : decode cX6_enqueue 1 = .ok (.ifCond .lt 29, 3) := by decide +kernel
theorem dX6_enqueue_4 : decode cX6_enqueue 4 = .ok (.iload_n 1, 1) := by decide +kernel
theorem dX6_enqueue_5 : decode cX6_enqueue 5 = .ok (.bipush 16, 2) := by decide +kernel
theorem dX6_enqueue_7 : decode cX6_enqueue 7 = .ok (.if_icmp .ge 23, 3) := by decide +kernel
theorem dX6_enqueue_10 : decode cX6_enqueue 10 = .ok (.iload_n 2, 1) := by decide +kernel
theorem dX6_enqueue_11 : decode cX6_enqueue 11 = .ok (.ifCond .lt 19, 3) := by decide +kernel
theorem dX6_enqueue_14 : decode cX6_enqueue 14 = .ok (.iload_n 2, 1) := by decide +kernel
theorem dX6_enqueue_15 : decode cX6_enqueue 15 = .ok (.bipush 16, 2) := by decide +kernel
theorem dX6_enqueue_17 : decode cX6_enqueue 17 = .ok (.if_icmp .ge 13, 3) := by decide +kernel
theorem dX6_enqueue_20 : decode cX6_enqueue 20 = .ok (.aload_n 0, 1) := by decide +kernel
theorem dX6_enqueue_21 : decode cX6_enqueue 21 = .ok (.getfield 22, 3) := by decide +kernel
theorem dX6_enqueue_24 : decode cX6_enqueue 24 = .ok (.sipush 256, 3) := by decide +kernel
theorem dX6_enqueue_27 : decode cX6_enqueue 27 = .ok (.if_icmp .lt 4, 3) := by decide +kernel
theorem dX6_enqueue_30 : decode cX6_enqueue 30 = .ok (.return_, 1) := by decide +kernel
theorem dX6_enqueue_31 : decode cX6_enqueue 31 = .ok (.bipush 16, 2) := by decide +kernel
theorem dX6_enqueue_33 : decode cX6_enqueue 33 = .ok (.iload_n 2, 1) := by decide +kernel
theorem dX6_enqueue_34 : decode cX6_enqueue 34 = .ok (.imul, 1) := by decide +kernel
theorem dX6_enqueue_35 : decode cX6_enqueue 35 = .ok (.iload_n 1, 1) := by decide +kernel
theorem dX6_enqueue_36 : decode cX6_enqueue 36 = .ok (.iadd, 1) := by decide +kernel
theorem dX6_enqueue_37 : decode cX6_enqueue 37 = .ok (.istore_n 3, 1) := by decide +kernel
theorem dX6_enqueue_38 : decode cX6_enqueue 38 = .ok (.aload_n 0, 1) := by decide +kernel
theorem dX6_enqueue_39 : decode cX6_enqueue 39 = .ok (.getfield 12, 3) := by decide +kernel
theorem dX6_enqueue_42 : decode cX6_enqueue 42 = .ok (.iload_n 3, 1) := by decide +kernel
theorem dX6_enqueue_43 : decode cX6_enqueue 43 = .ok (.invokevirtual 30, 3) := by decide +kernel
theorem dX6_enqueue_46 : decode cX6_enqueue 46 = .ok (.ifCond .eq 31, 3) := by decide +kernel
theorem dX6_enqueue_49 : decode cX6_enqueue 49 = .ok (.aload_n 0, 1) := by decide +kernel
theorem dX6_enqueue_50 : decode cX6_enqueue 50 = .ok (.getfield 12, 3) := by decide +kernel
theorem dX6_enqueue_53 : decode cX6_enqueue 53 = .ok (.iload_n 3, 1) := by decide +kernel
theorem dX6_enqueue_54 : decode cX6_enqueue 54 = .ok (.invokevirtual 56, 3) := by decide +kernel
theorem dX6_enqueue_57 : decode cX6_enqueue 57 = .ok (.aload_n 0, 1) := by decide +kernel
theorem dX6_enqueue_58 : decode cX6_enqueue 58 = .ok (.getfield 18, 3) := by decide +kernel
theorem dX6_enqueue_61 : decode cX6_enqueue 61 = .ok (.aload_n 0, 1) := by decide +kernel
theorem dX6_enqueue_62 : decode cX6_enqueue 62 = .ok (.getfield 22, 3) := by decide +kernel
theorem dX6_enqueue_65 : decode cX6_enqueue 65 = .ok (.iload_n 3, 1) := by decide +kernel
theorem dX6_enqueue_66 : decode cX6_enqueue 66 = .ok (.iastore, 1) := by decide +kernel
theorem dX6_enqueue_67 : decode cX6_enqueue 67 = .ok (.aload_n 0, 1) := by decide +kernel
theorem dX6_enqueue_68 : decode cX6_enqueue 68 = .ok (.dup, 1) := by decide +kernel
theorem dX6_enqueue_69 : decode cX6_enqueue 69 = .ok (.getfield 22, 3) := by decide +kernel
theorem dX6_enqueue_72 : decode cX6_enqueue 72 = .ok (.iconst 1, 1) := by decide +kernel
theorem dX6_enqueue_73 : decode cX6_enqueue 73 = .ok (.iadd, 1) := by decide +kernel
theorem dX6_enqueue_74 : decode cX6_enqueue 74 = .ok (.putfield 22, 3) := by decide +kernel
theorem dX6_enqueue_77 : decode cX6_enqueue 77 = .ok (.return_, 1) := by decide +kernel
theorem dX7_init_0 : decode cX7_init 0 = .ok (.aload_n 0, 1) := by decide +kernel
theorem dX7_init_1 : decode cX7_init 1 = .ok (.invokespecial 3, 3) := by decide +kernel
theorem dX7_init_4 : decode cX7_init 4 = .ok (.aload_n 0, 1) := by decide +kernel
theorem dX7_init_5 : decode cX7_init 5 = .ok (.bipush 60, 2) := by decide +kernel
theorem dX7_init_7 : decode cX7_init 7 = .ok (.anewarray 9, 3) := by decide +kernel
theorem dX7_init_10 : decode cX7_init 10 = .ok (.putfield 11, 3) := by decide +kernel
theorem dX7_init_13 : decode cX7_init 13 = .ok (.aload_n 0, 1) := by decide +kernel
theorem dX7_init_14 : decode cX7_init 14 = .ok (.sipush 256, 3) := by decide +kernel
theorem dX7_init_17 : decode cX7_init 17 = .ok (.newarray .int, 2) := by decide +kernel
theorem dX7_init_19 : decode cX7_init 19 = .ok (.putfield 17, 3) := by decide +kernel
theorem dX7_init_22 : decode cX7_init 22 = .ok (.aload_n 0, 1) := by decide +kernel
theorem dX7_init_23 : decode cX7_init 23 = .ok (.sipush 256, 3) := by decide +kernel
theorem dX7_init_26 : decode cX7_init 26 = .ok (.newarray .int, 2) := by decide +kernel
theorem dX7_init_28 : decode cX7_init 28 = .ok (.putfield 21, 3) := by decide +kernel
theorem dX7_init_31 : decode cX7_init 31 = .ok (.aload_n 0, 1) := by decide +kernel
theorem dX7_init_32 : decode cX7_init 32 = .ok (.bipush 60, 2) := by decide +kernel
theorem dX7_init_34 : decode cX7_init 34 = .ok (.newarray .int, 2) := by decide +kernel
theorem dX7_init_36 : decode cX7_init 36 = .ok (.putfield 24, 3) := by decide +kernel
theorem dX7_init_39 : decode cX7_init 39 = .ok (.iconst 0, 1) := by decide +kernel
theorem dX7_init_40 : decode cX7_init 40 = .ok (.istore_n 1, 1) := by decide +kernel
theorem dX7_init_41 : decode cX7_init 41 = .ok (.iload_n 1, 1) := by decide +kernel
theorem dX7_init_42 : decode cX7_init 42 = .ok (.bipush 60, 2) := by decide +kernel
theorem dX7_init_44 : decode cX7_init 44 = .ok (.if_icmp .ge 22, 3) := by decide +kernel
theorem dX7_init_47 : decode cX7_init 47 = .ok (.aload_n 0, 1) := by decide +kernel
theorem dX7_init_48 : decode cX7_init 48 = .ok (.getfield 11, 3) := by decide +kernel
theorem dX7_init_51 : decode cX7_init 51 = .ok (.iload_n 1, 1) := by decide +kernel
theorem dX7_init_52 : decode cX7_init 52 = .ok (.new 9, 3) := by decide +kernel
theorem dX7_init_55 : decode cX7_init 55 = .ok (.dup, 1) := by decide +kernel
theorem dX7_init_56 : decode cX7_init 56 = .ok (.invokespecial 27, 3) := by decide +kernel
theorem dX7_init_59 : decode cX7_init 59 = .ok (.aastore, 1) := by decide +kernel
theorem dX7_init_60 : decode cX7_init 60 = .ok (.iinc 1 1, 3) := by decide +kernel
theorem dX7_init_63 : decode cX7_init 63 = .ok (.goto (-22), 3) := by decide +kernel
theorem dX7_init_66 : decode cX7_init 66 = .ok (.iconst 0, 1) := by decide +kernel
theorem dX7_init_67 : decode cX7_init 67 = .ok (.istore_n 1, 1) := by decide +kernel
theorem dX7_init_68 : decode cX7_init 68 = .ok (.iload_n 1, 1) := by decide +kernel
theorem dX7_init_69 : decode cX7_init 69 = .ok (.sipush 256, 3) := by decide +kernel
theorem dX7_init_72 : decode cX7_init 72 = .ok (.if_icmp .ge 16, 3) := by decide +kernel
theorem dX7_init_75 : decode cX7_init 75 = .ok (.aload_n 0, 1) := by decide +kernel
theorem dX7_init_76 : decode cX7_init 76 = .ok (.getfield 17, 3) := by decide +kernel
theorem dX7_init_79 : decode cX7_init 79 = .ok (.iload_n 1, 1) := by decide +kernel
theorem dX7_init_80 : decode cX7_init 80 = .ok (.iconst (-1), 1) := by decide +kernel
theorem dX7_init_81 : decode cX7_init 81 = .ok (.iastore, 1) := by decide +kernel
theorem dX7_init_82 : decode cX7_init 82 = .ok (.iinc 1 1, 3) := by decide +kernel
theorem dX7_init_85 : decode cX7_init 85 = .ok (.goto (-17), 3) := by decide +kernel
theorem dX7_init_88 : decode cX7_init 88 = .ok (.return_, 1) := by decide +kernel
theorem dX7_show_0 : decode cX7_show 0 = .ok (.iconst 0, 1) := by decide +kernel
theorem dX7_show_1 : decode cX7_show 1 = .ok (.istore 4, 2) := by decide +kernel
theorem dX7_show_3 : decode cX7_show 3 = .ok (.iload 4, 2) := by decide +kernel
theorem dX7_show_5 : decode cX7_show 5 = .ok (.aload_n 1, 1) := by decide +kernel
theorem dX7_show_6 : decode cX7_show 6 = .ok (.getfield 28, 3) := by decide +kernel
theorem dX7_show_9 : decode cX7_show 9 = .ok (.if_icmp .ge 50, 3) := by decide +kernel
theorem dX7_show_12 : decode cX7_show 12 = .ok (.aload_n 0, 1) := by decide +kernel
theorem dX7_show_13 : decode cX7_show 13 = .ok (.getfield 11, 3) := by decide +kernel
theorem dX7_show_16 : decode cX7_show 16 = .ok (.iload 4, 2) := by decide +kernel
theorem dX7_show_18 : decode cX7_show 18 = .ok (.aaload, 1) := by decide +kernel
theorem dX7_show_19 : decode cX7_show 19 = .ok (.invokevirtual 34, 3) := by decide +kernel
theorem dX7_show_22 : decode cX7_show 22 = .ok (.aload_n 1, 1) := by decide +kernel
theorem dX7_show_23 : decode cX7_show 23 = .ok (.getfield 37, 3) := by decide +kernel
theorem dX7_show_26 : decode cX7_show 26 = .ok (.iload 4, 2) := by decide +kernel
theorem dX7_show_28 : decode cX7_show 28 = .ok (.aaload, 1) := by decide +kernel
theorem dX7_show_29 : decode cX7_show 29 = .ok (.getfield 41, 3) := by decide +kernel
theorem dX7_show_32 : decode cX7_show 32 = .ok (.iload 4, 2) := by decide +kernel
theorem dX7_show_34 : decode cX7_show 34 = .ok (.iload_n 3, 1) := by decide +kernel
theorem dX7_show_35 : decode cX7_show 35 = .ok (.if_icmp .ne 7, 3) := by decide +kernel
theorem dX7_show_38 : decode cX7_show 38 = .ok (.iconst 1, 1) := by decide +kernel
theorem dX7_show_39 : decode cX7_show 39 = .ok (.goto 4, 3) := by decide +kernel
theorem dX7_show_42 : decode cX7_show 42 = .ok (.iconst 0, 1) := by decide +kernel
theorem dX7_show_43 : decode cX7_show 43 = .ok (.if_icmp .eq 10, 3) := by decide +kernel
theorem dX7_show_46 : decode cX7_show 46 = .ok (.aload_n 0, 1) := by decide +kernel
theorem dX7_show_47 : decode cX7_show 47 = .ok (.aload_n 1, 1) := by decide +kernel
theorem dX7_show_48 : decode cX7_show 48 = .ok (.iload 4, 2) := by decide +kernel
theorem dX7_show_50 : decode cX7_show 50 = .ok (.invokevirtual 47, 3) := by decide +kernel
theorem dX7_show_53 : decode cX7_show 53 = .ok (.iinc 4 1, 3) := by decide +kernel
theorem dX7_show_56 : decode cX7_show 56 = .ok (.goto (-53), 3) := by decide +kernel
theorem dX7_show_59 : decode cX7_show 59 = .ok (.aload_n 0, 1) := by decide +kernel
theorem dX7_show_60 : decode cX7_show 60 = .ok (.invokevirtual 51, 3) := by decide +kernel
theorem dX7_show_63 : decode cX7_show 63 = .ok (.iconst 0, 1) := by decide +kernel
theorem dX7_show_64 : decode cX7_show 64 = .ok (.istore 4, 2) := by decide +kernel
theorem dX7_show_66 : decode cX7_show 66 = .ok (.iload 4, 2) := by decide +kernel
theorem dX7_show_68 : decode cX7_show 68 = .ok (.iconst 3, 1) := by decide +kernel
theorem dX7_show_69 : decode cX7_show 69 = .ok (.if_icmp .ge 66, 3) := by decide +kernel
theorem dX7_show_72 : decode cX7_show 72 = .ok (.iconst 0, 1) := by decide +kernel
theorem dX7_show_73 : decode cX7_show 73 = .ok (.istore 5, 2) := by decide +kernel
theorem dX7_show_75 : decode cX7_show 75 = .ok (.iload 5, 2) := by decide +kernel
theorem dX7_show_77 : decode cX7_show 77 = .ok (.aload_n 1, 1) := by decide +kernel
theorem dX7_show_78 : decode cX7_show 78 = .ok (.getfield 28, 3) := by decide +kernel
theorem dX7_show_81 : decode cX7_show 81 = .ok (.if_icmp .ge 48, 3) := by decide +kernel
theorem dX7_show_84 : decode cX7_show 84 = .ok (.aload_n 1, 1) := by decide +kernel
theorem dX7_show_85 : decode cX7_show 85 = .ok (.getfield 37, 3) := by decide +kernel
theorem dX7_show_88 : decode cX7_show 88 = .ok (.iload 5, 2) := by decide +kernel
theorem dX7_show_90 : decode cX7_show 90 = .ok (.aaload, 1) := by decide +kernel
theorem dX7_show_91 : decode cX7_show 91 = .ok (.astore 6, 2) := by decide +kernel
theorem dX7_show_93 : decode cX7_show 93 = .ok (.aload 6, 2) := by decide +kernel
theorem dX7_show_95 : decode cX7_show 95 = .ok (.getfield 54, 3) := by decide +kernel
theorem dX7_show_98 : decode cX7_show 98 = .ok (.iload 4, 2) := by decide +kernel
theorem dX7_show_100 : decode cX7_show 100 = .ok (.if_icmp .ne 23, 3) := by decide +kernel
theorem dX7_show_103 : decode cX7_show 103 = .ok (.aload 6, 2) := by decide +kernel
theorem dX7_show_105 : decode cX7_show 105 = .ok (.iload_n 2, 1) := by decide +kernel
theorem dX7_show_106 : decode cX7_show 106 = .ok (.invokevirtual 57, 3) := by decide +kernel
theorem dX7_show_109 : decode cX7_show 109 = .ok (.ifCond .ne 14, 3) := by decide +kernel
theorem dX7_show_112 : decode cX7_show 112 = .ok (.aload_n 0, 1) := by decide +kernel
theorem dX7_show_113 : decode cX7_show 113 = .ok (.iload 5, 2) := by decide +kernel
theorem dX7_show_115 : decode cX7_show 115 = .ok (.aload 6, 2) := by decide +kernel
theorem dX7_show_117 : decode cX7_show 117 = .ok (.getfield 61, 3) := by decide +kernel
theorem dX7_show_120 : decode cX7_show 120 = .ok (.invokevirtual 64, 3) := by decide +kernel
theorem dX7_show_123 : decode cX7_show 123 = .ok (.iinc 5 1, 3) := by decide +kernel
theorem dX7_show_126 : decode cX7_show 126 = .ok (.goto (-51), 3) := by decide +kernel
theorem dX7_show_129 : decode cX7_show 129 = .ok (.iinc 4 1, 3) := by decide +kernel
theorem dX7_show_132 : decode cX7_show 132 = .ok (.goto (-66), 3) := by decide +kernel
theorem dX7_show_135 : decode cX7_show 135 = .ok (.aload_n 0, 1) := by decide +kernel
theorem dX7_show_136 : decode cX7_show 136 = .ok (.invokevirtual 67, 3) := by decide +kernel
theorem dX7_show_139 : decode cX7_show 139 = .ok (.return_, 1) := by decide +kernel
theorem dX7_takeEffect_0 : decode cX7_takeEffect 0 = .ok (.aload_n 1, 1) := by decide +kernel
theorem dX7_takeEffect_1 : decode cX7_takeEffect 1 = .ok (.getfield 37, 3) := by decide +kernel
theorem dX7_takeEffect_4 : decode cX7_takeEffect 4 = .ok (.iload_n 2, 1) := by decide +kernel
theorem dX7_takeEffect_5 : decode cX7_takeEffect 5 = .ok (.aaload, 1) := by decide +kernel
theorem dX7_takeEffect_6 : decode cX7_takeEffect 6 = .ok (.astore_n 3, 1) := by decide +kernel
theorem dX7_takeEffect_7 : decode cX7_takeEffect 7 = .ok (.aload_n 3, 1) := by decide +kernel
theorem dX7_takeEffect_8 : decode cX7_takeEffect 8 = .ok (.getfield 70, 3) := by decide +kernel
theorem dX7_takeEffect_11 : decode cX7_takeEffect 11 = .ok (.iconst 2, 1) := by decide +kernel
theorem dX7_takeEffect_12 : decode cX7_takeEffect 12 = .ok (.if_icmp .eq 17, 3) := by decide +kernel
theorem dX7_takeEffect_15 : decode cX7_takeEffect 15 = .ok (.aload_n 0, 1) := by decide +kernel
theorem dX7_takeEffect_16 : decode cX7_takeEffect 16 = .ok (.getfield 11, 3) := by decide +kernel
theorem dX7_takeEffect_19 : decode cX7_takeEffect 19 = .ok (.iload_n 2, 1) := by decide +kernel
theorem dX7_takeEffect_20 : decode cX7_takeEffect 20 = .ok (.aaload, 1) := by decide +kernel
theorem dX7_takeEffect_21 : decode cX7_takeEffect 21 = .ok (.aload_n 3, 1) := by decide +kernel
theorem dX7_takeEffect_22 : decode cX7_takeEffect 22 = .ok (.getfield 73, 3) := by decide +kernel
theorem dX7_takeEffect_25 : decode cX7_takeEffect 25 = .ok (.invokevirtual 77, 3) := by decide +kernel
theorem dX7_takeEffect_28 : decode cX7_takeEffect 28 = .ok (.return_, 1) := by decide +kernel
theorem dX7_takeEffect_29 : decode cX7_takeEffect 29 = .ok (.iconst 0, 1) := by decide +kernel
theorem dX7_takeEffect_30 : decode cX7_takeEffect 30 = .ok (.istore 4, 2) := by decide +kernel
theorem dX7_takeEffect_32 : decode cX7_takeEffect 32 = .ok (.iload 4, 2) := by decide +kernel
theorem dX7_takeEffect_34 : decode cX7_takeEffect 34 = .ok (.iload_n 2, 1) := by decide +kernel
theorem dX7_takeEffect_35 : decode cX7_takeEffect 35 = .ok (.if_icmp .ge 43, 3) := by decide +kernel
theorem dX7_takeEffect_38 : decode cX7_takeEffect 38 = .ok (.aload_n 1, 1) := by decide +kernel
theorem dX7_takeEffect_39 : decode cX7_takeEffect 39 = .ok (.getfield 37, 3) := by decide +kernel
theorem dX7_takeEffect_42 : decode cX7_takeEffect 42 = .ok (.iload 4, 2) := by decide +kernel
theorem dX7_takeEffect_44 : decode cX7_takeEffect 44 = .ok (.aaload, 1) := by decide +kernel
theorem dX7_takeEffect_45 : decode cX7_takeEffect 45 = .ok (.getfield 54, 3) := by decide +kernel
theorem dX7_takeEffect_48 : decode cX7_takeEffect 48 = .ok (.aload_n 3, 1) := by decide +kernel
theorem dX7_takeEffect_49 : decode cX7_takeEffect 49 = .ok (.getfield 54, 3) := by decide +kernel
theorem dX7_takeEffect_52 : decode cX7_takeEffect 52 = .ok (.if_icmp .gt 20, 3) := by decide +kernel
theorem dX7_takeEffect_55 : decode cX7_takeEffect 55 = .ok (.aload_n 0, 1) := by decide +kernel
theorem dX7_takeEffect_56 : decode cX7_takeEffect 56 = .ok (.iload 4, 2) := by decide +kernel
theorem dX7_takeEffect_58 : decode cX7_takeEffect 58 = .ok (.aload_n 1, 1) := by decide +kernel
theorem dX7_takeEffect_59 : decode cX7_takeEffect 59 = .ok (.getfield 37, 3) := by decide +kernel
theorem dX7_takeEffect_62 : decode cX7_takeEffect 62 = .ok (.iload 4, 2) := by decide +kernel
theorem dX7_takeEffect_64 : decode cX7_takeEffect 64 = .ok (.aaload, 1) := by decide +kernel
theorem dX7_takeEffect_65 : decode cX7_takeEffect 65 = .ok (.getfield 81, 3) := by decide +kernel
theorem dX7_takeEffect_68 : decode cX7_takeEffect 68 = .ok (.aload_n 3, 1) := by decide +kernel
theorem dX7_takeEffect_69 : decode cX7_takeEffect 69 = .ok (.invokevirtual 84, 3) := by decide +kernel
theorem dX7_takeEffect_72 : decode cX7_takeEffect 72 = .ok (.iinc 4 1, 3) := by decide +kernel
theorem dX7_takeEffect_75 : decode cX7_takeEffect 75 = .ok (.goto (-43), 3) := by decide +kernel
theorem dX7_takeEffect_78 : decode cX7_takeEffect 78 = .ok (.return_, 1) := by decide +kernel
theorem dX7_eraseFrom_0 : decode cX7_eraseFrom 0 = .ok (.aload_n 3, 1) := by decide +kernel
theorem dX7_eraseFrom_1 : decode cX7_eraseFrom 1 = .ok (.getfield 61, 3) := by decide +kernel
theorem dX7_eraseFrom_4 : decode cX7_eraseFrom 4 = .ok (.iconst 1, 1) := by decide +kernel
theorem dX7_eraseFrom_5 : decode cX7_eraseFrom 5 = .ok (.if_icmp .ne 31, 3) := by decide +kernel
theorem dX7_eraseFrom_8 : decode cX7_eraseFrom 8 = .ok (.aload_n 0, 1) := by decide +kernel
theorem dX7_eraseFrom_9 : decode cX7_eraseFrom 9 = .ok (.getfield 11, 3) := by decide +kernel
theorem dX7_eraseFrom_12 : decode cX7_eraseFrom 12 = .ok (.iload_n 1, 1) := by decide +kernel
theorem dX7_eraseFrom_13 : decode cX7_eraseFrom 13 = .ok (.aaload, 1) := by decide +kernel
theorem dX7_eraseFrom_14 : decode cX7_eraseFrom 14 = .ok (.aload_n 3, 1) := by decide +kernel
theorem dX7_eraseFrom_15 : decode cX7_eraseFrom 15 = .ok (.getfield 73, 3) := by decide +kernel
theorem dX7_eraseFrom_18 : decode cX7_eraseFrom 18 = .ok (.invokevirtual 88, 3) := by decide +kernel
theorem dX7_eraseFrom_21 : decode cX7_eraseFrom 21 = .ok (.ifCond .eq 43, 3) := by decide +kernel
theorem dX7_eraseFrom_24 : decode cX7_eraseFrom 24 = .ok (.aload_n 0, 1) := by decide +kernel
theorem dX7_eraseFrom_25 : decode cX7_eraseFrom 25 = .ok (.getfield 11, 3) := by decide +kernel
theorem dX7_eraseFrom_28 : decode cX7_eraseFrom 28 = .ok (.iload_n 1, 1) := by decide +kernel
theorem dX7_eraseFrom_29 : decode cX7_eraseFrom 29 = .ok (.aaload, 1) := by decide +kernel
theorem dX7_eraseFrom_30 : decode cX7_eraseFrom 30 = .ok (.invokevirtual 34, 3) := by decide +kernel
theorem dX7_eraseFrom_33 : decode cX7_eraseFrom 33 = .ok (.goto 31, 3) := by decide +kernel
theorem dX7_eraseFrom_36 : decode cX7_eraseFrom 36 = .ok (.aload_n 3, 1) := by decide +kernel
theorem dX7_eraseFrom_37 : decode cX7_eraseFrom 37 = .ok (.getfield 61, 3) := by decide +kernel
theorem dX7_eraseFrom_40 : decode cX7_eraseFrom 40 = .ok (.ifCond .eq 11, 3) := by decide +kernel
theorem dX7_eraseFrom_43 : decode cX7_eraseFrom 43 = .ok (.iload_n 2, 1) := by decide +kernel
theorem dX7_eraseFrom_44 : decode cX7_eraseFrom 44 = .ok (.aload_n 3, 1) := by decide +kernel
theorem dX7_eraseFrom_45 : decode cX7_eraseFrom 45 = .ok (.getfield 81, 3) := by decide +kernel
theorem dX7_eraseFrom_48 : decode cX7_eraseFrom 48 = .ok (.if_icmp .ne 16, 3) := by decide +kernel
theorem dX7_eraseFrom_51 : decode cX7_eraseFrom 51 = .ok (.aload_n 0, 1) := by decide +kernel
theorem dX7_eraseFrom_52 : decode cX7_eraseFrom 52 = .ok (.getfield 11, 3) := by decide +kernel
theorem dX7_eraseFrom_55 : decode cX7_eraseFrom 55 = .ok (.iload_n 1, 1) := by decide +kernel
theorem dX7_eraseFrom_56 : decode cX7_eraseFrom 56 = .ok (.aaload, 1) := by decide +kernel
theorem dX7_eraseFrom_57 : decode cX7_eraseFrom 57 = .ok (.aload_n 3, 1) := by decide +kernel
theorem dX7_eraseFrom_58 : decode cX7_eraseFrom 58 = .ok (.getfield 73, 3) := by decide +kernel
theorem dX7_eraseFrom_61 : decode cX7_eraseFrom 61 = .ok (.invokevirtual 92, 3) := by decide +kernel
theorem dX7_eraseFrom_64 : decode cX7_eraseFrom 64 = .ok (.return_, 1) := by decide +kernel
theorem dX7_becomeBlank_0 : decode cX7_becomeBlank 0 = .ok (.iconst 0, 1) := by decide +kernel
theorem dX7_becomeBlank_1 : decode cX7_becomeBlank 1 = .ok (.istore_n 1, 1) := by decide +kernel
theorem dX7_becomeBlank_2 : decode cX7_becomeBlank 2 = .ok (.iload_n 1, 1) := by decide +kernel
theorem dX7_becomeBlank_3 : decode cX7_becomeBlank 3 = .ok (.sipush 256, 3) := by decide +kernel
theorem dX7_becomeBlank_6 : decode cX7_becomeBlank 6 = .ok (.if_icmp .ge 23, 3) := by decide +kernel
theorem dX7_becomeBlank_9 : decode cX7_becomeBlank 9 = .ok (.aload_n 0, 1) := by decide +kernel
theorem dX7_becomeBlank_10 : decode cX7_becomeBlank 10 = .ok (.getfield 17, 3) := by decide +kernel
theorem dX7_becomeBlank_13 : decode cX7_becomeBlank 13 = .ok (.iload_n 1, 1) := by decide +kernel
theorem dX7_becomeBlank_14 : decode cX7_becomeBlank 14 = .ok (.iconst (-1), 1) := by decide +kernel
theorem dX7_becomeBlank_15 : decode cX7_becomeBlank 15 = .ok (.iastore, 1) := by decide +kernel
theorem dX7_becomeBlank_16 : decode cX7_becomeBlank 16 = .ok (.aload_n 0, 1) := by decide +kernel
theorem dX7_becomeBlank_17 : decode cX7_becomeBlank 17 = .ok (.getfield 21, 3) := by decide +kernel
theorem dX7_becomeBlank_20 : decode cX7_becomeBlank 20 = .ok (.iload_n 1, 1) := by decide +kernel
theorem dX7_becomeBlank_21 : decode cX7_becomeBlank 21 = .ok (.iconst 0, 1) := by decide +kernel
theorem dX7_becomeBlank_22 : decode cX7_becomeBlank 22 = .ok (.iastore, 1) := by decide +kernel
theorem dX7_becomeBlank_23 : decode cX7_becomeBlank 23 = .ok (.iinc 1 1, 3) := by decide +kernel
theorem dX7_becomeBlank_26 : decode cX7_becomeBlank 26 = .ok (.goto (-24), 3) := by decide +kernel
theorem dX7_becomeBlank_29 : decode cX7_becomeBlank 29 = .ok (.return_, 1) := by decide +kernel
theorem dX7_paint_0 : decode cX7_paint 0 = .ok (.iconst 0, 1) := by decide +kernel
theorem dX7_paint_1 : decode cX7_paint 1 = .ok (.istore_n 3, 1) := by decide +kernel
theorem dX7_paint_2 : decode cX7_paint 2 = .ok (.iload_n 3, 1) := by decide +kernel
theorem dX7_paint_3 : decode cX7_paint 3 = .ok (.bipush 16, 2) := by decide +kernel
theorem dX7_paint_5 : decode cX7_paint 5 = .ok (.if_icmp .ge 30, 3) := by decide +kernel
theorem dX7_paint_8 : decode cX7_paint 8 = .ok (.aload_n 0, 1) := by decide +kernel
theorem dX7_paint_9 : decode cX7_paint 9 = .ok (.getfield 11, 3) := by decide +kernel
theorem dX7_paint_12 : decode cX7_paint 12 = .ok (.iload_n 1, 1) := by decide +kernel
theorem dX7_paint_13 : decode cX7_paint 13 = .ok (.aaload, 1) := by decide +kernel
theorem dX7_paint_14 : decode cX7_paint 14 = .ok (.getfield 95, 3) := by decide +kernel
theorem dX7_paint_17 : decode cX7_paint 17 = .ok (.iload_n 3, 1) := by decide +kernel
theorem dX7_paint_18 : decode cX7_paint 18 = .ok (.iaload, 1) := by decide +kernel
theorem dX7_paint_19 : decode cX7_paint 19 = .ok (.ifCond .eq 10, 3) := by decide +kernel
theorem dX7_paint_22 : decode cX7_paint 22 = .ok (.aload_n 0, 1) := by decide +kernel
theorem dX7_paint_23 : decode cX7_paint 23 = .ok (.iload_n 1, 1) := by decide +kernel
theorem dX7_paint_24 : decode cX7_paint 24 = .ok (.iload_n 2, 1) := by decide +kernel
theorem dX7_paint_25 : decode cX7_paint 25 = .ok (.iload_n 3, 1) := by decide +kernel
theorem dX7_paint_26 : decode cX7_paint 26 = .ok (.invokevirtual 98, 3) := by decide +kernel
theorem dX7_paint_29 : decode cX7_paint 29 = .ok (.iinc 3 1, 3) := by decide +kernel
theorem dX7_paint_32 : decode cX7_paint 32 = .ok (.goto (-30), 3) := by decide +kernel
theorem dX7_paint_35 : decode cX7_paint 35 = .ok (.return_, 1) := by decide +kernel
theorem dX7_paintRow_0 : decode cX7_paintRow 0 = .ok (.iconst 0, 1) := by decide +kernel
theorem dX7_paintRow_1 : decode cX7_paintRow 1 = .ok (.istore 4, 2) := by decide +kernel
theorem dX7_paintRow_3 : decode cX7_paintRow 3 = .ok (.iload 4, 2) := by decide +kernel
theorem dX7_paintRow_5 : decode cX7_paintRow 5 = .ok (.bipush 16, 2) := by decide +kernel
theorem dX7_paintRow_7 : decode cX7_paintRow 7 = .ok (.if_icmp .ge 48, 3) := by decide +kernel
theorem dX7_paintRow_10 : decode cX7_paintRow 10 = .ok (.bipush 16, 2) := by decide +kernel
theorem dX7_paintRow_12 : decode cX7_paintRow 12 = .ok (.iload_n 3, 1) := by decide +kernel
theorem dX7_paintRow_13 : decode cX7_paintRow 13 = .ok (.imul, 1) := by decide +kernel
theorem dX7_paintRow_14 : decode cX7_paintRow 14 = .ok (.iload 4, 2) := by decide +kernel
theorem dX7_paintRow_16 : decode cX7_paintRow 16 = .ok (.iadd, 1) := by decide +kernel
theorem dX7_paintRow_17 : decode cX7_paintRow 17 = .ok (.istore 5, 2) := by decide +kernel
theorem dX7_paintRow_19 : decode cX7_paintRow 19 = .ok (.aload_n 0, 1) := by decide +kernel
theorem dX7_paintRow_20 : decode cX7_paintRow 20 = .ok (.getfield 11, 3) := by decide +kernel
theorem dX7_paintRow_23 : decode cX7_paintRow 23 = .ok (.iload_n 1, 1) := by decide +kernel
theorem dX7_paintRow_24 : decode cX7_paintRow 24 = .ok (.aaload, 1) := by decide +kernel
theorem dX7_paintRow_25 : decode cX7_paintRow 25 = .ok (.iload 5, 2) := by decide +kernel
theorem dX7_paintRow_27 : decode cX7_paintRow 27 = .ok (.invokevirtual 102, 3) := by decide +kernel
theorem dX7_paintRow_30 : decode cX7_paintRow 30 = .ok (.ifCond .eq 19, 3) := by decide +kernel
theorem dX7_paintRow_33 : decode cX7_paintRow 33 = .ok (.aload_n 0, 1) := by decide +kernel
theorem dX7_paintRow_34 : decode cX7_paintRow 34 = .ok (.getfield 17, 3) := by decide +kernel
theorem dX7_paintRow_37 : decode cX7_paintRow 37 = .ok (.iload 5, 2) := by decide +kernel
theorem dX7_paintRow_39 : decode cX7_paintRow 39 = .ok (.iload_n 1, 1) := by decide +kernel
theorem dX7_paintRow_40 : decode cX7_paintRow 40 = .ok (.iastore, 1) := by decide +kernel
theorem dX7_paintRow_41 : decode cX7_paintRow 41 = .ok (.aload_n 0, 1) := by decide +kernel
theorem dX7_paintRow_42 : decode cX7_paintRow 42 = .ok (.getfield 21, 3) := by decide +kernel
theorem dX7_paintRow_45 : decode cX7_paintRow 45 = .ok (.iload 5, 2) := by decide +kernel
theorem dX7_paintRow_47 : decode cX7_paintRow 47 = .ok (.iload_n 2, 1) := by decide +kernel
theorem dX7_paintRow_48 : decode cX7_paintRow 48 = .ok (.iastore, 1) := by decide +kernel
theorem dX7_paintRow_49 : decode cX7_paintRow 49 = .ok (.iinc 4 1, 3) := by decide +kernel
theorem dX7_paintRow_52 : decode cX7_paintRow 52 = .ok (.goto (-49), 3) := by decide +kernel
theorem dX7_paintRow_55 : decode cX7_paintRow 55 = .ok (.return_, 1) := by decide +kernel
theorem dX7_countTops_0 : decode cX7_countTops 0 = .ok (.iconst 0, 1) := by decide +kernel
theorem dX7_countTops_1 : decode cX7_countTops 1 = .ok (.istore_n 1, 1) := by decide +kernel
theorem dX7_countTops_2 : decode cX7_countTops 2 = .ok (.iload_n 1, 1) := by decide +kernel
theorem dX7_countTops_3 : decode cX7_countTops 3 = .ok (.bipush 60, 2) := by decide +kernel
theorem dX7_countTops_5 : decode cX7_countTops 5 = .ok (.if_icmp .ge 16, 3) := by decide +kernel
theorem dX7_countTops_8 : decode cX7_countTops 8 = .ok (.aload_n 0, 1) := by decide +kernel
theorem dX7_countTops_9 : decode cX7_countTops 9 = .ok (.getfield 24, 3) := by decide +kernel
theorem dX7_countTops_12 : decode cX7_countTops 12 = .ok (.iload_n 1, 1) := by decide +kernel
theorem dX7_countTops_13 : decode cX7_countTops 13 = .ok (.iconst 0, 1) := by decide +kernel
theorem dX7_countTops_14 : decode cX7_countTops 14 = .ok (.iastore, 1) := by decide +kernel
theorem dX7_countTops_15 : decode cX7_countTops 15 = .ok (.iinc 1 1, 3) := by decide +kernel
theorem dX7_countTops_18 : decode cX7_countTops 18 = .ok (.goto (-16), 3) := by decide +kernel
theorem dX7_countTops_21 : decode cX7_countTops 21 = .ok (.iconst 0, 1) := by decide +kernel
theorem dX7_countTops_22 : decode cX7_countTops 22 = .ok (.istore_n 1, 1) := by decide +kernel
theorem dX7_countTops_23 : decode cX7_countTops 23 = .ok (.iload_n 1, 1) := by decide +kernel
theorem dX7_countTops_24 : decode cX7_countTops 24 = .ok (.sipush 256, 3) := by decide +kernel
theorem dX7_countTops_27 : decode cX7_countTops 27 = .ok (.if_icmp .ge 36, 3) := by decide +kernel
theorem dX7_countTops_30 : decode cX7_countTops 30 = .ok (.aload_n 0, 1) := by decide +kernel
theorem dX7_countTops_31 : decode cX7_countTops 31 = .ok (.getfield 17, 3) := by decide +kernel
theorem dX7_countTops_34 : decode cX7_countTops 34 = .ok (.iload_n 1, 1) := by decide +kernel
theorem dX7_countTops_35 : decode cX7_countTops 35 = .ok (.iaload, 1) := by decide +kernel
theorem dX7_countTops_36 : decode cX7_countTops 36 = .ok (.istore_n 2, 1) := by decide +kernel
theorem dX7_countTops_37 : decode cX7_countTops 37 = .ok (.iload_n 2, 1) := by decide +kernel
theorem dX7_countTops_38 : decode cX7_countTops 38 = .ok (.ifCond .lt 19, 3) := by decide +kernel
theorem dX7_countTops_41 : decode cX7_countTops 41 = .ok (.iload_n 2, 1) := by decide +kernel
theorem dX7_countTops_42 : decode cX7_countTops 42 = .ok (.bipush 60, 2) := by decide +kernel
theorem dX7_countTops_44 : decode cX7_countTops 44 = .ok (.if_icmp .ge 13, 3) := by decide +kernel
theorem dX7_countTops_47 : decode cX7_countTops 47 = .ok (.aload_n 0, 1) := by decide +kernel
theorem dX7_countTops_48 : decode cX7_countTops 48 = .ok (.getfield 24, 3) := by decide +kernel
theorem dX7_countTops_51 : decode cX7_countTops 51 = .ok (.iload_n 2, 1) := by decide +kernel
theorem dX7_countTops_52 : decode cX7_countTops 52 = .ok (.dup2, 1) := by decide +kernel
theorem dX7_countTops_53 : decode cX7_countTops 53 = .ok (.iaload, 1) := by decide +kernel
theorem dX7_countTops_54 : decode cX7_countTops 54 = .ok (.iconst 1, 1) := by decide +kernel
theorem dX7_countTops_55 : decode cX7_countTops 55 = .ok (.iadd, 1) := by decide +kernel
theorem dX7_countTops_56 : decode cX7_countTops 56 = .ok (.iastore, 1) := by decide +kernel
theorem dX7_countTops_57 : decode cX7_countTops 57 = .ok (.iinc 1 1, 3) := by decide +kernel
theorem dX7_countTops_60 : decode cX7_countTops 60 = .ok (.goto (-37), 3) := by decide +kernel
theorem dX7_countTops_63 : decode cX7_countTops 63 = .ok (.return_, 1) := by decide +kernel
theorem dX7_paintedCells_0 : decode cX7_paintedCells 0 = .ok (.iconst 0, 1) := by decide +kernel
theorem dX7_paintedCells_1 : decode cX7_paintedCells 1 = .ok (.istore_n 1, 1) := by decide +kernel
theorem dX7_paintedCells_2 : decode cX7_paintedCells 2 = .ok (.iconst 0, 1) := by decide +kernel
theorem dX7_paintedCells_3 : decode cX7_paintedCells 3 = .ok (.istore_n 2, 1) := by decide +kernel
theorem dX7_paintedCells_4 : decode cX7_paintedCells 4 = .ok (.iload_n 2, 1) := by decide +kernel
theorem dX7_paintedCells_5 : decode cX7_paintedCells 5 = .ok (.sipush 256, 3) := by decide +kernel
theorem dX7_paintedCells_8 : decode cX7_paintedCells 8 = .ok (.if_icmp .ge 22, 3) := by decide +kernel
theorem dX7_paintedCells_11 : decode cX7_paintedCells 11 = .ok (.aload_n 0, 1) := by decide +kernel
theorem dX7_paintedCells_12 : decode cX7_paintedCells 12 = .ok (.getfield 17, 3) := by decide +kernel
theorem dX7_paintedCells_15 : decode cX7_paintedCells 15 = .ok (.iload_n 2, 1) := by decide +kernel
theorem dX7_paintedCells_16 : decode cX7_paintedCells 16 = .ok (.iaload, 1) := by decide +kernel
theorem dX7_paintedCells_17 : decode cX7_paintedCells 17 = .ok (.iconst (-1), 1) := by decide +kernel
theorem dX7_paintedCells_18 : decode cX7_paintedCells 18 = .ok (.if_icmp .eq 6, 3) := by decide +kernel
theorem dX7_paintedCells_21 : decode cX7_paintedCells 21 = .ok (.iinc 1 1, 3) := by decide +kernel
theorem dX7_paintedCells_24 : decode cX7_paintedCells 24 = .ok (.iinc 2 1, 3) := by decide +kernel
theorem dX7_paintedCells_27 : decode cX7_paintedCells 27 = .ok (.goto (-23), 3) := by decide +kernel
theorem dX7_paintedCells_30 : decode cX7_paintedCells 30 = .ok (.iload_n 1, 1) := by decide +kernel
theorem dX7_paintedCells_31 : decode cX7_paintedCells 31 = .ok (.ireturn, 1) := by decide +kernel
theorem dX7_hiddenOperations_0 : decode cX7_hiddenOperations 0 = .ok (.iconst 0, 1) := by decide +kernel
theorem dX7_hiddenOperations_1 : decode cX7_hiddenOperations 1 = .ok (.istore_n 3, 1) := by decide +kernel
theorem dX7_hiddenOperations_2 : decode cX7_hiddenOperations 2 = .ok (.iconst 0, 1) := by decide +kernel
theorem dX7_hiddenOperations_3 : decode cX7_hiddenOperations 3 = .ok (.istore 4, 2) := by decide +kernel
theorem dX7_hiddenOperations_5 : decode cX7_hiddenOperations 5 = .ok (.iload 4, 2) := by decide +kernel
theorem dX7_hiddenOperations_7 : decode cX7_hiddenOperations 7 = .ok (.aload_n 1, 1) := by decide +kernel
theorem dX7_hiddenOperations_8 : decode cX7_hiddenOperations 8 = .ok (.getfield 28, 3) := by decide +kernel
theorem dX7_hiddenOperations_11 : decode cX7_hiddenOperations 11 = .ok (.if_icmp .ge 49, 3) := by decide +kernel
theorem dX7_hiddenOperations_14 : decode cX7_hiddenOperations 14 = .ok (.aload_n 0, 1) := by decide +kernel
theorem dX7_hiddenOperations_15 : decode cX7_hiddenOperations 15 = .ok (.getfield 24, 3) := by decide +kernel
theorem dX7_hiddenOperations_18 : decode cX7_hiddenOperations 18 = .ok (.iload 4, 2) := by decide +kernel
theorem dX7_hiddenOperations_20 : decode cX7_hiddenOperations 20 = .ok (.iaload, 1) := by decide +kernel
theorem dX7_hiddenOperations_21 : decode cX7_hiddenOperations 21 = .ok (.ifCond .ne 33, 3) := by decide +kernel
theorem dX7_hiddenOperations_24 : decode cX7_hiddenOperations 24 = .ok (.aload_n 0, 1) := by decide +kernel
theorem dX7_hiddenOperations_25 : decode cX7_hiddenOperations 25 = .ok (.getfield 11, 3) := by decide +kernel
theorem dX7_hiddenOperations_28 : decode cX7_hiddenOperations 28 = .ok (.iload 4, 2) := by decide +kernel
theorem dX7_hiddenOperations_30 : decode cX7_hiddenOperations 30 = .ok (.aaload, 1) := by decide +kernel
theorem dX7_hiddenOperations_31 : decode cX7_hiddenOperations 31 = .ok (.invokevirtual 105, 3) := by decide +kernel
theorem dX7_hiddenOperations_34 : decode cX7_hiddenOperations 34 = .ok (.ifCond .le 20, 3) := by decide +kernel
theorem dX7_hiddenOperations_37 : decode cX7_hiddenOperations 37 = .ok (.aload_n 1, 1) := by decide +kernel
theorem dX7_hiddenOperations_38 : decode cX7_hiddenOperations 38 = .ok (.getfield 37, 3) := by decide +kernel
theorem dX7_hiddenOperations_41 : decode cX7_hiddenOperations 41 = .ok (.iload 4, 2) := by decide +kernel
theorem dX7_hiddenOperations_43 : decode cX7_hiddenOperations 43 = .ok (.aaload, 1) := by decide +kernel
theorem dX7_hiddenOperations_44 : decode cX7_hiddenOperations 44 = .ok (.iload_n 2, 1) := by decide +kernel
theorem dX7_hiddenOperations_45 : decode cX7_hiddenOperations 45 = .ok (.invokevirtual 57, 3) := by decide +kernel
theorem dX7_hiddenOperations_48 : decode cX7_hiddenOperations 48 = .ok (.ifCond .ne 6, 3) := by decide +kernel
theorem dX7_hiddenOperations_51 : decode cX7_hiddenOperations 51 = .ok (.iinc 3 1, 3) := by decide +kernel
theorem dX7_hiddenOperations_54 : decode cX7_hiddenOperations 54 = .ok (.iinc 4 1, 3) := by decide +kernel
theorem dX7_hiddenOperations_57 : decode cX7_hiddenOperations 57 = .ok (.goto (-52), 3) := by decide +kernel
theorem dX7_hiddenOperations_60 : decode cX7_hiddenOperations 60 = .ok (.iload_n 3, 1) := by decide +kernel
theorem dX7_hiddenOperations_61 : decode cX7_hiddenOperations 61 = .ok (.ireturn, 1) := by decide +kernel
theorem dX7_collectColor_0 : decode cX7_collectColor 0 = .ok (.aload_n 2, 1) := by decide +kernel
theorem dX7_collectColor_1 : decode cX7_collectColor 1 = .ok (.invokevirtual 34, 3) := by decide +kernel
theorem dX7_collectColor_4 : decode cX7_collectColor 4 = .ok (.iconst 0, 1) := by decide +kernel
theorem dX7_collectColor_5 : decode cX7_collectColor 5 = .ok (.istore_n 3, 1) := by decide +kernel
theorem dX7_collectColor_6 : decode cX7_collectColor 6 = .ok (.iload_n 3, 1) := by decide +kernel
theorem dX7_collectColor_7 : decode cX7_collectColor 7 = .ok (.sipush 256, 3) := by decide +kernel
theorem dX7_collectColor_10 : decode cX7_collectColor 10 = .ok (.if_icmp .ge 24, 3) := by decide +kernel
theorem dX7_collectColor_13 : decode cX7_collectColor 13 = .ok (.aload_n 0, 1) := by decide +kernel
theorem dX7_collectColor_14 : decode cX7_collectColor 14 = .ok (.getfield 21, 3) := by decide +kernel
theorem dX7_collectColor_17 : decode cX7_collectColor 17 = .ok (.iload_n 3, 1) := by decide +kernel
theorem dX7_collectColor_18 : decode cX7_collectColor 18 = .ok (.iaload, 1) := by decide +kernel
theorem dX7_collectColor_19 : decode cX7_collectColor 19 = .ok (.iload_n 1, 1) := by decide +kernel
theorem dX7_collectColor_20 : decode cX7_collectColor 20 = .ok (.if_icmp .ne 8, 3) := by decide +kernel
theorem dX7_collectColor_23 : decode cX7_collectColor 23 = .ok (.aload_n 2, 1) := by decide +kernel
theorem dX7_collectColor_24 : decode cX7_collectColor 24 = .ok (.iload_n 3, 1) := by decide +kernel
theorem dX7_collectColor_25 : decode cX7_collectColor 25 = .ok (.invokevirtual 108, 3) := by decide +kernel
theorem dX7_collectColor_28 : decode cX7_collectColor 28 = .ok (.iinc 3 1, 3) := by decide +kernel
theorem dX7_collectColor_31 : decode cX7_collectColor 31 = .ok (.goto (-25), 3) := by decide +kernel
theorem dX7_collectColor_34 : decode cX7_collectColor 34 = .ok (.return_, 1) := by decide +kernel
theorem fk_X5_9 : Cond.fieldLink RX5 9 RX5 (TX5 0).2.1 (TX5 0).2.2.1 ∈ gl := gl_tb (by decide +kernel) rfl
theorem fk_X5_15 : Cond.fieldLink RX5 15 RX5 (TX5 1).2.1 (TX5 1).2.2.1 ∈ gl := gl_tb (by decide +kernel) rfl
theorem fk_X5_19 : Cond.fieldLink RX5 19 RX5 (TX5 2).2.1 (TX5 2).2.2.1 ∈ gl := gl_tb (by decide +kernel) rfl
theorem fk_X5_22 : Cond.fieldLink RX5 22 RX5 (TX5 3).2.1 (TX5 3).2.2.1 ∈ gl := gl_tb (by decide +kernel) rfl
theorem fk_X5_25 : Cond.fieldLink RX5 25 RX5 (TX5 4).2.1 (TX5 4).2.2.1 ∈ gl := gl_tb (by decide +kernel) rfl
theorem fk_X5_28 : Cond.fieldLink RX5 28 RX5 (TX5 5).2.1 (TX5 5).2.2.1 ∈ gl := gl_tb (by decide +kernel) rfl
theorem fk_X5_32 : Cond.fieldLink RX5 32 RX5 (TX5 6).2.1 (TX5 6).2.2.1 ∈ gl := gl_tb (by decide +kernel) rfl
theorem mk_X5_35 : Cond.methodLink RX5 35 yX5_takes ∈ gl := gl_tb (by decide +kernel) rfl
theorem mk_X5_39 : Cond.methodLink RX5 39 yX5_readToError ∈ gl := gl_tb (by decide +kernel) rfl
theorem mk_X5_43 : Cond.methodLink RX5 43 yX5_takesDigit ∈ gl := gl_tb (by decide +kernel) rfl
theorem mk_X5_46 : Cond.methodLink RX5 46 yX0_becomeEmpty ∈ gl := gl_tb (by decide +kernel) rfl
theorem mk_X5_51 : Cond.methodLink RX5 51 yX0_include ∈ gl := gl_tb (by decide +kernel) rfl
theorem mk_X5_55 : Cond.methodLink RX5 55 yX5_drawLine ∈ gl := gl_tb (by decide +kernel) rfl
theorem mk_X5_59 : Cond.methodLink RX5 59 Lib.Math.abs.name ∈ gl := gl_tb (by decide +kernel) rfl
theorem mk_X5_65 : Cond.methodLink RX5 65 Lib.Math.max.name ∈ gl := gl_tb (by decide +kernel) rfl
theorem mk_X5_69 : Cond.methodLink RX5 69 yX5_roundedQuotient ∈ gl := gl_tb (by decide +kernel) rfl
theorem fk_X6_12 : Cond.fieldLink RX6 12 RX6 (TX6 0).2.1 (TX6 0).2.2.1 ∈ gl := gl_tb (by decide +kernel) rfl
theorem fk_X6_18 : Cond.fieldLink RX6 18 RX6 (TX6 1).2.1 (TX6 1).2.2.1 ∈ gl := gl_tb (by decide +kernel) rfl
theorem fk_X6_22 : Cond.fieldLink RX6 22 RX6 (TX6 2).2.1 (TX6 2).2.2.1 ∈ gl := gl_tb (by decide +kernel) rfl
theorem mk_X6_26 : Cond.methodLink RX6 26 yX0_becomeCopy ∈ gl := gl_tb (by decide +kernel) rfl
theorem mk_X6_30 : Cond.methodLink RX6 30 yX0_contains ∈ gl := gl_tb (by decide +kernel) rfl
theorem mk_X6_34 : Cond.methodLink RX6 34 yX6_spread ∈ gl := gl_tb (by decide +kernel) rfl
theorem mk_X6_38 : Cond.methodLink RX6 38 yX0_becomeEmpty ∈ gl := gl_tb (by decide +kernel) rfl
theorem mk_X6_41 : Cond.methodLink RX6 41 yX0_include ∈ gl := gl_tb (by decide +kernel) rfl
theorem mk_X6_45 : Cond.methodLink RX6 45 yX0_columnOf ∈ gl := gl_tb (by decide +kernel) rfl
theorem mk_X6_49 : Cond.methodLink RX6 49 yX0_rowOf ∈ gl := gl_tb (by decide +kernel) rfl
theorem mk_X6_52 : Cond.methodLink RX6 52 yX6_enqueue ∈ gl := gl_tb (by decide +kernel) rfl
theorem mk_X6_56 : Cond.methodLink RX6 56 yX0_exclude ∈ gl := gl_tb (by decide +kernel) rfl
theorem fk_X7_11 : Cond.fieldLink RX7 11 RX7 (TX7 0).2.1 (TX7 0).2.2.1 ∈ gl := gl_tb (by decide +kernel) rfl
theorem fk_X7_17 : Cond.fieldLink RX7 17 RX7 (TX7 1).2.1 (TX7 1).2.2.1 ∈ gl := gl_tb (by decide +kernel) rfl
theorem fk_X7_21 : Cond.fieldLink RX7 21 RX7 (TX7 2).2.1 (TX7 2).2.2.1 ∈ gl := gl_tb (by decide +kernel) rfl
theorem fk_X7_24 : Cond.fieldLink RX7 24 RX7 (TX7 3).2.1 (TX7 3).2.2.1 ∈ gl := gl_tb (by decide +kernel) rfl
theorem fk_X7_28 : Cond.fieldLink RX7 28 RX2 (TX2 1).2.1 (TX2 1).2.2.1 ∈ gl := gl_tb (by decide +kernel) rfl
theorem mk_X7_34 : Cond.methodLink RX7 34 yX0_becomeEmpty ∈ gl := gl_tb (by decide +kernel) rfl
theorem fk_X7_37 : Cond.fieldLink RX7 37 RX2 (TX2 0).2.1 (TX2 0).2.2.1 ∈ gl := gl_tb (by decide +kernel) rfl
theorem fk_X7_41 : Cond.fieldLink RX7 41 RX4 (TX4 6).2.1 (TX4 6).2.2.1 ∈ gl := gl_tb (by decide +kernel) rfl
theorem mk_X7_47 : Cond.methodLink RX7 47 yX7_takeEffect ∈ gl := gl_tb (by decide +kernel) rfl
theorem mk_X7_51 : Cond.methodLink RX7 51 yX7_becomeBlank ∈ gl := gl_tb (by decide +kernel) rfl
theorem fk_X7_54 : Cond.fieldLink RX7 54 RX4 (TX4 2).2.1 (TX4 2).2.2.1 ∈ gl := gl_tb (by decide +kernel) rfl
theorem mk_X7_57 : Cond.methodLink RX7 57 yX4_hasVanished ∈ gl := gl_tb (by decide +kernel) rfl
theorem fk_X7_61 : Cond.fieldLink RX7 61 RX4 (TX4 3).2.1 (TX4 3).2.2.1 ∈ gl := gl_tb (by decide +kernel) rfl
theorem mk_X7_64 : Cond.methodLink RX7 64 yX7_paint ∈ gl := gl_tb (by decide +kernel) rfl
theorem mk_X7_67 : Cond.methodLink RX7 67 yX7_countTops ∈ gl := gl_tb (by decide +kernel) rfl
theorem fk_X7_70 : Cond.fieldLink RX7 70 RX4 (TX4 0).2.1 (TX4 0).2.2.1 ∈ gl := gl_tb (by decide +kernel) rfl
theorem fk_X7_73 : Cond.fieldLink RX7 73 RX4 (TX4 8).2.1 (TX4 8).2.2.1 ∈ gl := gl_tb (by decide +kernel) rfl
theorem mk_X7_77 : Cond.methodLink RX7 77 yX0_becomeCopy ∈ gl := gl_tb (by decide +kernel) rfl
theorem fk_X7_81 : Cond.fieldLink RX7 81 RX4 (TX4 1).2.1 (TX4 1).2.2.1 ∈ gl := gl_tb (by decide +kernel) rfl
theorem mk_X7_84 : Cond.methodLink RX7 84 yX7_eraseFrom ∈ gl := gl_tb (by decide +kernel) rfl
theorem mk_X7_88 : Cond.methodLink RX7 88 yX0_meets ∈ gl := gl_tb (by decide +kernel) rfl
theorem mk_X7_92 : Cond.methodLink RX7 92 yX0_takeAway ∈ gl := gl_tb (by decide +kernel) rfl
theorem fk_X7_95 : Cond.fieldLink RX7 95 RX0 (TX0 0).2.1 (TX0 0).2.2.1 ∈ gl := gl_tb (by decide +kernel) rfl
theorem mk_X7_98 : Cond.methodLink RX7 98 yX7_paintRow ∈ gl := gl_tb (by decide +kernel) rfl
theorem mk_X7_102 : Cond.methodLink RX7 102 yX0_contains ∈ gl := gl_tb (by decide +kernel) rfl
theorem mk_X7_105 : Cond.methodLink RX7 105 yX0_size ∈ gl := gl_tb (by decide +kernel) rfl
theorem mk_X7_108 : Cond.methodLink RX7 108 yX0_include ∈ gl := gl_tb (by decide +kernel) rfl
theorem vw_X5_readToError : vwM RX5 yX5_readToError (.code yX5_readToError cX5_readToError 2 (some .int)) := ⟨gl_tb (by decide +kernel) rfl, by first | exact gl_tb (by decide +kernel) rfl | exact gl_pv (by decide +kernel) rfl, gl_tb (by decide +kernel) rfl, gl_tb (by decide +kernel) rfl⟩
theorem vw_X5_isPath : vwM RX5 yX5_isPath (.code yX5_isPath cX5_isPath 1 (some .boolean)) := ⟨gl_tb (by decide +kernel) rfl, by first | exact gl_tb (by decide +kernel) rfl | exact gl_pv (by decide +kernel) rfl, gl_tb (by decide +kernel) rfl, gl_tb (by decide +kernel) rfl⟩
theorem vw_X5_takes : vwM RX5 yX5_takes (.code yX5_takes cX5_takes 2 (some .boolean)) := ⟨gl_tb (by decide +kernel) rfl, by first | exact gl_tb (by decide +kernel) rfl | exact gl_pv (by decide +kernel) rfl, gl_tb (by decide +kernel) rfl, gl_tb (by decide +kernel) rfl⟩
theorem vw_X5_takesDigit : vwM RX5 yX5_takesDigit (.code yX5_takesDigit cX5_takesDigit 2 (some .boolean)) := ⟨gl_tb (by decide +kernel) rfl, by first | exact gl_tb (by decide +kernel) rfl | exact gl_pv (by decide +kernel) rfl, gl_tb (by decide +kernel) rfl, gl_tb (by decide +kernel) rfl⟩
theorem vw_X5_drawInto : vwM RX5 yX5_drawInto (.code yX5_drawInto cX5_drawInto 3 none) := ⟨gl_tb (by decide +kernel) rfl, by first | exact gl_tb (by decide +kernel) rfl | exact gl_pv (by decide +kernel) rfl, gl_tb (by decide +kernel) rfl, gl_tb (by decide +kernel) rfl⟩
theorem vw_X5_drawLine : vwM RX5 yX5_drawLine (.code yX5_drawLine cX5_drawLine 10 none) := ⟨gl_tb (by decide +kernel) rfl, by first | exact gl_tb (by decide +kernel) rfl | exact gl_pv (by decide +kernel) rfl, gl_tb (by decide +kernel) rfl, gl_tb (by decide +kernel) rfl⟩
theorem vw_X5_roundedQuotient : vwS yX5_roundedQuotient (.code yX5_roundedQuotient cX5_roundedQuotient 3 (some .int)) := ⟨gl_tb (by decide +kernel) rfl, gl_tb (by decide +kernel) rfl, gl_tb (by decide +kernel) rfl⟩
theorem vw_X6_parts : vwM RX6 yX6_parts (.code yX6_parts cX6_parts 5 (some .int)) := ⟨gl_tb (by decide +kernel) rfl, by first | exact gl_tb (by decide +kernel) rfl | exact gl_pv (by decide +kernel) rfl, gl_tb (by decide +kernel) rfl, gl_tb (by decide +kernel) rfl⟩
theorem vw_X6_reach : vwM RX6 yX6_reach (.code yX6_reach cX6_reach 5 none) := ⟨gl_tb (by decide +kernel) rfl, by first | exact gl_tb (by decide +kernel) rfl | exact gl_pv (by decide +kernel) rfl, gl_tb (by decide +kernel) rfl, gl_tb (by decide +kernel) rfl⟩
theorem vw_X6_spread : vwM RX6 yX6_spread (.code yX6_spread cX6_spread 6 none) := ⟨gl_tb (by decide +kernel) rfl, by first | exact gl_tb (by decide +kernel) rfl | exact gl_pv (by decide +kernel) rfl, gl_tb (by decide +kernel) rfl, gl_tb (by decide +kernel) rfl⟩
theorem vw_X6_enqueue : vwM RX6 yX6_enqueue (.code yX6_enqueue cX6_enqueue 4 none) := ⟨gl_tb (by decide +kernel) rfl, by first | exact gl_tb (by decide +kernel) rfl | exact gl_pv (by decide +kernel) rfl, gl_tb (by decide +kernel) rfl, gl_tb (by decide +kernel) rfl⟩
theorem vw_X7_show : vwM RX7 yX7_show (.code yX7_show cX7_show 7 none) := ⟨gl_tb (by decide +kernel) rfl, by first | exact gl_tb (by decide +kernel) rfl | exact gl_pv (by decide +kernel) rfl, gl_tb (by decide +kernel) rfl, gl_tb (by decide +kernel) rfl⟩
theorem vw_X7_takeEffect : vwM RX7 yX7_takeEffect (.code yX7_takeEffect cX7_takeEffect 5 none) := ⟨gl_tb (by decide +kernel) rfl, by first | exact gl_tb (by decide +kernel) rfl | exact gl_pv (by decide +kernel) rfl, gl_tb (by decide +kernel) rfl, gl_tb (by decide +kernel) rfl⟩
theorem vw_X7_eraseFrom : vwM RX7 yX7_eraseFrom (.code yX7_eraseFrom cX7_eraseFrom 4 none) := ⟨gl_tb (by decide +kernel) rfl, by first | exact gl_tb (by decide +kernel) rfl | exact gl_pv (by decide +kernel) rfl, gl_tb (by decide +kernel) rfl, gl_tb (by decide +kernel) rfl⟩
theorem vw_X7_becomeBlank : vwM RX7 yX7_becomeBlank (.code yX7_becomeBlank cX7_becomeBlank 2 none) := ⟨gl_tb (by decide +kernel) rfl, by first | exact gl_tb (by decide +kernel) rfl | exact gl_pv (by decide +kernel) rfl, gl_tb (by decide +kernel) rfl, gl_tb (by decide +kernel) rfl⟩
theorem vw_X7_paint : vwM RX7 yX7_paint (.code yX7_paint cX7_paint 4 none) := ⟨gl_tb (by decide +kernel) rfl, by first | exact gl_tb (by decide +kernel) rfl | exact gl_pv (by decide +kernel) rfl, gl_tb (by decide +kernel) rfl, gl_tb (by decide +kernel) rfl⟩
theorem vw_X7_paintRow : vwM RX7 yX7_paintRow (.code yX7_paintRow cX7_paintRow 6 none) := ⟨gl_tb (by decide +kernel) rfl, by first | exact gl_tb (by decide +kernel) rfl | exact gl_pv (by decide +kernel) rfl, gl_tb (by decide +kernel) rfl, gl_tb (by decide +kernel) rfl⟩
theorem vw_X7_countTops : vwM RX7 yX7_countTops (.code yX7_countTops cX7_countTops 3 none) := ⟨gl_tb (by decide +kernel) rfl, by first | exact gl_tb (by decide +kernel) rfl | exact gl_pv (by decide +kernel) rfl, gl_tb (by decide +kernel) rfl, gl_tb (by decide +kernel) rfl⟩
theorem vw_X7_paintedCells : vwM RX7 yX7_paintedCells (.code yX7_paintedCells cX7_paintedCells 3 (some .int)) := ⟨gl_tb (by decide +kernel) rfl, by first | exact gl_tb (by decide +kernel) rfl | exact gl_pv (by decide +kernel) rfl, gl_tb (by decide +kernel) rfl, gl_tb (by decide +kernel) rfl⟩
theorem vw_X7_hiddenOperations : vwM RX7 yX7_hiddenOperations (.code yX7_hiddenOperations cX7_hiddenOperations 5 (some .int)) := ⟨gl_tb (by decide +kernel) rfl, by first | exact gl_tb (by decide +kernel) rfl | exact gl_pv (by decide +kernel) rfl, gl_tb (by decide +kernel) rfl, gl_tb (by decide +kernel) rfl⟩
theorem vw_X7_collectColor : vwM RX7 yX7_collectColor (.code yX7_collectColor cX7_collectColor 4 none) := ⟨gl_tb (by decide +kernel) rfl, by first | exact gl_tb (by decide +kernel) rfl | exact gl_pv (by decide +kernel) rfl, gl_tb (by decide +kernel) rfl, gl_tb (by decide +kernel) rfl⟩
