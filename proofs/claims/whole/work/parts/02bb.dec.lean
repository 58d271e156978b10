theorem dX1_init_0 : decode cX1_init 0 = .ok (.aload_n 0, 1) := by decide +kernel
theorem dX1_init_1 : decode cX1_init 1 = .ok (.invokespecial 3, 3) := by decide +kernel
theorem dX1_init_4 : decode cX1_init 4 = .ok (.aload_n 0, 1) := by decide +kernel
theorem dX1_init_5 : decode cX1_init 5 = .ok (.bipush 6, 2) := by decide +kernel
theorem dX1_init_7 : decode cX1_init 7 = .ok (.anewarray 9, 3) := by decide +kernel
theorem dX1_init_10 : decode cX1_init 10 = .ok (.putfield 11, 3) := by decide +kernel
theorem dX1_init_13 : decode cX1_init 13 = .ok (.aload_n 0, 1) := by decide +kernel
theorem dX1_init_14 : decode cX1_init 14 = .ok (.bipush 6, 2) := by decide +kernel
theorem dX1_init_16 : decode cX1_init 16 = .ok (.newarray .int, 2) := by decide +kernel
theorem dX1_init_18 : decode cX1_init 18 = .ok (.putfield 17, 3) := by decide +kernel
theorem dX1_init_21 : decode cX1_init 21 = .ok (.aload_n 0, 1) := by decide +kernel
theorem dX1_init_22 : decode cX1_init 22 = .ok (.bipush 6, 2) := by decide +kernel
theorem dX1_init_24 : decode cX1_init 24 = .ok (.newarray .int, 2) := by decide +kernel
theorem dX1_init_26 : decode cX1_init 26 = .ok (.putfield 21, 3) := by decide +kernel
theorem dX1_init_29 : decode cX1_init 29 = .ok (.iconst 0, 1) := by decide +kernel
theorem dX1_init_30 : decode cX1_init 30 = .ok (.istore_n 1, 1) := by decide +kernel
theorem dX1_init_31 : decode cX1_init 31 = .ok (.iload_n 1, 1) := by decide +kernel
theorem dX1_init_32 : decode cX1_init 32 = .ok (.bipush 6, 2) := by decide +kernel
theorem dX1_init_34 : decode cX1_init 34 = .ok (.if_icmp .ge 22, 3) := by decide +kernel
theorem dX1_init_37 : decode cX1_init 37 = .ok (.aload_n 0, 1) := by decide +kernel
theorem dX1_init_38 : decode cX1_init 38 = .ok (.getfield 11, 3) := by decide +kernel
theorem dX1_init_41 : decode cX1_init 41 = .ok (.iload_n 1, 1) := by decide +kernel
theorem dX1_init_42 : decode cX1_init 42 = .ok (.new 9, 3) := by decide +kernel
theorem dX1_init_45 : decode cX1_init 45 = .ok (.dup, 1) := by decide +kernel
theorem dX1_init_46 : decode cX1_init 46 = .ok (.invokespecial 24, 3) := by decide +kernel
theorem dX1_init_49 : decode cX1_init 49 = .ok (.aastore, 1) := by decide +kernel
theorem dX1_init_50 : decode cX1_init 50 = .ok (.iinc 1 1, 3) := by decide +kernel
theorem dX1_init_53 : decode cX1_init 53 = .ok (.goto (-22), 3) := by decide +kernel
theorem dX1_init_56 : decode cX1_init 56 = .ok (.return_, 1) := by decide +kernel
theorem dX1_freeSlot_0 : decode cX1_freeSlot 0 = .ok (.iconst 0, 1) := by decide +kernel
theorem dX1_freeSlot_1 : decode cX1_freeSlot 1 = .ok (.istore_n 2, 1) := by decide +kernel
theorem dX1_freeSlot_2 : decode cX1_freeSlot 2 = .ok (.iload_n 2, 1) := by decide +kernel
theorem dX1_freeSlot_3 : decode cX1_freeSlot 3 = .ok (.bipush 6, 2) := by decide +kernel
theorem dX1_freeSlot_5 : decode cX1_freeSlot 5 = .ok (.if_icmp .ge 21, 3) := by decide +kernel
theorem dX1_freeSlot_8 : decode cX1_freeSlot 8 = .ok (.iload_n 1, 1) := by decide +kernel
theorem dX1_freeSlot_9 : decode cX1_freeSlot 9 = .ok (.aload_n 0, 1) := by decide +kernel
theorem dX1_freeSlot_10 : decode cX1_freeSlot 10 = .ok (.getfield 21, 3) := by decide +kernel
theorem dX1_freeSlot_13 : decode cX1_freeSlot 13 = .ok (.iload_n 2, 1) := by decide +kernel
theorem dX1_freeSlot_14 : decode cX1_freeSlot 14 = .ok (.iaload, 1) := by decide +kernel
theorem dX1_freeSlot_15 : decode cX1_freeSlot 15 = .ok (.if_icmp .lt 5, 3) := by decide +kernel
theorem dX1_freeSlot_18 : decode cX1_freeSlot 18 = .ok (.iload_n 2, 1) := by decide +kernel
theorem dX1_freeSlot_19 : decode cX1_freeSlot 19 = .ok (.ireturn, 1) := by decide +kernel
theorem dX1_freeSlot_20 : decode cX1_freeSlot 20 = .ok (.iinc 2 1, 3) := by decide +kernel
theorem dX1_freeSlot_23 : decode cX1_freeSlot 23 = .ok (.goto (-21), 3) := by decide +kernel
theorem dX1_freeSlot_26 : decode cX1_freeSlot 26 = .ok (.iconst (-1), 1) := by decide +kernel
theorem dX1_freeSlot_27 : decode cX1_freeSlot 27 = .ok (.ireturn, 1) := by decide +kernel
theorem dX1_begin_0 : decode cX1_begin 0 = .ok (.aload_n 0, 1) := by decide +kernel
theorem dX1_begin_1 : decode cX1_begin 1 = .ok (.getfield 17, 3) := by decide +kernel
theorem dX1_begin_4 : decode cX1_begin 4 = .ok (.iload_n 1, 1) := by decide +kernel
theorem dX1_begin_5 : decode cX1_begin 5 = .ok (.iload_n 2, 1) := by decide +kernel
theorem dX1_begin_6 : decode cX1_begin 6 = .ok (.iastore, 1) := by decide +kernel
theorem dX1_begin_7 : decode cX1_begin 7 = .ok (.aload_n 0, 1) := by decide +kernel
theorem dX1_begin_8 : decode cX1_begin 8 = .ok (.getfield 21, 3) := by decide +kernel
theorem dX1_begin_11 : decode cX1_begin 11 = .ok (.iload_n 1, 1) := by decide +kernel
theorem dX1_begin_12 : decode cX1_begin 12 = .ok (.iload_n 3, 1) := by decide +kernel
theorem dX1_begin_13 : decode cX1_begin 13 = .ok (.iastore, 1) := by decide +kernel
theorem dX1_begin_14 : decode cX1_begin 14 = .ok (.return_, 1) := by decide +kernel
theorem dX1_endAll_0 : decode cX1_endAll 0 = .ok (.iconst 0, 1) := by decide +kernel
theorem dX1_endAll_1 : decode cX1_endAll 1 = .ok (.istore_n 1, 1) := by decide +kernel
theorem dX1_endAll_2 : decode cX1_endAll 2 = .ok (.iload_n 1, 1) := by decide +kernel
theorem dX1_endAll_3 : decode cX1_endAll 3 = .ok (.bipush 6, 2) := by decide +kernel
theorem dX1_endAll_5 : decode cX1_endAll 5 = .ok (.if_icmp .ge 16, 3) := by decide +kernel
theorem dX1_endAll_8 : decode cX1_endAll 8 = .ok (.aload_n 0, 1) := by decide +kernel
theorem dX1_endAll_9 : decode cX1_endAll 9 = .ok (.getfield 21, 3) := by decide +kernel
theorem dX1_endAll_12 : decode cX1_endAll 12 = .ok (.iload_n 1, 1) := by decide +kernel
theorem dX1_endAll_13 : decode cX1_endAll 13 = .ok (.iconst 0, 1) := by decide +kernel
theorem dX1_endAll_14 : decode cX1_endAll 14 = .ok (.iastore, 1) := by decide +kernel
theorem dX1_endAll_15 : decode cX1_endAll 15 = .ok (.iinc 1 1, 3) := by decide +kernel
theorem dX1_endAll_18 : decode cX1_endAll 18 = .ok (.goto (-16), 3) := by decide +kernel
theorem dX1_endAll_21 : decode cX1_endAll 21 = .ok (.return_, 1) := by decide +kernel
theorem dX1_endAllOf_0 : decode cX1_endAllOf 0 = .ok (.iconst 0, 1) := by decide +kernel
theorem dX1_endAllOf_1 : decode cX1_endAllOf 1 = .ok (.istore_n 3, 1) := by decide +kernel
theorem dX1_endAllOf_2 : decode cX1_endAllOf 2 = .ok (.iconst 0, 1) := by decide +kernel
theorem dX1_endAllOf_3 : decode cX1_endAllOf 3 = .ok (.istore 4, 2) := by decide +kernel
theorem dX1_endAllOf_5 : decode cX1_endAllOf 5 = .ok (.iload 4, 2) := by decide +kernel
theorem dX1_endAllOf_7 : decode cX1_endAllOf 7 = .ok (.bipush 6, 2) := by decide +kernel
theorem dX1_endAllOf_9 : decode cX1_endAllOf 9 = .ok (.if_icmp .ge 42, 3) := by decide +kernel
theorem dX1_endAllOf_12 : decode cX1_endAllOf 12 = .ok (.iload_n 2, 1) := by decide +kernel
theorem dX1_endAllOf_13 : decode cX1_endAllOf 13 = .ok (.aload_n 0, 1) := by decide +kernel
theorem dX1_endAllOf_14 : decode cX1_endAllOf 14 = .ok (.getfield 21, 3) := by decide +kernel
theorem dX1_endAllOf_17 : decode cX1_endAllOf 17 = .ok (.iload 4, 2) := by decide +kernel
theorem dX1_endAllOf_19 : decode cX1_endAllOf 19 = .ok (.iaload, 1) := by decide +kernel
theorem dX1_endAllOf_20 : decode cX1_endAllOf 20 = .ok (.if_icmp .ge 25, 3) := by decide +kernel
theorem dX1_endAllOf_23 : decode cX1_endAllOf 23 = .ok (.aload_n 0, 1) := by decide +kernel
theorem dX1_endAllOf_24 : decode cX1_endAllOf 24 = .ok (.getfield 17, 3) := by decide +kernel
theorem dX1_endAllOf_27 : decode cX1_endAllOf 27 = .ok (.iload 4, 2) := by decide +kernel
theorem dX1_endAllOf_29 : decode cX1_endAllOf 29 = .ok (.iaload, 1) := by decide +kernel
theorem dX1_endAllOf_30 : decode cX1_endAllOf 30 = .ok (.iload_n 1, 1) := by decide +kernel
theorem dX1_endAllOf_31 : decode cX1_endAllOf 31 = .ok (.if_icmp .ne 14, 3) := by decide +kernel
theorem dX1_endAllOf_34 : decode cX1_endAllOf 34 = .ok (.aload_n 0, 1) := by decide +kernel
theorem dX1_endAllOf_35 : decode cX1_endAllOf 35 = .ok (.getfield 21, 3) := by decide +kernel
theorem dX1_endAllOf_38 : decode cX1_endAllOf 38 = .ok (.iload 4, 2) := by decide +kernel
theorem dX1_endAllOf_40 : decode cX1_endAllOf 40 = .ok (.iconst 0, 1) := by decide +kernel
theorem dX1_endAllOf_41 : decode cX1_endAllOf 41 = .ok (.iastore, 1) := by decide +kernel
theorem dX1_endAllOf_42 : decode cX1_endAllOf 42 = .ok (.iinc 3 1, 3) := by decide +kernel
theorem dX1_endAllOf_45 : decode cX1_endAllOf 45 = .ok (.iinc 4 1, 3) := by decide +kernel
theorem dX1_endAllOf_48 : decode cX1_endAllOf 48 = .ok (.goto (-43), 3) := by decide +kernel
theorem dX1_endAllOf_51 : decode cX1_endAllOf 51 = .ok (.iload_n 3, 1) := by decide +kernel
theorem dX1_endAllOf_52 : decode cX1_endAllOf 52 = .ok (.ireturn, 1) := by decide +kernel
theorem dX1_inForce_0 : decode cX1_inForce 0 = .ok (.iconst 0, 1) := by decide +kernel
theorem dX1_inForce_1 : decode cX1_inForce 1 = .ok (.istore_n 2, 1) := by decide +kernel
theorem dX1_inForce_2 : decode cX1_inForce 2 = .ok (.iconst 0, 1) := by decide +kernel
theorem dX1_inForce_3 : decode cX1_inForce 3 = .ok (.istore_n 3, 1) := by decide +kernel
theorem dX1_inForce_4 : decode cX1_inForce 4 = .ok (.iload_n 3, 1) := by decide +kernel
theorem dX1_inForce_5 : decode cX1_inForce 5 = .ok (.bipush 6, 2) := by decide +kernel
theorem dX1_inForce_7 : decode cX1_inForce 7 = .ok (.if_icmp .ge 22, 3) := by decide +kernel
theorem dX1_inForce_10 : decode cX1_inForce 10 = .ok (.iload_n 1, 1) := by decide +kernel
theorem dX1_inForce_11 : decode cX1_inForce 11 = .ok (.aload_n 0, 1) := by decide +kernel
theorem dX1_inForce_12 : decode cX1_inForce 12 = .ok (.getfield 21, 3) := by decide +kernel
theorem dX1_inForce_15 : decode cX1_inForce 15 = .ok (.iload_n 3, 1) := by decide +kernel
theorem dX1_inForce_16 : decode cX1_inForce 16 = .ok (.iaload, 1) := by decide +kernel
theorem dX1_inForce_17 : decode cX1_inForce 17 = .ok (.if_icmp .ge 6, 3) := by decide +kernel
theorem dX1_inForce_20 : decode cX1_inForce 20 = .ok (.iinc 2 1, 3) := by decide +kernel
theorem dX1_inForce_23 : decode cX1_inForce 23 = .ok (.iinc 3 1, 3) := by decide +kernel
theorem dX1_inForce_26 : decode cX1_inForce 26 = .ok (.goto (-22), 3) := by decide +kernel
theorem dX1_inForce_29 : decode cX1_inForce 29 = .ok (.iload_n 2, 1) := by decide +kernel
theorem dX1_inForce_30 : decode cX1_inForce 30 = .ok (.ireturn, 1) := by decide +kernel
theorem dX1_inForceOf_0 : decode cX1_inForceOf 0 = .ok (.iconst 0, 1) := by decide +kernel
theorem dX1_inForceOf_1 : decode cX1_inForceOf 1 = .ok (.istore_n 3, 1) := by decide +kernel
theorem dX1_inForceOf_2 : decode cX1_inForceOf 2 = .ok (.iconst 0, 1) := by decide +kernel
theorem dX1_inForceOf_3 : decode cX1_inForceOf 3 = .ok (.istore 4, 2) := by decide +kernel
theorem dX1_inForceOf_5 : decode cX1_inForceOf 5 = .ok (.iload 4, 2) := by decide +kernel
theorem dX1_inForceOf_7 : decode cX1_inForceOf 7 = .ok (.bipush 6, 2) := by decide +kernel
theorem dX1_inForceOf_9 : decode cX1_inForceOf 9 = .ok (.if_icmp .ge 34, 3) := by decide +kernel
theorem dX1_inForceOf_12 : decode cX1_inForceOf 12 = .ok (.iload_n 2, 1) := by decide +kernel
theorem dX1_inForceOf_13 : decode cX1_inForceOf 13 = .ok (.aload_n 0, 1) := by decide +kernel
theorem dX1_inForceOf_14 : decode cX1_inForceOf 14 = .ok (.getfield 21, 3) := by decide +kernel
theorem dX1_inForceOf_17 : decode cX1_inForceOf 17 = .ok (.iload 4, 2) := by decide +kernel
theorem dX1_inForceOf_19 : decode cX1_inForceOf 19 = .ok (.iaload, 1) := by decide +kernel
theorem dX1_inForceOf_20 : decode cX1_inForceOf 20 = .ok (.if_icmp .ge 17, 3) := by decide +kernel
theorem dX1_inForceOf_23 : decode cX1_inForceOf 23 = .ok (.aload_n 0, 1) := by decide +kernel
theorem dX1_inForceOf_24 : decode cX1_inForceOf 24 = .ok (.getfield 17, 3) := by decide +kernel
theorem dX1_inForceOf_27 : decode cX1_inForceOf 27 = .ok (.iload 4, 2) := by decide +kernel
theorem dX1_inForceOf_29 : decode cX1_inForceOf 29 = .ok (.iaload, 1) := by decide +kernel
theorem dX1_inForceOf_30 : decode cX1_inForceOf 30 = .ok (.iload_n 1, 1) := by decide +kernel
theorem dX1_inForceOf_31 : decode cX1_inForceOf 31 = .ok (.if_icmp .ne 6, 3) := by decide +kernel
theorem dX1_inForceOf_34 : decode cX1_inForceOf 34 = .ok (.iinc 3 1, 3) := by decide +kernel
theorem dX1_inForceOf_37 : decode cX1_inForceOf 37 = .ok (.iinc 4 1, 3) := by decide +kernel
theorem dX1_inForceOf_40 : decode cX1_inForceOf 40 = .ok (.goto (-35), 3) := by decide +kernel
theorem dX1_inForceOf_43 : decode cX1_inForceOf 43 = .ok (.iload_n 3, 1) := by decide +kernel
theorem dX1_inForceOf_44 : decode cX1_inForceOf 44 = .ok (.ireturn, 1) := by decide +kernel
theorem dX1_lowestOwner_0 : decode cX1_lowestOwner 0 = .ok (.iconst (-1), 1) := by decide +kernel
theorem dX1_lowestOwner_1 : decode cX1_lowestOwner 1 = .ok (.istore_n 3, 1) := by decide +kernel
theorem dX1_lowestOwner_2 : decode cX1_lowestOwner 2 = .ok (.iconst 0, 1) := by decide +kernel
theorem dX1_lowestOwner_3 : decode cX1_lowestOwner 3 = .ok (.istore 4, 2) := by decide +kernel
theorem dX1_lowestOwner_5 : decode cX1_lowestOwner 5 = .ok (.iload 4, 2) := by decide +kernel
theorem dX1_lowestOwner_7 : decode cX1_lowestOwner 7 = .ok (.bipush 6, 2) := by decide +kernel
theorem dX1_lowestOwner_9 : decode cX1_lowestOwner 9 = .ok (.if_icmp .ge 58, 3) := by decide +kernel
theorem dX1_lowestOwner_12 : decode cX1_lowestOwner 12 = .ok (.iload_n 2, 1) := by decide +kernel
theorem dX1_lowestOwner_13 : decode cX1_lowestOwner 13 = .ok (.aload_n 0, 1) := by decide +kernel
theorem dX1_lowestOwner_14 : decode cX1_lowestOwner 14 = .ok (.getfield 21, 3) := by decide +kernel
theorem dX1_lowestOwner_17 : decode cX1_lowestOwner 17 = .ok (.iload 4, 2) := by decide +kernel
theorem dX1_lowestOwner_19 : decode cX1_lowestOwner 19 = .ok (.iaload, 1) := by decide +kernel
theorem dX1_lowestOwner_20 : decode cX1_lowestOwner 20 = .ok (.if_icmp .ge 41, 3) := by decide +kernel
theorem dX1_lowestOwner_23 : decode cX1_lowestOwner 23 = .ok (.aload_n 0, 1) := by decide +kernel
theorem dX1_lowestOwner_24 : decode cX1_lowestOwner 24 = .ok (.getfield 11, 3) := by decide +kernel
theorem dX1_lowestOwner_27 : decode cX1_lowestOwner 27 = .ok (.iload 4, 2) := by decide +kernel
theorem dX1_lowestOwner_29 : decode cX1_lowestOwner 29 = .ok (.aaload, 1) := by decide +kernel
theorem dX1_lowestOwner_30 : decode cX1_lowestOwner 30 = .ok (.iload_n 1, 1) := by decide +kernel
theorem dX1_lowestOwner_31 : decode cX1_lowestOwner 31 = .ok (.invokevirtual 25, 3) := by decide +kernel
theorem dX1_lowestOwner_34 : decode cX1_lowestOwner 34 = .ok (.ifCond .eq 27, 3) := by decide +kernel
theorem dX1_lowestOwner_37 : decode cX1_lowestOwner 37 = .ok (.iload_n 3, 1) := by decide +kernel
theorem dX1_lowestOwner_38 : decode cX1_lowestOwner 38 = .ok (.iconst (-1), 1) := by decide +kernel
theorem dX1_lowestOwner_39 : decode cX1_lowestOwner 39 = .ok (.if_icmp .eq 14, 3) := by decide +kernel
theorem dX1_lowestOwner_42 : decode cX1_lowestOwner 42 = .ok (.aload_n 0, 1) := by decide +kernel
theorem dX1_lowestOwner_43 : decode cX1_lowestOwner 43 = .ok (.getfield 17, 3) := by decide +kernel
theorem dX1_lowestOwner_46 : decode cX1_lowestOwner 46 = .ok (.iload 4, 2) := by decide +kernel
theorem dX1_lowestOwner_48 : decode cX1_lowestOwner 48 = .ok (.iaload, 1) := by decide +kernel
theorem dX1_lowestOwner_49 : decode cX1_lowestOwner 49 = .ok (.iload_n 3, 1) := by decide +kernel
theorem dX1_lowestOwner_50 : decode cX1_lowestOwner 50 = .ok (.if_icmp .ge 11, 3) := by decide +kernel
theorem dX1_lowestOwner_53 : decode cX1_lowestOwner 53 = .ok (.aload_n 0, 1) := by decide +kernel
theorem dX1_lowestOwner_54 : decode cX1_lowestOwner 54 = .ok (.getfield 17, 3) := by decide +kernel
theorem dX1_lowestOwner_57 : decode cX1_lowestOwner 57 = .ok (.iload 4, 2) := by decide +kernel
theorem dX1_lowestOwner_59 : decode cX1_lowestOwner 59 = .ok (.iaload, 1) := by decide +kernel
theorem dX1_lowestOwner_60 : decode cX1_lowestOwner 60 = .ok (.istore_n 3, 1) := by decide +kernel
theorem dX1_lowestOwner_61 : decode cX1_lowestOwner 61 = .ok (.iinc 4 1, 3) := by decide +kernel
theorem dX1_lowestOwner_64 : decode cX1_lowestOwner 64 = .ok (.goto (-59), 3) := by decide +kernel
theorem dX1_lowestOwner_67 : decode cX1_lowestOwner 67 = .ok (.iload_n 3, 1) := by decide +kernel
theorem dX1_lowestOwner_68 : decode cX1_lowestOwner 68 = .ok (.ireturn, 1) := by decide +kernel
theorem dX1_collectClosed_0 : decode cX1_collectClosed 0 = .ok (.aload_n 3, 1) := by decide +kernel
theorem dX1_collectClosed_1 : decode cX1_collectClosed 1 = .ok (.invokevirtual 29, 3) := by decide +kernel
theorem dX1_collectClosed_4 : decode cX1_collectClosed 4 = .ok (.iconst 0, 1) := by decide +kernel
theorem dX1_collectClosed_5 : decode cX1_collectClosed 5 = .ok (.istore 4, 2) := by decide +kernel
theorem dX1_collectClosed_7 : decode cX1_collectClosed 7 = .ok (.iload 4, 2) := by decide +kernel
theorem dX1_collectClosed_9 : decode cX1_collectClosed 9 = .ok (.bipush 6, 2) := by decide +kernel
theorem dX1_collectClosed_11 : decode cX1_collectClosed 11 = .ok (.if_icmp .ge 42, 3) := by decide +kernel
theorem dX1_collectClosed_14 : decode cX1_collectClosed 14 = .ok (.iload_n 2, 1) := by decide +kernel
theorem dX1_collectClosed_15 : decode cX1_collectClosed 15 = .ok (.aload_n 0, 1) := by decide +kernel
theorem dX1_collectClosed_16 : decode cX1_collectClosed 16 = .ok (.getfield 21, 3) := by decide +kernel
theorem dX1_collectClosed_19 : decode cX1_collectClosed 19 = .ok (.iload 4, 2) := by decide +kernel
theorem dX1_collectClosed_21 : decode cX1_collectClosed 21 = .ok (.iaload, 1) := by decide +kernel
theorem dX1_collectClosed_22 : decode cX1_collectClosed 22 = .ok (.if_icmp .ge 25, 3) := by decide +kernel
theorem dX1_collectClosed_25 : decode cX1_collectClosed 25 = .ok (.aload_n 0, 1) := by decide +kernel
theorem dX1_collectClosed_26 : decode cX1_collectClosed 26 = .ok (.getfield 17, 3) := by decide +kernel
theorem dX1_collectClosed_29 : decode cX1_collectClosed 29 = .ok (.iload 4, 2) := by decide +kernel
theorem dX1_collectClosed_31 : decode cX1_collectClosed 31 = .ok (.iaload, 1) := by decide +kernel
theorem dX1_collectClosed_32 : decode cX1_collectClosed 32 = .ok (.iload_n 1, 1) := by decide +kernel
theorem dX1_collectClosed_33 : decode cX1_collectClosed 33 = .ok (.if_icmp .eq 14, 3) := by decide +kernel
theorem dX1_collectClosed_36 : decode cX1_collectClosed 36 = .ok (.aload_n 3, 1) := by decide +kernel
theorem dX1_collectClosed_37 : decode cX1_collectClosed 37 = .ok (.aload_n 0, 1) := by decide +kernel
theorem dX1_collectClosed_38 : decode cX1_collectClosed 38 = .ok (.getfield 11, 3) := by decide +kernel
theorem dX1_collectClosed_41 : decode cX1_collectClosed 41 = .ok (.iload 4, 2) := by decide +kernel
theorem dX1_collectClosed_43 : decode cX1_collectClosed 43 = .ok (.aaload, 1) := by decide +kernel
theorem dX1_collectClosed_44 : decode cX1_collectClosed 44 = .ok (.invokevirtual 32, 3) := by decide +kernel
theorem dX1_collectClosed_47 : decode cX1_collectClosed 47 = .ok (.iinc 4 1, 3) := by decide +kernel
theorem dX1_collectClosed_50 : decode cX1_collectClosed 50 = .ok (.goto (-43), 3) := by decide +kernel
theorem dX1_collectClosed_53 : decode cX1_collectClosed 53 = .ok (.return_, 1) := by decide +kernel
theorem dX2_init_0 : decode cX2_init 0 = .ok (.aload_n 0, 1) := by decide +kernel
theorem dX2_init_1 : decode cX2_init 1 = .ok (.invokespecial 3, 3) := by decide +kernel
theorem dX2_init_4 : decode cX2_init 4 = .ok (.aload_n 0, 1) := by decide +kernel
theorem dX2_init_5 : decode cX2_init 5 = .ok (.bipush 60, 2) := by decide +kernel
theorem dX2_init_7 : decode cX2_init 7 = .ok (.anewarray 9, 3) := by decide +kernel
theorem dX2_init_10 : decode cX2_init 10 = .ok (.putfield 11, 3) := by decide +kernel
theorem dX2_init_13 : decode cX2_init 13 = .ok (.aload_n 0, 1) := by decide +kernel
theorem dX2_init_14 : decode cX2_init 14 = .ok (.iconst 0, 1) := by decide +kernel
theorem dX2_init_15 : decode cX2_init 15 = .ok (.putfield 17, 3) := by decide +kernel
theorem dX2_init_18 : decode cX2_init 18 = .ok (.aload_n 0, 1) := by decide +kernel
theorem dX2_init_19 : decode cX2_init 19 = .ok (.iconst 0, 1) := by decide +kernel
theorem dX2_init_20 : decode cX2_init 20 = .ok (.putfield 21, 3) := by decide +kernel
theorem dX2_init_23 : decode cX2_init 23 = .ok (.iconst 0, 1) := by decide +kernel
theorem dX2_init_24 : decode cX2_init 24 = .ok (.istore_n 1, 1) := by decide +kernel
theorem dX2_init_25 : decode cX2_init 25 = .ok (.iload_n 1, 1) := by decide +kernel
theorem dX2_init_26 : decode cX2_init 26 = .ok (.bipush 60, 2) := by decide +kernel
theorem dX2_init_28 : decode cX2_init 28 = .ok (.if_icmp .ge 22, 3) := by decide +kernel
theorem dX2_init_31 : decode cX2_init 31 = .ok (.aload_n 0, 1) := by decide +kernel
theorem dX2_init_32 : decode cX2_init 32 = .ok (.getfield 11, 3) := by decide +kernel
theorem dX2_init_35 : decode cX2_init 35 = .ok (.iload_n 1, 1) := by decide +kernel
theorem dX2_init_36 : decode cX2_init 36 = .ok (.new 9, 3) := by decide +kernel
theorem dX2_init_39 : decode cX2_init 39 = .ok (.dup, 1) := by decide +kernel
theorem dX2_init_40 : decode cX2_init 40 = .ok (.invokespecial 24, 3) := by decide +kernel
theorem dX2_init_43 : decode cX2_init 43 = .ok (.aastore, 1) := by decide +kernel
theorem dX2_init_44 : decode cX2_init 44 = .ok (.iinc 1 1, 3) := by decide +kernel
theorem dX2_init_47 : decode cX2_init 47 = .ok (.goto (-22), 3) := by decide +kernel
theorem dX2_init_50 : decode cX2_init 50 = .ok (.return_, 1) := by decide +kernel
theorem dX2_contains_0 : decode cX2_contains 0 = .ok (.iload_n 1, 1) := by decide +kernel
theorem dX2_contains_1 : decode cX2_contains 1 = .ok (.ifCond .lt 15, 3) := by decide +kernel
theorem dX2_contains_4 : decode cX2_contains 4 = .ok (.iload_n 1, 1) := by decide +kernel
theorem dX2_contains_5 : decode cX2_contains 5 = .ok (.aload_n 0, 1) := by decide +kernel
theorem dX2_contains_6 : decode cX2_contains 6 = .ok (.getfield 17, 3) := by decide +kernel
theorem dX2_contains_9 : decode cX2_contains 9 = .ok (.if_icmp .ge 7, 3) := by decide +kernel
theorem dX2_contains_12 : decode cX2_contains 12 = .ok (.iconst 1, 1) := by decide +kernel
theorem dX2_contains_13 : decode cX2_contains 13 = .ok (.goto 4, 3) := by decide +kernel
theorem dX2_contains_16 : decode cX2_contains 16 = .ok (.iconst 0, 1) := by decide +kernel
theorem dX2_contains_17 : decode cX2_contains 17 = .ok (.ireturn, 1) := by decide +kernel
theorem dX2_begin_0 : decode cX2_begin 0 = .ok (.aload_n 0, 1) := by decide +kernel
theorem dX2_begin_1 : decode cX2_begin 1 = .ok (.iload_n 2, 1) := by decide +kernel
theorem dX2_begin_2 : decode cX2_begin 2 = .ok (.invokevirtual 25, 3) := by decide +kernel
theorem dX2_begin_5 : decode cX2_begin 5 = .ok (.aload_n 0, 1) := by decide +kernel
theorem dX2_begin_6 : decode cX2_begin 6 = .ok (.getfield 11, 3) := by decide +kernel
theorem dX2_begin_9 : decode cX2_begin 9 = .ok (.aload_n 0, 1) := by decide +kernel
theorem dX2_begin_10 : decode cX2_begin 10 = .ok (.getfield 17, 3) := by decide +kernel
theorem dX2_begin_13 : decode cX2_begin 13 = .ok (.aaload, 1) := by decide +kernel
theorem dX2_begin_14 : decode cX2_begin 14 = .ok (.astore 5, 2) := by decide +kernel
theorem dX2_begin_16 : decode cX2_begin 16 = .ok (.aload_n 0, 1) := by decide +kernel
theorem dX2_begin_17 : decode cX2_begin 17 = .ok (.dup, 1) := by decide +kernel
theorem dX2_begin_18 : decode cX2_begin 18 = .ok (.getfield 17, 3) := by decide +kernel
theorem dX2_begin_21 : decode cX2_begin 21 = .ok (.iconst 1, 1) := by decide +kernel
theorem dX2_begin_22 : decode cX2_begin 22 = .ok (.iadd, 1) := by decide +kernel
theorem dX2_begin_23 : decode cX2_begin 23 = .ok (.putfield 17, 3) := by decide +kernel
theorem dX2_begin_26 : decode cX2_begin 26 = .ok (.aload 5, 2) := by decide +kernel
theorem dX2_begin_28 : decode cX2_begin 28 = .ok (.iload_n 1, 1) := by decide +kernel
theorem dX2_begin_29 : decode cX2_begin 29 = .ok (.putfield 29, 3) := by decide +kernel
theorem dX2_begin_32 : decode cX2_begin 32 = .ok (.aload 5, 2) := by decide +kernel
theorem dX2_begin_34 : decode cX2_begin 34 = .ok (.iload_n 2, 1) := by decide +kernel
theorem dX2_begin_35 : decode cX2_begin 35 = .ok (.putfield 32, 3) := by decide +kernel
theorem dX2_begin_38 : decode cX2_begin 38 = .ok (.aload 5, 2) := by decide +kernel
theorem dX2_begin_40 : decode cX2_begin 40 = .ok (.iload_n 3, 1) := by decide +kernel
theorem dX2_begin_41 : decode cX2_begin 41 = .ok (.putfield 35, 3) := by decide +kernel
theorem dX2_begin_44 : decode cX2_begin 44 = .ok (.aload 5, 2) := by decide +kernel
theorem dX2_begin_46 : decode cX2_begin 46 = .ok (.iconst 0, 1) := by decide +kernel
theorem dX2_begin_47 : decode cX2_begin 47 = .ok (.putfield 38, 3) := by decide +kernel
theorem dX2_begin_50 : decode cX2_begin 50 = .ok (.aload 5, 2) := by decide +kernel
theorem dX2_begin_52 : decode cX2_begin 52 = .ok (.iconst 0, 1) := by decide +kernel
theorem dX2_begin_53 : decode cX2_begin 53 = .ok (.putfield 41, 3) := by decide +kernel
theorem dX2_begin_56 : decode cX2_begin 56 = .ok (.aload 5, 2) := by decide +kernel
theorem dX2_begin_58 : decode cX2_begin 58 = .ok (.iload 4, 2) := by decide +kernel
theorem dX2_begin_60 : decode cX2_begin 60 = .ok (.putfield 44, 3) := by decide +kernel
theorem dX2_begin_63 : decode cX2_begin 63 = .ok (.aload 5, 2) := by decide +kernel
theorem dX2_begin_65 : decode cX2_begin 65 = .ok (.iconst 1, 1) := by decide +kernel
theorem dX2_begin_66 : decode cX2_begin 66 = .ok (.putfield 47, 3) := by decide +kernel
theorem dX2_begin_69 : decode cX2_begin 69 = .ok (.aload 5, 2) := by decide +kernel
theorem dX2_begin_71 : decode cX2_begin 71 = .ok (.iconst 0, 1) := by decide +kernel
theorem dX2_begin_72 : decode cX2_begin 72 = .ok (.putfield 51, 3) := by decide +kernel
theorem dX2_begin_75 : decode cX2_begin 75 = .ok (.aload 5, 2) := by decide +kernel
theorem dX2_begin_77 : decode cX2_begin 77 = .ok (.areturn, 1) := by decide +kernel
theorem dX2_forgetRedoOf_0 : decode cX2_forgetRedoOf 0 = .ok (.iconst 0, 1) := by decide +kernel
theorem dX2_forgetRedoOf_1 : decode cX2_forgetRedoOf 1 = .ok (.istore_n 2, 1) := by decide +kernel
theorem dX2_forgetRedoOf_2 : decode cX2_forgetRedoOf 2 = .ok (.iload_n 2, 1) := by decide +kernel
theorem dX2_forgetRedoOf_3 : decode cX2_forgetRedoOf 3 = .ok (.aload_n 0, 1) := by decide +kernel
theorem dX2_forgetRedoOf_4 : decode cX2_forgetRedoOf 4 = .ok (.getfield 17, 3) := by decide +kernel
theorem dX2_forgetRedoOf_7 : decode cX2_forgetRedoOf 7 = .ok (.if_icmp .ge 32, 3) := by decide +kernel
theorem dX2_forgetRedoOf_10 : decode cX2_forgetRedoOf 10 = .ok (.aload_n 0, 1) := by decide +kernel
theorem dX2_forgetRedoOf_11 : decode cX2_forgetRedoOf 11 = .ok (.getfield 11, 3) := by decide +kernel
theorem dX2_forgetRedoOf_14 : decode cX2_forgetRedoOf 14 = .ok (.iload_n 2, 1) := by decide +kernel
theorem dX2_forgetRedoOf_15 : decode cX2_forgetRedoOf 15 = .ok (.aaload, 1) := by decide +kernel
theorem dX2_forgetRedoOf_16 : decode cX2_forgetRedoOf 16 = .ok (.getfield 32, 3) := by decide +kernel
theorem dX2_forgetRedoOf_19 : decode cX2_forgetRedoOf 19 = .ok (.iload_n 1, 1) := by decide +kernel
theorem dX2_forgetRedoOf_20 : decode cX2_forgetRedoOf 20 = .ok (.if_icmp .ne 13, 3) := by decide +kernel
theorem dX2_forgetRedoOf_23 : decode cX2_forgetRedoOf 23 = .ok (.aload_n 0, 1) := by decide +kernel
theorem dX2_forgetRedoOf_24 : decode cX2_forgetRedoOf 24 = .ok (.getfield 11, 3) := by decide +kernel
theorem dX2_forgetRedoOf_27 : decode cX2_forgetRedoOf 27 = .ok (.iload_n 2, 1) := by decide +kernel
theorem dX2_forgetRedoOf_28 : decode cX2_forgetRedoOf 28 = .ok (.aaload, 1) := by decide +kernel
theorem dX2_forgetRedoOf_29 : decode cX2_forgetRedoOf 29 = .ok (.iconst 0, 1) := by decide +kernel
theorem dX2_forgetRedoOf_30 : decode cX2_forgetRedoOf 30 = .ok (.putfield 51, 3) := by decide +kernel
theorem dX2_forgetRedoOf_33 : decode cX2_forgetRedoOf 33 = .ok (.iinc 2 1, 3) := by decide +kernel
theorem dX2_forgetRedoOf_36 : decode cX2_forgetRedoOf 36 = .ok (.goto (-34), 3) := by decide +kernel
theorem dX2_forgetRedoOf_39 : decode cX2_forgetRedoOf 39 = .ok (.return_, 1) := by decide +kernel
theorem dX2_latestActive_0 : decode cX2_latestActive 0 = .ok (.iconst (-1), 1) := by decide +kernel
theorem dX2_latestActive_1 : decode cX2_latestActive 1 = .ok (.istore_n 2, 1) := by decide +kernel
theorem dX2_latestActive_2 : decode cX2_latestActive 2 = .ok (.iconst 0, 1) := by decide +kernel
theorem dX2_latestActive_3 : decode cX2_latestActive 3 = .ok (.istore_n 3, 1) := by decide +kernel
theorem dX2_latestActive_4 : decode cX2_latestActive 4 = .ok (.iload_n 3, 1) := by decide +kernel
theorem dX2_latestActive_5 : decode cX2_latestActive 5 = .ok (.aload_n 0, 1) := by decide +kernel
theorem dX2_latestActive_6 : decode cX2_latestActive 6 = .ok (.getfield 17, 3) := by decide +kernel
theorem dX2_latestActive_9 : decode cX2_latestActive 9 = .ok (.if_icmp .ge 36, 3) := by decide +kernel
theorem dX2_latestActive_12 : decode cX2_latestActive 12 = .ok (.aload_n 0, 1) := by decide +kernel
theorem dX2_latestActive_13 : decode cX2_latestActive 13 = .ok (.getfield 11, 3) := by decide +kernel
theorem dX2_latestActive_16 : decode cX2_latestActive 16 = .ok (.iload_n 3, 1) := by decide +kernel
theorem dX2_latestActive_17 : decode cX2_latestActive 17 = .ok (.aaload, 1) := by decide +kernel
theorem dX2_latestActive_18 : decode cX2_latestActive 18 = .ok (.getfield 47, 3) := by decide +kernel
theorem dX2_latestActive_21 : decode cX2_latestActive 21 = .ok (.ifCond .eq 18, 3) := by decide +kernel
theorem dX2_latestActive_24 : decode cX2_latestActive 24 = .ok (.aload_n 0, 1) := by decide +kernel
theorem dX2_latestActive_25 : decode cX2_latestActive 25 = .ok (.getfield 11, 3) := by decide +kernel
theorem dX2_latestActive_28 : decode cX2_latestActive 28 = .ok (.iload_n 3, 1) := by decide +kernel
theorem dX2_latestActive_29 : decode cX2_latestActive 29 = .ok (.aaload, 1) := by decide +kernel
theorem dX2_latestActive_30 : decode cX2_latestActive 30 = .ok (.getfield 32, 3) := by decide +kernel
theorem dX2_latestActive_33 : decode cX2_latestActive 33 = .ok (.iload_n 1, 1) := by decide +kernel
theorem dX2_latestActive_34 : decode cX2_latestActive 34 = .ok (.if_icmp .ne 5, 3) := by decide +kernel
theorem dX2_latestActive_37 : decode cX2_latestActive 37 = .ok (.iload_n 3, 1) := by decide +kernel
theorem dX2_latestActive_38 : decode cX2_latestActive 38 = .ok (.istore_n 2, 1) := by decide +kernel
theorem dX2_latestActive_39 : decode cX2_latestActive 39 = .ok (.iinc 3 1, 3) := by decide +kernel
theorem dX2_latestActive_42 : decode cX2_latestActive 42 = .ok (.goto (-38), 3) := by decide +kernel
theorem dX2_latestActive_45 : decode cX2_latestActive 45 = .ok (.iload_n 2, 1) := by decide +kernel
theorem dX2_latestActive_46 : decode cX2_latestActive 46 = .ok (.ireturn, 1) := by decide +kernel
theorem dX2_lastUndone_0 : decode cX2_lastUndone 0 = .ok (.iconst (-1), 1) := by decide +kernel
theorem dX2_lastUndone_1 : decode cX2_lastUndone 1 = .ok (.istore_n 2, 1) := by decide +kernel
theorem dX2_lastUndone_2 : decode cX2_lastUndone 2 = .ok (.iconst 0, 1) := by decide +kernel
theorem dX2_lastUndone_3 : decode cX2_lastUndone 3 = .ok (.istore_n 3, 1) := by decide +kernel
theorem dX2_lastUndone_4 : decode cX2_lastUndone 4 = .ok (.iconst 0, 1) := by decide +kernel
theorem dX2_lastUndone_5 : decode cX2_lastUndone 5 = .ok (.istore 4, 2) := by decide +kernel
theorem dX2_lastUndone_7 : decode cX2_lastUndone 7 = .ok (.iload 4, 2) := by decide +kernel
theorem dX2_lastUndone_9 : decode cX2_lastUndone 9 = .ok (.aload_n 0, 1) := by decide +kernel
theorem dX2_lastUndone_10 : decode cX2_lastUndone 10 = .ok (.getfield 17, 3) := by decide +kernel
theorem dX2_lastUndone_13 : decode cX2_lastUndone 13 = .ok (.if_icmp .ge 45, 3) := by decide +kernel
theorem dX2_lastUndone_16 : decode cX2_lastUndone 16 = .ok (.aload_n 0, 1) := by decide +kernel
theorem dX2_lastUndone_17 : decode cX2_lastUndone 17 = .ok (.getfield 11, 3) := by decide +kernel
theorem dX2_lastUndone_20 : decode cX2_lastUndone 20 = .ok (.iload 4, 2) := by decide +kernel
theorem dX2_lastUndone_22 : decode cX2_lastUndone 22 = .ok (.aaload, 1) := by decide +kernel
theorem dX2_lastUndone_23 : decode cX2_lastUndone 23 = .ok (.astore 5, 2) := by decide +kernel
theorem dX2_lastUndone_25 : decode cX2_lastUndone 25 = .ok (.aload 5, 2) := by decide +kernel
theorem dX2_lastUndone_27 : decode cX2_lastUndone 27 = .ok (.getfield 32, 3) := by decide +kernel
theorem dX2_lastUndone_30 : decode cX2_lastUndone 30 = .ok (.iload_n 1, 1) := by decide +kernel
theorem dX2_lastUndone_31 : decode cX2_lastUndone 31 = .ok (.if_icmp .ne 21, 3) := by decide +kernel
theorem dX2_lastUndone_34 : decode cX2_lastUndone 34 = .ok (.aload 5, 2) := by decide +kernel
theorem dX2_lastUndone_36 : decode cX2_lastUndone 36 = .ok (.getfield 51, 3) := by decide +kernel
theorem dX2_lastUndone_39 : decode cX2_lastUndone 39 = .ok (.iload_n 3, 1) := by decide +kernel
theorem dX2_lastUndone_40 : decode cX2_lastUndone 40 = .ok (.if_icmp .le 12, 3) := by decide +kernel
theorem dX2_lastUndone_43 : decode cX2_lastUndone 43 = .ok (.iload 4, 2) := by decide +kernel
theorem dX2_lastUndone_45 : decode cX2_lastUndone 45 = .ok (.istore_n 2, 1) := by decide +kernel
theorem dX2_lastUndone_46 : decode cX2_lastUndone 46 = .ok (.aload 5, 2) := by decide +kernel
theorem dX2_lastUndone_48 : decode cX2_lastUndone 48 = .ok (.getfield 51, 3) := by decide +kernel
theorem dX2_lastUndone_51 : decode cX2_lastUndone 51 = .ok (.istore_n 3, 1) := by decide +kernel
theorem dX2_lastUndone_52 : decode cX2_lastUndone 52 = .ok (.iinc 4 1, 3) := by decide +kernel
theorem dX2_lastUndone_55 : decode cX2_lastUndone 55 = .ok (.goto (-48), 3) := by decide +kernel
theorem dX2_lastUndone_58 : decode cX2_lastUndone 58 = .ok (.iload_n 2, 1) := by decide +kernel
theorem dX2_lastUndone_59 : decode cX2_lastUndone 59 = .ok (.ireturn, 1) := by decide +kernel
theorem dX2_switchOff_0 : decode cX2_switchOff 0 = .ok (.aload_n 0, 1) := by decide +kernel
theorem dX2_switchOff_1 : decode cX2_switchOff 1 = .ok (.dup, 1) := by decide +kernel
theorem dX2_switchOff_2 : decode cX2_switchOff 2 = .ok (.getfield 21, 3) := by decide +kernel
theorem dX2_switchOff_5 : decode cX2_switchOff 5 = .ok (.iconst 1, 1) := by decide +kernel
theorem dX2_switchOff_6 : decode cX2_switchOff 6 = .ok (.iadd, 1) := by decide +kernel
theorem dX2_switchOff_7 : decode cX2_switchOff 7 = .ok (.putfield 21, 3) := by decide +kernel
theorem dX2_switchOff_10 : decode cX2_switchOff 10 = .ok (.aload_n 0, 1) := by decide +kernel
theorem dX2_switchOff_11 : decode cX2_switchOff 11 = .ok (.getfield 11, 3) := by decide +kernel
theorem dX2_switchOff_14 : decode cX2_switchOff 14 = .ok (.iload_n 1, 1) := by decide +kernel
theorem dX2_switchOff_15 : decode cX2_switchOff 15 = .ok (.aaload, 1) := by decide +kernel
theorem dX2_switchOff_16 : decode cX2_switchOff 16 = .ok (.iconst 0, 1) := by decide +kernel
theorem dX2_switchOff_17 : decode cX2_switchOff 17 = .ok (.putfield 47, 3) := by decide +kernel
theorem dX2_switchOff_20 : decode cX2_switchOff 20 = .ok (.aload_n 0, 1) := by decide +kernel
theorem dX2_switchOff_21 : decode cX2_switchOff 21 = .ok (.getfield 11, 3) := by decide +kernel
theorem dX2_switchOff_24 : decode cX2_switchOff 24 = .ok (.iload_n 1, 1) := by decide +kernel
theorem dX2_switchOff_25 : decode cX2_switchOff 25 = .ok (.aaload, 1) := by decide +kernel
theorem dX2_switchOff_26 : decode cX2_switchOff 26 = .ok (.aload_n 0, 1) := by decide +kernel
theorem dX2_switchOff_27 : decode cX2_switchOff 27 = .ok (.getfield 21, 3) := by decide +kernel
theorem dX2_switchOff_30 : decode cX2_switchOff 30 = .ok (.putfield 51, 3) := by decide +kernel
theorem dX2_switchOff_33 : decode cX2_switchOff 33 = .ok (.return_, 1) := by decide +kernel
theorem dX2_switchOn_0 : decode cX2_switchOn 0 = .ok (.aload_n 0, 1) := by decide +kernel
theorem dX2_switchOn_1 : decode cX2_switchOn 1 = .ok (.getfield 11, 3) := by decide +kernel
theorem dX2_switchOn_4 : decode cX2_switchOn 4 = .ok (.iload_n 1, 1) := by decide +kernel
theorem dX2_switchOn_5 : decode cX2_switchOn 5 = .ok (.aaload, 1) := by decide +kernel
theorem dX2_switchOn_6 : decode cX2_switchOn 6 = .ok (.iconst 1, 1) := by decide +kernel
theorem dX2_switchOn_7 : decode cX2_switchOn 7 = .ok (.putfield 47, 3) := by decide +kernel
theorem dX2_switchOn_10 : decode cX2_switchOn 10 = .ok (.aload_n 0, 1) := by decide +kernel
theorem dX2_switchOn_11 : decode cX2_switchOn 11 = .ok (.getfield 11, 3) := by decide +kernel
theorem dX2_switchOn_14 : decode cX2_switchOn 14 = .ok (.iload_n 1, 1) := by decide +kernel
theorem dX2_switchOn_15 : decode cX2_switchOn 15 = .ok (.aaload, 1) := by decide +kernel
theorem dX2_switchOn_16 : decode cX2_switchOn 16 = .ok (.iconst 0, 1) := by decide +kernel
theorem dX2_switchOn_17 : decode cX2_switchOn 17 = .ok (.putfield 51, 3) := by decide +kernel
theorem dX2_switchOn_20 : decode cX2_switchOn 20 = .ok (.return_, 1) := by decide +kernel
theorem dX2_goBack_0 : decode cX2_goBack 0 = .ok (.aload_n 0, 1) := by decide +kernel
theorem dX2_goBack_1 : decode cX2_goBack 1 = .ok (.aload_n 1, 1) := by decide +kernel
theorem dX2_goBack_2 : decode cX2_goBack 2 = .ok (.getfield 54, 3) := by decide +kernel
theorem dX2_goBack_5 : decode cX2_goBack 5 = .ok (.putfield 17, 3) := by decide +kernel
theorem dX2_goBack_8 : decode cX2_goBack 8 = .ok (.iconst 0, 1) := by decide +kernel
theorem dX2_goBack_9 : decode cX2_goBack 9 = .ok (.istore_n 2, 1) := by decide +kernel
theorem dX2_goBack_10 : decode cX2_goBack 10 = .ok (.iload_n 2, 1) := by decide +kernel
theorem dX2_goBack_11 : decode cX2_goBack 11 = .ok (.aload_n 0, 1) := by decide +kernel
theorem dX2_goBack_12 : decode cX2_goBack 12 = .ok (.getfield 17, 3) := by decide +kernel
theorem dX2_goBack_15 : decode cX2_goBack 15 = .ok (.if_icmp .ge 34, 3) := by decide +kernel
theorem dX2_goBack_18 : decode cX2_goBack 18 = .ok (.aload_n 0, 1) := by decide +kernel
theorem dX2_goBack_19 : decode cX2_goBack 19 = .ok (.getfield 11, 3) := by decide +kernel
theorem dX2_goBack_22 : decode cX2_goBack 22 = .ok (.iload_n 2, 1) := by decide +kernel
theorem dX2_goBack_23 : decode cX2_goBack 23 = .ok (.aaload, 1) := by decide +kernel
theorem dX2_goBack_24 : decode cX2_goBack 24 = .ok (.aload_n 1, 1) := by decide +kernel
theorem dX2_goBack_25 : decode cX2_goBack 25 = .ok (.getfield 57, 3) := by decide +kernel
theorem dX2_goBack_28 : decode cX2_goBack 28 = .ok (.iload_n 2, 1) := by decide +kernel
theorem dX2_goBack_29 : decode cX2_goBack 29 = .ok (.baload, 1) := by decide +kernel
theorem dX2_goBack_30 : decode cX2_goBack 30 = .ok (.putfield 47, 3) := by decide +kernel
theorem dX2_goBack_33 : decode cX2_goBack 33 = .ok (.aload_n 0, 1) := by decide +kernel
theorem dX2_goBack_34 : decode cX2_goBack 34 = .ok (.getfield 11, 3) := by decide +kernel
theorem dX2_goBack_37 : decode cX2_goBack 37 = .ok (.iload_n 2, 1) := by decide +kernel
theorem dX2_goBack_38 : decode cX2_goBack 38 = .ok (.aaload, 1) := by decide +kernel
theorem dX2_goBack_39 : decode cX2_goBack 39 = .ok (.iconst 0, 1) := by decide +kernel
theorem dX2_goBack_40 : decode cX2_goBack 40 = .ok (.putfield 51, 3) := by decide +kernel
theorem dX2_goBack_43 : decode cX2_goBack 43 = .ok (.iinc 2 1, 3) := by decide +kernel
theorem dX2_goBack_46 : decode cX2_goBack 46 = .ok (.goto (-36), 3) := by decide +kernel
theorem dX2_goBack_49 : decode cX2_goBack 49 = .ok (.return_, 1) := by decide +kernel
theorem dX2_activeOperations_0 : decode cX2_activeOperations 0 = .ok (.iconst 0, 1) := by decide +kernel
theorem dX2_activeOperations_1 : decode cX2_activeOperations 1 = .ok (.istore_n 1, 1) := by decide +kernel
theorem dX2_activeOperations_2 : decode cX2_activeOperations 2 = .ok (.iconst 0, 1) := by decide +kernel
theorem dX2_activeOperations_3 : decode cX2_activeOperations 3 = .ok (.istore_n 2, 1) := by decide +kernel
theorem dX2_activeOperations_4 : decode cX2_activeOperations 4 = .ok (.iload_n 2, 1) := by decide +kernel
theorem dX2_activeOperations_5 : decode cX2_activeOperations 5 = .ok (.iconst 5, 1) := by decide +kernel
theorem dX2_activeOperations_6 : decode cX2_activeOperations 6 = .ok (.if_icmp .ge 17, 3) := by decide +kernel
theorem dX2_activeOperations_9 : decode cX2_activeOperations 9 = .ok (.iload_n 1, 1) := by decide +kernel
theorem dX2_activeOperations_10 : decode cX2_activeOperations 10 = .ok (.aload_n 0, 1) := by decide +kernel
theorem dX2_activeOperations_11 : decode cX2_activeOperations 11 = .ok (.iload_n 2, 1) := by decide +kernel
theorem dX2_activeOperations_12 : decode cX2_activeOperations 12 = .ok (.invokevirtual 60, 3) := by decide +kernel
theorem dX2_activeOperations_15 : decode cX2_activeOperations 15 = .ok (.iadd, 1) := by decide +kernel
theorem dX2_activeOperations_16 : decode cX2_activeOperations 16 = .ok (.istore_n 1, 1) := by decide +kernel
theorem dX2_activeOperations_17 : decode cX2_activeOperations 17 = .ok (.iinc 2 1, 3) := by decide +kernel
theorem dX2_activeOperations_20 : decode cX2_activeOperations 20 = .ok (.goto (-16), 3) := by decide +kernel
theorem dX2_activeOperations_23 : decode cX2_activeOperations 23 = .ok (.iload_n 1, 1) := by decide +kernel
theorem dX2_activeOperations_24 : decode cX2_activeOperations 24 = .ok (.ireturn, 1) := by decide +kernel
theorem dX2_operationsOf_0 : decode cX2_operationsOf 0 = .ok (.iconst 0, 1) := by decide +kernel
theorem dX2_operationsOf_1 : decode cX2_operationsOf 1 = .ok (.istore_n 2, 1) := by decide +kernel
theorem dX2_operationsOf_2 : decode cX2_operationsOf 2 = .ok (.iconst 0, 1) := by decide +kernel
theorem dX2_operationsOf_3 : decode cX2_operationsOf 3 = .ok (.istore_n 3, 1) := by decide +kernel
theorem dX2_operationsOf_4 : decode cX2_operationsOf 4 = .ok (.iload_n 3, 1) := by decide +kernel
theorem dX2_operationsOf_5 : decode cX2_operationsOf 5 = .ok (.aload_n 0, 1) := by decide +kernel
theorem dX2_operationsOf_6 : decode cX2_operationsOf 6 = .ok (.getfield 17, 3) := by decide +kernel
theorem dX2_operationsOf_9 : decode cX2_operationsOf 9 = .ok (.if_icmp .ge 25, 3) := by decide +kernel
theorem dX2_operationsOf_12 : decode cX2_operationsOf 12 = .ok (.aload_n 0, 1) := by decide +kernel
theorem dX2_operationsOf_13 : decode cX2_operationsOf 13 = .ok (.getfield 11, 3) := by decide +kernel
theorem dX2_operationsOf_16 : decode cX2_operationsOf 16 = .ok (.iload_n 3, 1) := by decide +kernel
theorem dX2_operationsOf_17 : decode cX2_operationsOf 17 = .ok (.aaload, 1) := by decide +kernel
theorem dX2_operationsOf_18 : decode cX2_operationsOf 18 = .ok (.getfield 32, 3) := by decide +kernel
theorem dX2_operationsOf_21 : decode cX2_operationsOf 21 = .ok (.iload_n 1, 1) := by decide +kernel
theorem dX2_operationsOf_22 : decode cX2_operationsOf 22 = .ok (.if_icmp .ne 6, 3) := by decide +kernel
theorem dX2_operationsOf_25 : decode cX2_operationsOf 25 = .ok (.iinc 2 1, 3) := by decide +kernel
theorem dX2_operationsOf_28 : decode cX2_operationsOf 28 = .ok (.iinc 3 1, 3) := by decide +kernel
theorem dX2_operationsOf_31 : decode cX2_operationsOf 31 = .ok (.goto (-27), 3) := by decide +kernel
theorem dX2_operationsOf_34 : decode cX2_operationsOf 34 = .ok (.iload_n 2, 1) := by decide +kernel
theorem dX2_operationsOf_35 : decode cX2_operationsOf 35 = .ok (.ireturn, 1) := by decide +kernel
theorem dX2_activeOf_0 : decode cX2_activeOf 0 = .ok (.iconst 0, 1) := by decide +kernel
theorem dX2_activeOf_1 : decode cX2_activeOf 1 = .ok (.istore_n 2, 1) := by decide +kernel
theorem dX2_activeOf_2 : decode cX2_activeOf 2 = .ok (.iconst 0, 1) := by decide +kernel
theorem dX2_activeOf_3 : decode cX2_activeOf 3 = .ok (.istore_n 3, 1) := by decide +kernel
theorem dX2_activeOf_4 : decode cX2_activeOf 4 = .ok (.iload_n 3, 1) := by decide +kernel
theorem dX2_activeOf_5 : decode cX2_activeOf 5 = .ok (.aload_n 0, 1) := by decide +kernel
theorem dX2_activeOf_6 : decode cX2_activeOf 6 = .ok (.getfield 17, 3) := by decide +kernel
theorem dX2_activeOf_9 : decode cX2_activeOf 9 = .ok (.if_icmp .ge 37, 3) := by decide +kernel
theorem dX2_activeOf_12 : decode cX2_activeOf 12 = .ok (.aload_n 0, 1) := by decide +kernel
theorem dX2_activeOf_13 : decode cX2_activeOf 13 = .ok (.getfield 11, 3) := by decide +kernel
theorem dX2_activeOf_16 : decode cX2_activeOf 16 = .ok (.iload_n 3, 1) := by decide +kernel
theorem dX2_activeOf_17 : decode cX2_activeOf 17 = .ok (.aaload, 1) := by decide +kernel
theorem dX2_activeOf_18 : decode cX2_activeOf 18 = .ok (.getfield 32, 3) := by decide +kernel
theorem dX2_activeOf_21 : decode cX2_activeOf 21 = .ok (.iload_n 1, 1) := by decide +kernel
theorem dX2_activeOf_22 : decode cX2_activeOf 22 = .ok (.if_icmp .ne 18, 3) := by decide +kernel
theorem dX2_activeOf_25 : decode cX2_activeOf 25 = .ok (.aload_n 0, 1) := by decide +kernel
theorem dX2_activeOf_26 : decode cX2_activeOf 26 = .ok (.getfield 11, 3) := by decide +kernel
theorem dX2_activeOf_29 : decode cX2_activeOf 29 = .ok (.iload_n 3, 1) := by decide +kernel
theorem dX2_activeOf_30 : decode cX2_activeOf 30 = .ok (.aaload, 1) := by decide +kernel
theorem dX2_activeOf_31 : decode cX2_activeOf 31 = .ok (.getfield 47, 3) := by decide +kernel
theorem dX2_activeOf_34 : decode cX2_activeOf 34 = .ok (.ifCond .eq 6, 3) := by decide +kernel
theorem dX2_activeOf_37 : decode cX2_activeOf 37 = .ok (.iinc 2 1, 3) := by decide +kernel
theorem dX2_activeOf_40 : decode cX2_activeOf 40 = .ok (.iinc 3 1, 3) := by decide +kernel
theorem dX2_activeOf_43 : decode cX2_activeOf 43 = .ok (.goto (-39), 3) := by decide +kernel
theorem dX2_activeOf_46 : decode cX2_activeOf 46 = .ok (.iload_n 2, 1) := by decide +kernel
theorem dX2_activeOf_47 : decode cX2_activeOf 47 = .ok (.ireturn, 1) := by decide +kernel
theorem dX2_redoableOf_0 : decode cX2_redoableOf 0 = .ok (.iconst 0, 1) := by decide +kernel
theorem dX2_redoableOf_1 : decode cX2_redoableOf 1 = .ok (.istore_n 2, 1) := by decide +kernel
theorem dX2_redoableOf_2 : decode cX2_redoableOf 2 = .ok (.iconst 0, 1) := by decide +kernel
theorem dX2_redoableOf_3 : decode cX2_redoableOf 3 = .ok (.istore_n 3, 1) := by decide +kernel
theorem dX2_redoableOf_4 : decode cX2_redoableOf 4 = .ok (.iload_n 3, 1) := by decide +kernel
theorem dX2_redoableOf_5 : decode cX2_redoableOf 5 = .ok (.aload_n 0, 1) := by decide +kernel
theorem dX2_redoableOf_6 : decode cX2_redoableOf 6 = .ok (.getfield 17, 3) := by decide +kernel
theorem dX2_redoableOf_9 : decode cX2_redoableOf 9 = .ok (.if_icmp .ge 37, 3) := by decide +kernel
theorem dX2_redoableOf_12 : decode cX2_redoableOf 12 = .ok (.aload_n 0, 1) := by decide +kernel
theorem dX2_redoableOf_13 : decode cX2_redoableOf 13 = .ok (.getfield 11, 3) := by decide +kernel
theorem dX2_redoableOf_16 : decode cX2_redoableOf 16 = .ok (.iload_n 3, 1) := by decide +kernel
theorem dX2_redoableOf_17 : decode cX2_redoableOf 17 = .ok (.aaload, 1) := by decide +kernel
theorem dX2_redoableOf_18 : decode cX2_redoableOf 18 = .ok (.getfield 32, 3) := by decide +kernel
theorem dX2_redoableOf_21 : decode cX2_redoableOf 21 = .ok (.iload_n 1, 1) := by decide +kernel
theorem dX2_redoableOf_22 : decode cX2_redoableOf 22 = .ok (.if_icmp .ne 18, 3) := by decide +kernel
theorem dX2_redoableOf_25 : decode cX2_redoableOf 25 = .ok (.aload_n 0, 1) := by decide +kernel
theorem dX2_redoableOf_26 : decode cX2_redoableOf 26 = .ok (.getfield 11, 3) := by decide +kernel
theorem dX2_redoableOf_29 : decode cX2_redoableOf 29 = .ok (.iload_n 3, 1) := by decide +kernel
theorem dX2_redoableOf_30 : decode cX2_redoableOf 30 = .ok (.aaload, 1) := by decide +kernel
theorem dX2_redoableOf_31 : decode cX2_redoableOf 31 = .ok (.getfield 51, 3) := by decide +kernel
theorem dX2_redoableOf_34 : decode cX2_redoableOf 34 = .ok (.ifCond .le 6, 3) := by decide +kernel
theorem dX2_redoableOf_37 : decode cX2_redoableOf 37 = .ok (.iinc 2 1, 3) := by decide +kernel
theorem dX2_redoableOf_40 : decode cX2_redoableOf 40 = .ok (.iinc 3 1, 3) := by decide +kernel
theorem dX2_redoableOf_43 : decode cX2_redoableOf 43 = .ok (.goto (-39), 3) := by decide +kernel
theorem dX2_redoableOf_46 : decode cX2_redoableOf 46 = .ok (.iload_n 2, 1) := by decide +kernel
theorem dX2_redoableOf_47 : decode cX2_redoableOf 47 = .ok (.ireturn, 1) := by decide +kernel
theorem dX3_init_0 : decode cX3_init 0 = .ok (.aload_n 0, 1) := by decide +kernel
theorem dX3_init_1 : decode cX3_init 1 = .ok (.invokespecial 3, 3) := by decide +kernel
theorem dX3_init_4 : decode cX3_init 4 = .ok (.aload_n 0, 1) := by decide +kernel
theorem dX3_init_5 : decode cX3_init 5 = .ok (.iconst 0, 1) := by decide +kernel
theorem dX3_init_6 : decode cX3_init 6 = .ok (.putfield 9, 3) := by decide +kernel
theorem dX3_init_9 : decode cX3_init 9 = .ok (.aload_n 0, 1) := by decide +kernel
theorem dX3_init_10 : decode cX3_init 10 = .ok (.iconst 0, 1) := by decide +kernel
theorem dX3_init_11 : decode cX3_init 11 = .ok (.putfield 15, 3) := by decide +kernel
theorem dX3_init_14 : decode cX3_init 14 = .ok (.aload_n 0, 1) := by decide +kernel
theorem dX3_init_15 : decode cX3_init 15 = .ok (.bipush 60, 2) := by decide +kernel
theorem dX3_init_17 : decode cX3_init 17 = .ok (.newarray .boolean, 2) := by decide +kernel
theorem dX3_init_19 : decode cX3_init 19 = .ok (.putfield 19, 3) := by decide +kernel
theorem dX3_init_22 : decode cX3_init 22 = .ok (.aload_n 0, 1) := by decide +kernel
theorem dX3_init_23 : decode cX3_init 23 = .ok (.sipush 256, 3) := by decide +kernel
theorem dX3_init_26 : decode cX3_init 26 = .ok (.newarray .int, 2) := by decide +kernel
theorem dX3_init_28 : decode cX3_init 28 = .ok (.putfield 23, 3) := by decide +kernel
theorem dX3_init_31 : decode cX3_init 31 = .ok (.return_, 1) := by decide +kernel
theorem dX3_keep_0 : decode cX3_keep 0 = .ok (.aload_n 0, 1) := by decide +kernel
theorem dX3_keep_1 : decode cX3_keep 1 = .ok (.iconst 1, 1) := by decide +kernel
theorem dX3_keep_2 : decode cX3_keep 2 = .ok (.putfield 9, 3) := by decide +kernel
theorem dX3_keep_5 : decode cX3_keep 5 = .ok (.aload_n 0, 1) := by decide +kernel
theorem dX3_keep_6 : decode cX3_keep 6 = .ok (.aload_n 1, 1) := by decide +kernel
theorem dX3_keep_7 : decode cX3_keep 7 = .ok (.getfield 27, 3) := by decide +kernel
theorem dX3_keep_10 : decode cX3_keep 10 = .ok (.putfield 15, 3) := by decide +kernel
theorem dX3_keep_13 : decode cX3_keep 13 = .ok (.iconst 0, 1) := by decide +kernel
theorem dX3_keep_14 : decode cX3_keep 14 = .ok (.istore_n 3, 1) := by decide +kernel
theorem dX3_keep_15 : decode cX3_keep 15 = .ok (.iload_n 3, 1) := by decide +kernel
theorem dX3_keep_16 : decode cX3_keep 16 = .ok (.aload_n 0, 1) := by decide +kernel
theorem dX3_keep_17 : decode cX3_keep 17 = .ok (.getfield 15, 3) := by decide +kernel
theorem dX3_keep_20 : decode cX3_keep 20 = .ok (.if_icmp .ge 24, 3) := by decide +kernel
theorem dX3_keep_23 : decode cX3_keep 23 = .ok (.aload_n 0, 1) := by decide +kernel
theorem dX3_keep_24 : decode cX3_keep 24 = .ok (.getfield 19, 3) := by decide +kernel
theorem dX3_keep_27 : decode cX3_keep 27 = .ok (.iload_n 3, 1) := by decide +kernel
theorem dX3_keep_28 : decode cX3_keep 28 = .ok (.aload_n 1, 1) := by decide +kernel
theorem dX3_keep_29 : decode cX3_keep 29 = .ok (.getfield 30, 3) := by decide +kernel
theorem dX3_keep_32 : decode cX3_keep 32 = .ok (.iload_n 3, 1) := by decide +kernel
theorem dX3_keep_33 : decode cX3_keep 33 = .ok (.aaload, 1) := by decide +kernel
theorem dX3_keep_34 : decode cX3_keep 34 = .ok (.getfield 34, 3) := by decide +kernel
theorem dX3_keep_37 : decode cX3_keep 37 = .ok (.bastore, 1) := by decide +kernel
theorem dX3_keep_38 : decode cX3_keep 38 = .ok (.iinc 3 1, 3) := by decide +kernel
theorem dX3_keep_41 : decode cX3_keep 41 = .ok (.goto (-26), 3) := by decide +kernel
theorem dX3_keep_44 : decode cX3_keep 44 = .ok (.iconst 0, 1) := by decide +kernel
theorem dX3_keep_45 : decode cX3_keep 45 = .ok (.istore_n 3, 1) := by decide +kernel
theorem dX3_keep_46 : decode cX3_keep 46 = .ok (.iload_n 3, 1) := by decide +kernel
theorem dX3_keep_47 : decode cX3_keep 47 = .ok (.sipush 256, 3) := by decide +kernel
theorem dX3_keep_50 : decode cX3_keep 50 = .ok (.if_icmp .ge 21, 3) := by decide +kernel
theorem dX3_keep_53 : decode cX3_keep 53 = .ok (.aload_n 0, 1) := by decide +kernel
theorem dX3_keep_54 : decode cX3_keep 54 = .ok (.getfield 23, 3) := by decide +kernel
theorem dX3_keep_57 : decode cX3_keep 57 = .ok (.iload_n 3, 1) := by decide +kernel
theorem dX3_keep_58 : decode cX3_keep 58 = .ok (.aload_n 2, 1) := by decide +kernel
theorem dX3_keep_59 : decode cX3_keep 59 = .ok (.getfield 38, 3) := by decide +kernel
theorem dX3_keep_62 : decode cX3_keep 62 = .ok (.iload_n 3, 1) := by decide +kernel
theorem dX3_keep_63 : decode cX3_keep 63 = .ok (.iaload, 1) := by decide +kernel
theorem dX3_keep_64 : decode cX3_keep 64 = .ok (.iastore, 1) := by decide +kernel
theorem dX3_keep_65 : decode cX3_keep 65 = .ok (.iinc 3 1, 3) := by decide +kernel
theorem dX3_keep_68 : decode cX3_keep 68 = .ok (.goto (-22), 3) := by decide +kernel
theorem dX3_keep_71 : decode cX3_keep 71 = .ok (.return_, 1) := by decide +kernel
theorem dX4_init_0 : decode cX4_init 0 = .ok (.aload_n 0, 1) := by decide +kernel
theorem dX4_init_1 : decode cX4_init 1 = .ok (.invokespecial 3, 3) := by decide +kernel
theorem dX4_init_4 : decode cX4_init 4 = .ok (.aload_n 0, 1) := by decide +kernel
theorem dX4_init_5 : decode cX4_init 5 = .ok (.iconst 0, 1) := by decide +kernel
theorem dX4_init_6 : decode cX4_init 6 = .ok (.putfield 9, 3) := by decide +kernel
theorem dX4_init_9 : decode cX4_init 9 = .ok (.aload_n 0, 1) := by decide +kernel
theorem dX4_init_10 : decode cX4_init 10 = .ok (.iconst 0, 1) := by decide +kernel
theorem dX4_init_11 : decode cX4_init 11 = .ok (.putfield 15, 3) := by decide +kernel
theorem dX4_init_14 : decode cX4_init 14 = .ok (.aload_n 0, 1) := by decide +kernel
theorem dX4_init_15 : decode cX4_init 15 = .ok (.iconst 0, 1) := by decide +kernel
theorem dX4_init_16 : decode cX4_init 16 = .ok (.putfield 18, 3) := by decide +kernel
theorem dX4_init_19 : decode cX4_init 19 = .ok (.aload_n 0, 1) := by decide +kernel
theorem dX4_init_20 : decode cX4_init 20 = .ok (.iconst 0, 1) := by decide +kernel
theorem dX4_init_21 : decode cX4_init 21 = .ok (.putfield 21, 3) := by decide +kernel
theorem dX4_init_24 : decode cX4_init 24 = .ok (.aload_n 0, 1) := by decide +kernel
theorem dX4_init_25 : decode cX4_init 25 = .ok (.iconst 0, 1) := by decide +kernel
theorem dX4_init_26 : decode cX4_init 26 = .ok (.putfield 24, 3) := by decide +kernel
theorem dX4_init_29 : decode cX4_init 29 = .ok (.aload_n 0, 1) := by decide +kernel
theorem dX4_init_30 : decode cX4_init 30 = .ok (.iconst 0, 1) := by decide +kernel
theorem dX4_init_31 : decode cX4_init 31 = .ok (.putfield 27, 3) := by decide +kernel
theorem dX4_init_34 : decode cX4_init 34 = .ok (.aload_n 0, 1) := by decide +kernel
theorem dX4_init_35 : decode cX4_init 35 = .ok (.iconst 0, 1) := by decide +kernel
theorem dX4_init_36 : decode cX4_init 36 = .ok (.putfield 30, 3) := by decide +kernel
theorem dX4_init_39 : decode cX4_init 39 = .ok (.aload_n 0, 1) := by decide +kernel
theorem dX4_init_40 : decode cX4_init 40 = .ok (.iconst 0, 1) := by decide +kernel
theorem dX4_init_41 : decode cX4_init 41 = .ok (.putfield 34, 3) := by decide +kernel
theorem dX4_init_44 : decode cX4_init 44 = .ok (.aload_n 0, 1) := by decide +kernel
theorem dX4_init_45 : decode cX4_init 45 = .ok (.new 37, 3) := by decide +kernel
theorem dX4_init_48 : decode cX4_init 48 = .ok (.dup, 1) := by decide +kernel
theorem dX4_init_49 : decode cX4_init 49 = .ok (.invokespecial 39, 3) := by decide +kernel
theorem dX4_init_52 : decode cX4_init 52 = .ok (.putfield 40, 3) := by decide +kernel
theorem dX4_init_55 : decode cX4_init 55 = .ok (.return_, 1) := by decide +kernel
theorem dX4_hasVanished_0 : decode cX4_hasVanished 0 = .ok (.aload_n 0, 1) := by decide +kernel
theorem dX4_hasVanished_1 : decode cX4_hasVanished 1 = .ok (.getfield 24, 3) := by decide +kernel
theorem dX4_hasVanished_4 : decode cX4_hasVanished 4 = .ok (.ifCond .le 20, 3) := by decide +kernel
theorem dX4_hasVanished_7 : decode cX4_hasVanished 7 = .ok (.iload_n 1, 1) := by decide +kernel
theorem dX4_hasVanished_8 : decode cX4_hasVanished 8 = .ok (.aload_n 0, 1) := by decide +kernel
theorem dX4_hasVanished_9 : decode cX4_hasVanished 9 = .ok (.getfield 27, 3) := by decide +kernel
theorem dX4_hasVanished_12 : decode cX4_hasVanished 12 = .ok (.aload_n 0, 1) := by decide +kernel
theorem dX4_hasVanished_13 : decode cX4_hasVanished 13 = .ok (.getfield 24, 3) := by decide +kernel
theorem dX4_hasVanished_16 : decode cX4_hasVanished 16 = .ok (.iadd, 1) := by decide +kernel
theorem dX4_hasVanished_17 : decode cX4_hasVanished 17 = .ok (.if_icmp .lt 7, 3) := by decide +kernel
theorem dX4_hasVanished_20 : decode cX4_hasVanished 20 = .ok (.iconst 1, 1) := by decide +kernel
theorem dX4_hasVanished_21 : decode cX4_hasVanished 21 = .ok (.goto 4, 3) := by decide +kernel
theorem dX4_hasVanished_24 : decode cX4_hasVanished 24 = .ok (.iconst 0, 1) := by decide +kernel
theorem dX4_hasVanished_25 : decode cX4_hasVanished 25 = .ok (.ireturn, 1) := by decide +kernel
theorem dX4_strengthAt_0 : decode cX4_strengthAt 0 = .ok (.aload_n 0, 1) := by decide +kernel
theorem dX4_strengthAt_1 : decode cX4_strengthAt 1 = .ok (.getfield 9, 3) := by decide +kernel
theorem dX4_strengthAt_4 : decode cX4_strengthAt 4 = .ok (.iconst 2, 1) := by decide +kernel
theorem dX4_strengthAt_5 : decode cX4_strengthAt 5 = .ok (.if_icmp .eq 11, 3) := by decide +kernel
theorem dX4_strengthAt_8 : decode cX4_strengthAt 8 = .ok (.aload_n 0, 1) := by decide +kernel
theorem dX4_strengthAt_9 : decode cX4_strengthAt 9 = .ok (.iload_n 1, 1) := by decide +kernel
theorem dX4_strengthAt_10 : decode cX4_strengthAt 10 = .ok (.invokevirtual 44, 3) := by decide +kernel
theorem dX4_strengthAt_13 : decode cX4_strengthAt 13 = .ok (.ifCond .eq 5, 3) := by decide +kernel
theorem dX4_strengthAt_16 : decode cX4_strengthAt 16 = .ok (.iconst 0, 1) := by decide +kernel
theorem dX4_strengthAt_17 : decode cX4_strengthAt 17 = .ok (.ireturn, 1) := by decide +kernel
theorem dX4_strengthAt_18 : decode cX4_strengthAt 18 = .ok (.aload_n 0, 1) := by decide +kernel
theorem dX4_strengthAt_19 : decode cX4_strengthAt 19 = .ok (.getfield 24, 3) := by decide +kernel
theorem dX4_strengthAt_22 : decode cX4_strengthAt 22 = .ok (.ifCond .gt 8, 3) := by decide +kernel
theorem dX4_strengthAt_25 : decode cX4_strengthAt 25 = .ok (.bipush 100, 2) := by decide +kernel
theorem dX4_strengthAt_27 : decode cX4_strengthAt 27 = .ok (.goto 22, 3) := by decide +kernel
theorem dX4_strengthAt_30 : decode cX4_strengthAt 30 = .ok (.bipush 100, 2) := by decide +kernel
theorem dX4_strengthAt_32 : decode cX4_strengthAt 32 = .ok (.aload_n 0, 1) := by decide +kernel
theorem dX4_strengthAt_33 : decode cX4_strengthAt 33 = .ok (.getfield 27, 3) := by decide +kernel
theorem dX4_strengthAt_36 : decode cX4_strengthAt 36 = .ok (.aload_n 0, 1) := by decide +kernel
theorem dX4_strengthAt_37 : decode cX4_strengthAt 37 = .ok (.getfield 24, 3) := by decide +kernel
theorem dX4_strengthAt_40 : decode cX4_strengthAt 40 = .ok (.iadd, 1) := by decide +kernel
theorem dX4_strengthAt_41 : decode cX4_strengthAt 41 = .ok (.iload_n 1, 1) := by decide +kernel
theorem dX4_strengthAt_42 : decode cX4_strengthAt 42 = .ok (.isub, 1) := by decide +kernel
theorem dX4_strengthAt_43 : decode cX4_strengthAt 43 = .ok (.imul, 1) := by decide +kernel
theorem dX4_strengthAt_44 : decode cX4_strengthAt 44 = .ok (.aload_n 0, 1) := by decide +kernel
theorem dX4_strengthAt_45 : decode cX4_strengthAt 45 = .ok (.getfield 24, 3) := by decide +kernel
theorem dX4_strengthAt_48 : decode cX4_strengthAt 48 = .ok (.idiv, 1) := by decide +kernel
theorem dX4_strengthAt_49 : decode cX4_strengthAt 49 = .ok (.ireturn, 1) := by decide +kernel
theorem fk_X1_11 : Cond.fieldLink RX1 11 RX1 (TX1 0).2.1 (TX1 0).2.2.1 ∈ gl := gl_tb (by decide +kernel) rfl
theorem fk_X1_17 : Cond.fieldLink RX1 17 RX1 (TX1 1).2.1 (TX1 1).2.2.1 ∈ gl := gl_tb (by decide +kernel) rfl
theorem fk_X1_21 : Cond.fieldLink RX1 21 RX1 (TX1 2).2.1 (TX1 2).2.2.1 ∈ gl := gl_tb (by decide +kernel) rfl
theorem mk_X1_25 : Cond.methodLink RX1 25 yX0_contains ∈ gl := gl_tb (by decide +kernel) rfl
theorem mk_X1_29 : Cond.methodLink RX1 29 yX0_becomeEmpty ∈ gl := gl_tb (by decide +kernel) rfl
theorem mk_X1_32 : Cond.methodLink RX1 32 yX0_addAll ∈ gl := gl_tb (by decide +kernel) rfl
theorem fk_X2_11 : Cond.fieldLink RX2 11 RX2 (TX2 0).2.1 (TX2 0).2.2.1 ∈ gl := gl_tb (by decide +kernel) rfl
theorem fk_X2_17 : Cond.fieldLink RX2 17 RX2 (TX2 1).2.1 (TX2 1).2.2.1 ∈ gl := gl_tb (by decide +kernel) rfl
theorem fk_X2_21 : Cond.fieldLink RX2 21 RX2 (TX2 2).2.1 (TX2 2).2.2.1 ∈ gl := gl_tb (by decide +kernel) rfl
theorem mk_X2_25 : Cond.methodLink RX2 25 yX2_forgetRedoOf ∈ gl := gl_tb (by decide +kernel) rfl
theorem fk_X2_29 : Cond.fieldLink RX2 29 RX4 (TX4 0).2.1 (TX4 0).2.2.1 ∈ gl := gl_tb (by decide +kernel) rfl
theorem fk_X2_32 : Cond.fieldLink RX2 32 RX4 (TX4 1).2.1 (TX4 1).2.2.1 ∈ gl := gl_tb (by decide +kernel) rfl
theorem fk_X2_35 : Cond.fieldLink RX2 35 RX4 (TX4 2).2.1 (TX4 2).2.2.1 ∈ gl := gl_tb (by decide +kernel) rfl
theorem fk_X2_38 : Cond.fieldLink RX2 38 RX4 (TX4 3).2.1 (TX4 3).2.2.1 ∈ gl := gl_tb (by decide +kernel) rfl
theorem fk_X2_41 : Cond.fieldLink RX2 41 RX4 (TX4 4).2.1 (TX4 4).2.2.1 ∈ gl := gl_tb (by decide +kernel) rfl
theorem fk_X2_44 : Cond.fieldLink RX2 44 RX4 (TX4 5).2.1 (TX4 5).2.2.1 ∈ gl := gl_tb (by decide +kernel) rfl
theorem fk_X2_47 : Cond.fieldLink RX2 47 RX4 (TX4 6).2.1 (TX4 6).2.2.1 ∈ gl := gl_tb (by decide +kernel) rfl
theorem fk_X2_51 : Cond.fieldLink RX2 51 RX4 (TX4 7).2.1 (TX4 7).2.2.1 ∈ gl := gl_tb (by decide +kernel) rfl
theorem fk_X2_54 : Cond.fieldLink RX2 54 RX3 (TX3 1).2.1 (TX3 1).2.2.1 ∈ gl := gl_tb (by decide +kernel) rfl
theorem fk_X2_57 : Cond.fieldLink RX2 57 RX3 (TX3 2).2.1 (TX3 2).2.2.1 ∈ gl := gl_tb (by decide +kernel) rfl
theorem mk_X2_60 : Cond.methodLink RX2 60 yX2_activeOf ∈ gl := gl_tb (by decide +kernel) rfl
theorem fk_X3_9 : Cond.fieldLink RX3 9 RX3 (TX3 0).2.1 (TX3 0).2.2.1 ∈ gl := gl_tb (by decide +kernel) rfl
theorem fk_X3_15 : Cond.fieldLink RX3 15 RX3 (TX3 1).2.1 (TX3 1).2.2.1 ∈ gl := gl_tb (by decide +kernel) rfl
theorem fk_X3_19 : Cond.fieldLink RX3 19 RX3 (TX3 2).2.1 (TX3 2).2.2.1 ∈ gl := gl_tb (by decide +kernel) rfl
theorem fk_X3_23 : Cond.fieldLink RX3 23 RX3 (TX3 3).2.1 (TX3 3).2.2.1 ∈ gl := gl_tb (by decide +kernel) rfl
theorem fk_X3_27 : Cond.fieldLink RX3 27 RX2 (TX2 1).2.1 (TX2 1).2.2.1 ∈ gl := gl_tb (by decide +kernel) rfl
theorem fk_X3_30 : Cond.fieldLink RX3 30 RX2 (TX2 0).2.1 (TX2 0).2.2.1 ∈ gl := gl_tb (by decide +kernel) rfl
theorem fk_X3_34 : Cond.fieldLink RX3 34 RX4 (TX4 6).2.1 (TX4 6).2.2.1 ∈ gl := gl_tb (by decide +kernel) rfl
theorem fk_X3_38 : Cond.fieldLink RX3 38 RX7 (TX7 2).2.1 (TX7 2).2.2.1 ∈ gl := gl_tb (by decide +kernel) rfl
theorem fk_X4_9 : Cond.fieldLink RX4 9 RX4 (TX4 0).2.1 (TX4 0).2.2.1 ∈ gl := gl_tb (by decide +kernel) rfl
theorem fk_X4_15 : Cond.fieldLink RX4 15 RX4 (TX4 1).2.1 (TX4 1).2.2.1 ∈ gl := gl_tb (by decide +kernel) rfl
theorem fk_X4_18 : Cond.fieldLink RX4 18 RX4 (TX4 2).2.1 (TX4 2).2.2.1 ∈ gl := gl_tb (by decide +kernel) rfl
theorem fk_X4_21 : Cond.fieldLink RX4 21 RX4 (TX4 3).2.1 (TX4 3).2.2.1 ∈ gl := gl_tb (by decide +kernel) rfl
theorem fk_X4_24 : Cond.fieldLink RX4 24 RX4 (TX4 4).2.1 (TX4 4).2.2.1 ∈ gl := gl_tb (by decide +kernel) rfl
theorem fk_X4_27 : Cond.fieldLink RX4 27 RX4 (TX4 5).2.1 (TX4 5).2.2.1 ∈ gl := gl_tb (by decide +kernel) rfl
theorem fk_X4_30 : Cond.fieldLink RX4 30 RX4 (TX4 6).2.1 (TX4 6).2.2.1 ∈ gl := gl_tb (by decide +kernel) rfl
theorem fk_X4_34 : Cond.fieldLink RX4 34 RX4 (TX4 7).2.1 (TX4 7).2.2.1 ∈ gl := gl_tb (by decide +kernel) rfl
theorem fk_X4_40 : Cond.fieldLink RX4 40 RX4 (TX4 8).2.1 (TX4 8).2.2.1 ∈ gl := gl_tb (by decide +kernel) rfl
theorem mk_X4_44 : Cond.methodLink RX4 44 yX4_hasVanished ∈ gl := gl_tb (by decide +kernel) rfl
theorem vw_X1_freeSlot : vwM RX1 yX1_freeSlot (.code yX1_freeSlot cX1_freeSlot 3 (some .int)) := ⟨gl_tb (by decide +kernel) rfl, by first | exact gl_tb (by decide +kernel) rfl | exact gl_pv (by decide +kernel) rfl, gl_tb (by decide +kernel) rfl, gl_tb (by decide +kernel) rfl⟩
theorem vw_X1_begin : vwM RX1 yX1_begin (.code yX1_begin cX1_begin 4 none) := ⟨gl_tb (by decide +kernel) rfl, by first | exact gl_tb (by decide +kernel) rfl | exact gl_pv (by decide +kernel) rfl, gl_tb (by decide +kernel) rfl, gl_tb (by decide +kernel) rfl⟩
theorem vw_X1_endAll : vwM RX1 yX1_endAll (.code yX1_endAll cX1_endAll 2 none) := ⟨gl_tb (by decide +kernel) rfl, by first | exact gl_tb (by decide +kernel) rfl | exact gl_pv (by decide +kernel) rfl, gl_tb (by decide +kernel) rfl, gl_tb (by decide +kernel) rfl⟩
theorem vw_X1_endAllOf : vwM RX1 yX1_endAllOf (.code yX1_endAllOf cX1_endAllOf 5 (some .int)) := ⟨gl_tb (by decide +kernel) rfl, by first | exact gl_tb (by decide +kernel) rfl | exact gl_pv (by decide +kernel) rfl, gl_tb (by decide +kernel) rfl, gl_tb (by decide +kernel) rfl⟩
theorem vw_X1_inForce : vwM RX1 yX1_inForce (.code yX1_inForce cX1_inForce 4 (some .int)) := ⟨gl_tb (by decide +kernel) rfl, by first | exact gl_tb (by decide +kernel) rfl | exact gl_pv (by decide +kernel) rfl, gl_tb (by decide +kernel) rfl, gl_tb (by decide +kernel) rfl⟩
theorem vw_X1_inForceOf : vwM RX1 yX1_inForceOf (.code yX1_inForceOf cX1_inForceOf 5 (some .int)) := ⟨gl_tb (by decide +kernel) rfl, by first | exact gl_tb (by decide +kernel) rfl | exact gl_pv (by decide +kernel) rfl, gl_tb (by decide +kernel) rfl, gl_tb (by decide +kernel) rfl⟩
theorem vw_X1_lowestOwner : vwM RX1 yX1_lowestOwner (.code yX1_lowestOwner cX1_lowestOwner 5 (some .int)) := ⟨gl_tb (by decide +kernel) rfl, by first | exact gl_tb (by decide +kernel) rfl | exact gl_pv (by decide +kernel) rfl, gl_tb (by decide +kernel) rfl, gl_tb (by decide +kernel) rfl⟩
theorem vw_X1_collectClosed : vwM RX1 yX1_collectClosed (.code yX1_collectClosed cX1_collectClosed 5 none) := ⟨gl_tb (by decide +kernel) rfl, by first | exact gl_tb (by decide +kernel) rfl | exact gl_pv (by decide +kernel) rfl, gl_tb (by decide +kernel) rfl, gl_tb (by decide +kernel) rfl⟩
theorem vw_X2_contains : vwM RX2 yX2_contains (.code yX2_contains cX2_contains 2 (some .boolean)) := ⟨gl_tb (by decide +kernel) rfl, by first | exact gl_tb (by decide +kernel) rfl | exact gl_pv (by decide +kernel) rfl, gl_tb (by decide +kernel) rfl, gl_tb (by decide +kernel) rfl⟩
theorem vw_X2_begin : vwM RX2 yX2_begin (.code yX2_begin cX2_begin 6 (some (.object "SharedBoard$Operation"))) := ⟨gl_tb (by decide +kernel) rfl, by first | exact gl_tb (by decide +kernel) rfl | exact gl_pv (by decide +kernel) rfl, gl_tb (by decide +kernel) rfl, gl_tb (by decide +kernel) rfl⟩
theorem vw_X2_forgetRedoOf : vwM RX2 yX2_forgetRedoOf (.code yX2_forgetRedoOf cX2_forgetRedoOf 3 none) := ⟨gl_tb (by decide +kernel) rfl, by first | exact gl_tb (by decide +kernel) rfl | exact gl_pv (by decide +kernel) rfl, gl_tb (by decide +kernel) rfl, gl_tb (by decide +kernel) rfl⟩
theorem vw_X2_latestActive : vwM RX2 yX2_latestActive (.code yX2_latestActive cX2_latestActive 4 (some .int)) := ⟨gl_tb (by decide +kernel) rfl, by first | exact gl_tb (by decide +kernel) rfl | exact gl_pv (by decide +kernel) rfl, gl_tb (by decide +kernel) rfl, gl_tb (by decide +kernel) rfl⟩
theorem vw_X2_lastUndone : vwM RX2 yX2_lastUndone (.code yX2_lastUndone cX2_lastUndone 6 (some .int)) := ⟨gl_tb (by decide +kernel) rfl, by first | exact gl_tb (by decide +kernel) rfl | exact gl_pv (by decide +kernel) rfl, gl_tb (by decide +kernel) rfl, gl_tb (by decide +kernel) rfl⟩
theorem vw_X2_switchOff : vwM RX2 yX2_switchOff (.code yX2_switchOff cX2_switchOff 2 none) := ⟨gl_tb (by decide +kernel) rfl, by first | exact gl_tb (by decide +kernel) rfl | exact gl_pv (by decide +kernel) rfl, gl_tb (by decide +kernel) rfl, gl_tb (by decide +kernel) rfl⟩
theorem vw_X2_switchOn : vwM RX2 yX2_switchOn (.code yX2_switchOn cX2_switchOn 2 none) := ⟨gl_tb (by decide +kernel) rfl, by first | exact gl_tb (by decide +kernel) rfl | exact gl_pv (by decide +kernel) rfl, gl_tb (by decide +kernel) rfl, gl_tb (by decide +kernel) rfl⟩
theorem vw_X2_goBack : vwM RX2 yX2_goBack (.code yX2_goBack cX2_goBack 3 none) := ⟨gl_tb (by decide +kernel) rfl, by first | exact gl_tb (by decide +kernel) rfl | exact gl_pv (by decide +kernel) rfl, gl_tb (by decide +kernel) rfl, gl_tb (by decide +kernel) rfl⟩
theorem vw_X2_activeOperations : vwM RX2 yX2_activeOperations (.code yX2_activeOperations cX2_activeOperations 3 (some .int)) := ⟨gl_tb (by decide +kernel) rfl, by first | exact gl_tb (by decide +kernel) rfl | exact gl_pv (by decide +kernel) rfl, gl_tb (by decide +kernel) rfl, gl_tb (by decide +kernel) rfl⟩
theorem vw_X2_operationsOf : vwM RX2 yX2_operationsOf (.code yX2_operationsOf cX2_operationsOf 4 (some .int)) := ⟨gl_tb (by decide +kernel) rfl, by first | exact gl_tb (by decide +kernel) rfl | exact gl_pv (by decide +kernel) rfl, gl_tb (by decide +kernel) rfl, gl_tb (by decide +kernel) rfl⟩
theorem vw_X2_activeOf : vwM RX2 yX2_activeOf (.code yX2_activeOf cX2_activeOf 4 (some .int)) := ⟨gl_tb (by decide +kernel) rfl, by first | exact gl_tb (by decide +kernel) rfl | exact gl_pv (by decide +kernel) rfl, gl_tb (by decide +kernel) rfl, gl_tb (by decide +kernel) rfl⟩
theorem vw_X2_redoableOf : vwM RX2 yX2_redoableOf (.code yX2_redoableOf cX2_redoableOf 4 (some .int)) := ⟨gl_tb (by decide +kernel) rfl, by first | exact gl_tb (by decide +kernel) rfl | exact gl_pv (by decide +kernel) rfl, gl_tb (by decide +kernel) rfl, gl_tb (by decide +kernel) rfl⟩
theorem vw_X3_keep : vwM RX3 yX3_keep (.code yX3_keep cX3_keep 4 none) := ⟨gl_tb (by decide +kernel) rfl, by first | exact gl_tb (by decide +kernel) rfl | exact gl_pv (by decide +kernel) rfl, gl_tb (by decide +kernel) rfl, gl_tb (by decide +kernel) rfl⟩
theorem vw_X4_hasVanished : vwM RX4 yX4_hasVanished (.code yX4_hasVanished cX4_hasVanished 2 (some .boolean)) := ⟨gl_tb (by decide +kernel) rfl, by first | exact gl_tb (by decide +kernel) rfl | exact gl_pv (by decide +kernel) rfl, gl_tb (by decide +kernel) rfl, gl_tb (by decide +kernel) rfl⟩
theorem vw_X4_strengthAt : vwM RX4 yX4_strengthAt (.code yX4_strengthAt cX4_strengthAt 2 (some .int)) := ⟨gl_tb (by decide +kernel) rfl, by first | exact gl_tb (by decide +kernel) rfl | exact gl_pv (by decide +kernel) rfl, gl_tb (by decide +kernel) rfl, gl_tb (by decide +kernel) rfl⟩
