theorem dL_pass_0 : decode cL_pass 0 = .ok (.aload_n 2, 1) := by decide +kernel
theorem dL_pass_1 : decode cL_pass 1 = .ok (.iconst 0, 1) := by decide +kernel
theorem dL_pass_2 : decode cL_pass 2 = .ok (.aload_n 0, 1) := by decide +kernel
theorem dL_pass_3 : decode cL_pass 3 = .ok (.iload_n 1, 1) := by decide +kernel
theorem dL_pass_4 : decode cL_pass 4 = .ok (.invokevirtual 7, 3) := by decide +kernel
theorem dL_pass_7 : decode cL_pass 7 = .ok (.i2l, 1) := by decide +kernel
theorem dL_pass_8 : decode cL_pass 8 = .ok (.lastore, 1) := by decide +kernel
theorem dL_pass_9 : decode cL_pass 9 = .ok (.goto 9, 3) := by decide +kernel
theorem dL_pass_12 : decode cL_pass 12 = .ok (.astore_n 3, 1) := by decide +kernel
theorem dL_pass_13 : decode cL_pass 13 = .ok (.iconst 1, 1) := by decide +kernel
theorem dL_pass_14 : decode cL_pass 14 = .ok (.ireturn, 1) := by decide +kernel
theorem dL_pass_15 : decode cL_pass 15 = .ok (.astore_n 3, 1) := by decide +kernel
theorem dL_pass_16 : decode cL_pass 16 = .ok (.iconst 2, 1) := by decide +kernel
theorem dL_pass_17 : decode cL_pass 17 = .ok (.ireturn, 1) := by decide +kernel
theorem dL_pass_18 : decode cL_pass 18 = .ok (.iconst 0, 1) := by decide +kernel
theorem dL_pass_19 : decode cL_pass 19 = .ok (.ireturn, 1) := by decide +kernel
theorem dL_append_0 : decode cL_append 0 = .ok (.aload_n 2, 1) := by decide +kernel
theorem dL_append_1 : decode cL_append 1 = .ok (.iconst 0, 1) := by decide +kernel
theorem dL_append_2 : decode cL_append 2 = .ok (.aload_n 0, 1) := by decide +kernel
theorem dL_append_3 : decode cL_append 3 = .ok (.iload_n 1, 1) := by decide +kernel
theorem dL_append_4 : decode cL_append 4 = .ok (.invokevirtual 17, 3) := by decide +kernel
theorem dL_append_7 : decode cL_append 7 = .ok (.i2l, 1) := by decide +kernel
theorem dL_append_8 : decode cL_append 8 = .ok (.lastore, 1) := by decide +kernel
theorem dL_append_9 : decode cL_append 9 = .ok (.goto 9, 3) := by decide +kernel
theorem dL_append_12 : decode cL_append 12 = .ok (.astore_n 3, 1) := by decide +kernel
theorem dL_append_13 : decode cL_append 13 = .ok (.iconst 1, 1) := by decide +kernel
theorem dL_append_14 : decode cL_append 14 = .ok (.ireturn, 1) := by decide +kernel
theorem dL_append_15 : decode cL_append 15 = .ok (.astore_n 3, 1) := by decide +kernel
theorem dL_append_16 : decode cL_append 16 = .ok (.iconst 2, 1) := by decide +kernel
theorem dL_append_17 : decode cL_append 17 = .ok (.ireturn, 1) := by decide +kernel
theorem dL_append_18 : decode cL_append 18 = .ok (.iconst 0, 1) := by decide +kernel
theorem dL_append_19 : decode cL_append 19 = .ok (.ireturn, 1) := by decide +kernel
theorem dL_stroke_0 : decode cL_stroke 0 = .ok (.aload 5, 2) := by decide +kernel
theorem dL_stroke_2 : decode cL_stroke 2 = .ok (.iconst 0, 1) := by decide +kernel
theorem dL_stroke_3 : decode cL_stroke 3 = .ok (.aload_n 0, 1) := by decide +kernel
theorem dL_stroke_4 : decode cL_stroke 4 = .ok (.iload_n 1, 1) := by decide +kernel
theorem dL_stroke_5 : decode cL_stroke 5 = .ok (.iload_n 2, 1) := by decide +kernel
theorem dL_stroke_6 : decode cL_stroke 6 = .ok (.iload_n 3, 1) := by decide +kernel
theorem dL_stroke_7 : decode cL_stroke 7 = .ok (.iload 4, 2) := by decide +kernel
theorem dL_stroke_9 : decode cL_stroke 9 = .ok (.invokevirtual 20, 3) := by decide +kernel
theorem dL_stroke_12 : decode cL_stroke 12 = .ok (.i2l, 1) := by decide +kernel
theorem dL_stroke_13 : decode cL_stroke 13 = .ok (.lastore, 1) := by decide +kernel
theorem dL_stroke_14 : decode cL_stroke 14 = .ok (.goto 15, 3) := by decide +kernel
theorem dL_stroke_17 : decode cL_stroke 17 = .ok (.astore 6, 2) := by decide +kernel
theorem dL_stroke_19 : decode cL_stroke 19 = .ok (.iconst 1, 1) := by decide +kernel
theorem dL_stroke_20 : decode cL_stroke 20 = .ok (.ireturn, 1) := by decide +kernel
theorem dL_stroke_21 : decode cL_stroke 21 = .ok (.astore 6, 2) := by decide +kernel
theorem dL_stroke_23 : decode cL_stroke 23 = .ok (.iconst 2, 1) := by decide +kernel
theorem dL_stroke_24 : decode cL_stroke 24 = .ok (.ireturn, 1) := by decide +kernel
theorem dL_stroke_25 : decode cL_stroke 25 = .ok (.astore 6, 2) := by decide +kernel
theorem dL_stroke_27 : decode cL_stroke 27 = .ok (.iconst 3, 1) := by decide +kernel
theorem dL_stroke_28 : decode cL_stroke 28 = .ok (.ireturn, 1) := by decide +kernel
theorem dL_stroke_29 : decode cL_stroke 29 = .ok (.iconst 0, 1) := by decide +kernel
theorem dL_stroke_30 : decode cL_stroke 30 = .ok (.ireturn, 1) := by decide +kernel
theorem dL_erase_0 : decode cL_erase 0 = .ok (.aload 4, 2) := by decide +kernel
theorem dL_erase_2 : decode cL_erase 2 = .ok (.iconst 0, 1) := by decide +kernel
theorem dL_erase_3 : decode cL_erase 3 = .ok (.aload_n 0, 1) := by decide +kernel
theorem dL_erase_4 : decode cL_erase 4 = .ok (.iload_n 1, 1) := by decide +kernel
theorem dL_erase_5 : decode cL_erase 5 = .ok (.iload_n 2, 1) := by decide +kernel
theorem dL_erase_6 : decode cL_erase 6 = .ok (.iload_n 3, 1) := by decide +kernel
theorem dL_erase_7 : decode cL_erase 7 = .ok (.invokevirtual 26, 3) := by decide +kernel
theorem dL_erase_10 : decode cL_erase 10 = .ok (.i2l, 1) := by decide +kernel
theorem dL_erase_11 : decode cL_erase 11 = .ok (.lastore, 1) := by decide +kernel
theorem dL_erase_12 : decode cL_erase 12 = .ok (.goto 15, 3) := by decide +kernel
theorem dL_erase_15 : decode cL_erase 15 = .ok (.astore 5, 2) := by decide +kernel
theorem dL_erase_17 : decode cL_erase 17 = .ok (.iconst 1, 1) := by decide +kernel
theorem dL_erase_18 : decode cL_erase 18 = .ok (.ireturn, 1) := by decide +kernel
theorem dL_erase_19 : decode cL_erase 19 = .ok (.astore 5, 2) := by decide +kernel
theorem dL_erase_21 : decode cL_erase 21 = .ok (.iconst 2, 1) := by decide +kernel
theorem dL_erase_22 : decode cL_erase 22 = .ok (.ireturn, 1) := by decide +kernel
theorem dL_erase_23 : decode cL_erase 23 = .ok (.astore 5, 2) := by decide +kernel
theorem dL_erase_25 : decode cL_erase 25 = .ok (.iconst 3, 1) := by decide +kernel
theorem dL_erase_26 : decode cL_erase 26 = .ok (.ireturn, 1) := by decide +kernel
theorem dL_erase_27 : decode cL_erase 27 = .ok (.iconst 0, 1) := by decide +kernel
theorem dL_erase_28 : decode cL_erase 28 = .ok (.ireturn, 1) := by decide +kernel
theorem dL_fill_0 : decode cL_fill 0 = .ok (.aload 5, 2) := by decide +kernel
theorem dL_fill_2 : decode cL_fill 2 = .ok (.iconst 0, 1) := by decide +kernel
theorem dL_fill_3 : decode cL_fill 3 = .ok (.aload_n 0, 1) := by decide +kernel
theorem dL_fill_4 : decode cL_fill 4 = .ok (.iload_n 1, 1) := by decide +kernel
theorem dL_fill_5 : decode cL_fill 5 = .ok (.iload_n 2, 1) := by decide +kernel
theorem dL_fill_6 : decode cL_fill 6 = .ok (.iload_n 3, 1) := by decide +kernel
theorem dL_fill_7 : decode cL_fill 7 = .ok (.iload 4, 2) := by decide +kernel
theorem dL_fill_9 : decode cL_fill 9 = .ok (.invokevirtual 30, 3) := by decide +kernel
theorem dL_fill_12 : decode cL_fill 12 = .ok (.i2l, 1) := by decide +kernel
theorem dL_fill_13 : decode cL_fill 13 = .ok (.lastore, 1) := by decide +kernel
theorem dL_fill_14 : decode cL_fill 14 = .ok (.goto 15, 3) := by decide +kernel
theorem dL_fill_17 : decode cL_fill 17 = .ok (.astore 6, 2) := by decide +kernel
theorem dL_fill_19 : decode cL_fill 19 = .ok (.iconst 1, 1) := by decide +kernel
theorem dL_fill_20 : decode cL_fill 20 = .ok (.ireturn, 1) := by decide +kernel
theorem dL_fill_21 : decode cL_fill 21 = .ok (.astore 6, 2) := by decide +kernel
theorem dL_fill_23 : decode cL_fill 23 = .ok (.iconst 2, 1) := by decide +kernel
theorem dL_fill_24 : decode cL_fill 24 = .ok (.ireturn, 1) := by decide +kernel
theorem dL_fill_25 : decode cL_fill 25 = .ok (.astore 6, 2) := by decide +kernel
theorem dL_fill_27 : decode cL_fill 27 = .ok (.iconst 3, 1) := by decide +kernel
theorem dL_fill_28 : decode cL_fill 28 = .ok (.ireturn, 1) := by decide +kernel
theorem dL_fill_29 : decode cL_fill 29 = .ok (.iconst 0, 1) := by decide +kernel
theorem dL_fill_30 : decode cL_fill 30 = .ok (.ireturn, 1) := by decide +kernel
theorem dL_undo_0 : decode cL_undo 0 = .ok (.aload_n 2, 1) := by decide +kernel
theorem dL_undo_1 : decode cL_undo 1 = .ok (.iconst 0, 1) := by decide +kernel
theorem dL_undo_2 : decode cL_undo 2 = .ok (.aload_n 0, 1) := by decide +kernel
theorem dL_undo_3 : decode cL_undo 3 = .ok (.iload_n 1, 1) := by decide +kernel
theorem dL_undo_4 : decode cL_undo 4 = .ok (.invokevirtual 33, 3) := by decide +kernel
theorem dL_undo_7 : decode cL_undo 7 = .ok (.i2l, 1) := by decide +kernel
theorem dL_undo_8 : decode cL_undo 8 = .ok (.lastore, 1) := by decide +kernel
theorem dL_undo_9 : decode cL_undo 9 = .ok (.goto 9, 3) := by decide +kernel
theorem dL_undo_12 : decode cL_undo 12 = .ok (.astore_n 3, 1) := by decide +kernel
theorem dL_undo_13 : decode cL_undo 13 = .ok (.iconst 1, 1) := by decide +kernel
theorem dL_undo_14 : decode cL_undo 14 = .ok (.ireturn, 1) := by decide +kernel
theorem dL_undo_15 : decode cL_undo 15 = .ok (.astore_n 3, 1) := by decide +kernel
theorem dL_undo_16 : decode cL_undo 16 = .ok (.iconst 2, 1) := by decide +kernel
theorem dL_undo_17 : decode cL_undo 17 = .ok (.ireturn, 1) := by decide +kernel
theorem dL_undo_18 : decode cL_undo 18 = .ok (.iconst 0, 1) := by decide +kernel
theorem dL_undo_19 : decode cL_undo 19 = .ok (.ireturn, 1) := by decide +kernel
theorem dL_redo_0 : decode cL_redo 0 = .ok (.aload_n 2, 1) := by decide +kernel
theorem dL_redo_1 : decode cL_redo 1 = .ok (.iconst 0, 1) := by decide +kernel
theorem dL_redo_2 : decode cL_redo 2 = .ok (.aload_n 0, 1) := by decide +kernel
theorem dL_redo_3 : decode cL_redo 3 = .ok (.iload_n 1, 1) := by decide +kernel
theorem dL_redo_4 : decode cL_redo 4 = .ok (.invokevirtual 36, 3) := by decide +kernel
theorem dL_redo_7 : decode cL_redo 7 = .ok (.i2l, 1) := by decide +kernel
theorem dL_redo_8 : decode cL_redo 8 = .ok (.lastore, 1) := by decide +kernel
theorem dL_redo_9 : decode cL_redo 9 = .ok (.goto 9, 3) := by decide +kernel
theorem dL_redo_12 : decode cL_redo 12 = .ok (.astore_n 3, 1) := by decide +kernel
theorem dL_redo_13 : decode cL_redo 13 = .ok (.iconst 1, 1) := by decide +kernel
theorem dL_redo_14 : decode cL_redo 14 = .ok (.ireturn, 1) := by decide +kernel
theorem dL_redo_15 : decode cL_redo 15 = .ok (.astore_n 3, 1) := by decide +kernel
theorem dL_redo_16 : decode cL_redo 16 = .ok (.iconst 2, 1) := by decide +kernel
theorem dL_redo_17 : decode cL_redo 17 = .ok (.ireturn, 1) := by decide +kernel
theorem dL_redo_18 : decode cL_redo 18 = .ok (.iconst 0, 1) := by decide +kernel
theorem dL_redo_19 : decode cL_redo 19 = .ok (.ireturn, 1) := by decide +kernel
theorem dL_lease_0 : decode cL_lease 0 = .ok (.aload 5, 2) := by decide +kernel
theorem dL_lease_2 : decode cL_lease 2 = .ok (.iconst 0, 1) := by decide +kernel
theorem dL_lease_3 : decode cL_lease 3 = .ok (.aload_n 0, 1) := by decide +kernel
theorem dL_lease_4 : decode cL_lease 4 = .ok (.iload_n 1, 1) := by decide +kernel
theorem dL_lease_5 : decode cL_lease 5 = .ok (.iload_n 2, 1) := by decide +kernel
theorem dL_lease_6 : decode cL_lease 6 = .ok (.iload_n 3, 1) := by decide +kernel
theorem dL_lease_7 : decode cL_lease 7 = .ok (.iload 4, 2) := by decide +kernel
theorem dL_lease_9 : decode cL_lease 9 = .ok (.invokevirtual 39, 3) := by decide +kernel
theorem dL_lease_12 : decode cL_lease 12 = .ok (.i2l, 1) := by decide +kernel
theorem dL_lease_13 : decode cL_lease 13 = .ok (.lastore, 1) := by decide +kernel
theorem dL_lease_14 : decode cL_lease 14 = .ok (.goto 11, 3) := by decide +kernel
theorem dL_lease_17 : decode cL_lease 17 = .ok (.astore 6, 2) := by decide +kernel
theorem dL_lease_19 : decode cL_lease 19 = .ok (.iconst 1, 1) := by decide +kernel
theorem dL_lease_20 : decode cL_lease 20 = .ok (.ireturn, 1) := by decide +kernel
theorem dL_lease_21 : decode cL_lease 21 = .ok (.astore 6, 2) := by decide +kernel
theorem dL_lease_23 : decode cL_lease 23 = .ok (.iconst 2, 1) := by decide +kernel
theorem dL_lease_24 : decode cL_lease 24 = .ok (.ireturn, 1) := by decide +kernel
theorem dL_lease_25 : decode cL_lease 25 = .ok (.iconst 0, 1) := by decide +kernel
theorem dL_lease_26 : decode cL_lease 26 = .ok (.ireturn, 1) := by decide +kernel
theorem dL_release_0 : decode cL_release 0 = .ok (.aload_n 2, 1) := by decide +kernel
theorem dL_release_1 : decode cL_release 1 = .ok (.iconst 0, 1) := by decide +kernel
theorem dL_release_2 : decode cL_release 2 = .ok (.aload_n 0, 1) := by decide +kernel
theorem dL_release_3 : decode cL_release 3 = .ok (.iload_n 1, 1) := by decide +kernel
theorem dL_release_4 : decode cL_release 4 = .ok (.invokevirtual 42, 3) := by decide +kernel
theorem dL_release_7 : decode cL_release 7 = .ok (.i2l, 1) := by decide +kernel
theorem dL_release_8 : decode cL_release 8 = .ok (.lastore, 1) := by decide +kernel
theorem dL_release_9 : decode cL_release 9 = .ok (.goto 6, 3) := by decide +kernel
theorem dL_release_12 : decode cL_release 12 = .ok (.astore_n 3, 1) := by decide +kernel
theorem dL_release_13 : decode cL_release 13 = .ok (.iconst 1, 1) := by decide +kernel
theorem dL_release_14 : decode cL_release 14 = .ok (.ireturn, 1) := by decide +kernel
theorem dL_release_15 : decode cL_release 15 = .ok (.iconst 0, 1) := by decide +kernel
theorem dL_release_16 : decode cL_release 16 = .ok (.ireturn, 1) := by decide +kernel
theorem dL_holder_0 : decode cL_holder 0 = .ok (.aload_n 2, 1) := by decide +kernel
theorem dL_holder_1 : decode cL_holder 1 = .ok (.iconst 0, 1) := by decide +kernel
theorem dL_holder_2 : decode cL_holder 2 = .ok (.aload_n 0, 1) := by decide +kernel
theorem dL_holder_3 : decode cL_holder 3 = .ok (.iload_n 1, 1) := by decide +kernel
theorem dL_holder_4 : decode cL_holder 4 = .ok (.invokevirtual 45, 3) := by decide +kernel
theorem dL_holder_7 : decode cL_holder 7 = .ok (.i2l, 1) := by decide +kernel
theorem dL_holder_8 : decode cL_holder 8 = .ok (.lastore, 1) := by decide +kernel
theorem dL_holder_9 : decode cL_holder 9 = .ok (.goto 6, 3) := by decide +kernel
theorem dL_holder_12 : decode cL_holder 12 = .ok (.astore_n 3, 1) := by decide +kernel
theorem dL_holder_13 : decode cL_holder 13 = .ok (.iconst 1, 1) := by decide +kernel
theorem dL_holder_14 : decode cL_holder 14 = .ok (.ireturn, 1) := by decide +kernel
theorem dL_holder_15 : decode cL_holder 15 = .ok (.iconst 0, 1) := by decide +kernel
theorem dL_holder_16 : decode cL_holder 16 = .ok (.ireturn, 1) := by decide +kernel
theorem dL_setMark_0 : decode cL_setMark 0 = .ok (.aload_n 2, 1) := by decide +kernel
theorem dL_setMark_1 : decode cL_setMark 1 = .ok (.iconst 0, 1) := by decide +kernel
theorem dL_setMark_2 : decode cL_setMark 2 = .ok (.aload_n 0, 1) := by decide +kernel
theorem dL_setMark_3 : decode cL_setMark 3 = .ok (.iload_n 1, 1) := by decide +kernel
theorem dL_setMark_4 : decode cL_setMark 4 = .ok (.invokevirtual 48, 3) := by decide +kernel
theorem dL_setMark_7 : decode cL_setMark 7 = .ok (.i2l, 1) := by decide +kernel
theorem dL_setMark_8 : decode cL_setMark 8 = .ok (.lastore, 1) := by decide +kernel
theorem dL_setMark_9 : decode cL_setMark 9 = .ok (.goto 6, 3) := by decide +kernel
theorem dL_setMark_12 : decode cL_setMark 12 = .ok (.astore_n 3, 1) := by decide +kernel
theorem dL_setMark_13 : decode cL_setMark 13 = .ok (.iconst 1, 1) := by decide +kernel
theorem dL_setMark_14 : decode cL_setMark 14 = .ok (.ireturn, 1) := by decide +kernel
theorem dL_setMark_15 : decode cL_setMark 15 = .ok (.iconst 0, 1) := by decide +kernel
theorem dL_setMark_16 : decode cL_setMark 16 = .ok (.ireturn, 1) := by decide +kernel
theorem dL_replay_0 : decode cL_replay 0 = .ok (.aload_n 3, 1) := by decide +kernel
theorem dL_replay_1 : decode cL_replay 1 = .ok (.iconst 0, 1) := by decide +kernel
theorem dL_replay_2 : decode cL_replay 2 = .ok (.aload_n 0, 1) := by decide +kernel
theorem dL_replay_3 : decode cL_replay 3 = .ok (.iload_n 1, 1) := by decide +kernel
theorem dL_replay_4 : decode cL_replay 4 = .ok (.iload_n 2, 1) := by decide +kernel
theorem dL_replay_5 : decode cL_replay 5 = .ok (.invokevirtual 51, 3) := by decide +kernel
theorem dL_replay_8 : decode cL_replay 8 = .ok (.i2l, 1) := by decide +kernel
theorem dL_replay_9 : decode cL_replay 9 = .ok (.lastore, 1) := by decide +kernel
theorem dL_replay_10 : decode cL_replay 10 = .ok (.goto 11, 3) := by decide +kernel
theorem dL_replay_13 : decode cL_replay 13 = .ok (.astore 4, 2) := by decide +kernel
theorem dL_replay_15 : decode cL_replay 15 = .ok (.iconst 1, 1) := by decide +kernel
theorem dL_replay_16 : decode cL_replay 16 = .ok (.ireturn, 1) := by decide +kernel
theorem dL_replay_17 : decode cL_replay 17 = .ok (.astore 4, 2) := by decide +kernel
theorem dL_replay_19 : decode cL_replay 19 = .ok (.iconst 2, 1) := by decide +kernel
theorem dL_replay_20 : decode cL_replay 20 = .ok (.ireturn, 1) := by decide +kernel
theorem dL_replay_21 : decode cL_replay 21 = .ok (.iconst 0, 1) := by decide +kernel
theorem dL_replay_22 : decode cL_replay 22 = .ok (.ireturn, 1) := by decide +kernel
theorem dL_difference_0 : decode cL_difference 0 = .ok (.aload_n 2, 1) := by decide +kernel
theorem dL_difference_1 : decode cL_difference 1 = .ok (.iconst 0, 1) := by decide +kernel
theorem dL_difference_2 : decode cL_difference 2 = .ok (.aload_n 0, 1) := by decide +kernel
theorem dL_difference_3 : decode cL_difference 3 = .ok (.iload_n 1, 1) := by decide +kernel
theorem dL_difference_4 : decode cL_difference 4 = .ok (.invokevirtual 55, 3) := by decide +kernel
theorem dL_difference_7 : decode cL_difference 7 = .ok (.i2l, 1) := by decide +kernel
theorem dL_difference_8 : decode cL_difference 8 = .ok (.lastore, 1) := by decide +kernel
theorem dL_difference_9 : decode cL_difference 9 = .ok (.goto 9, 3) := by decide +kernel
theorem dL_difference_12 : decode cL_difference 12 = .ok (.astore_n 3, 1) := by decide +kernel
theorem dL_difference_13 : decode cL_difference 13 = .ok (.iconst 1, 1) := by decide +kernel
theorem dL_difference_14 : decode cL_difference 14 = .ok (.ireturn, 1) := by decide +kernel
theorem dL_difference_15 : decode cL_difference 15 = .ok (.astore_n 3, 1) := by decide +kernel
theorem dL_difference_16 : decode cL_difference 16 = .ok (.iconst 2, 1) := by decide +kernel
theorem dL_difference_17 : decode cL_difference 17 = .ok (.ireturn, 1) := by decide +kernel
theorem dL_difference_18 : decode cL_difference 18 = .ok (.iconst 0, 1) := by decide +kernel
theorem dL_difference_19 : decode cL_difference 19 = .ok (.ireturn, 1) := by decide +kernel
theorem dL_rewind_0 : decode cL_rewind 0 = .ok (.aload_n 2, 1) := by decide +kernel
theorem dL_rewind_1 : decode cL_rewind 1 = .ok (.iconst 0, 1) := by decide +kernel
theorem dL_rewind_2 : decode cL_rewind 2 = .ok (.aload_n 0, 1) := by decide +kernel
theorem dL_rewind_3 : decode cL_rewind 3 = .ok (.iload_n 1, 1) := by decide +kernel
theorem dL_rewind_4 : decode cL_rewind 4 = .ok (.invokevirtual 58, 3) := by decide +kernel
theorem dL_rewind_7 : decode cL_rewind 7 = .ok (.i2l, 1) := by decide +kernel
theorem dL_rewind_8 : decode cL_rewind 8 = .ok (.lastore, 1) := by decide +kernel
theorem dL_rewind_9 : decode cL_rewind 9 = .ok (.goto 9, 3) := by decide +kernel
theorem dL_rewind_12 : decode cL_rewind 12 = .ok (.astore_n 3, 1) := by decide +kernel
theorem dL_rewind_13 : decode cL_rewind 13 = .ok (.iconst 1, 1) := by decide +kernel
theorem dL_rewind_14 : decode cL_rewind 14 = .ok (.ireturn, 1) := by decide +kernel
theorem dL_rewind_15 : decode cL_rewind 15 = .ok (.astore_n 3, 1) := by decide +kernel
theorem dL_rewind_16 : decode cL_rewind 16 = .ok (.iconst 2, 1) := by decide +kernel
theorem dL_rewind_17 : decode cL_rewind 17 = .ok (.ireturn, 1) := by decide +kernel
theorem dL_rewind_18 : decode cL_rewind 18 = .ok (.iconst 0, 1) := by decide +kernel
theorem dL_rewind_19 : decode cL_rewind 19 = .ok (.ireturn, 1) := by decide +kernel
theorem dL_color_0 : decode cL_color 0 = .ok (.aload_n 2, 1) := by decide +kernel
theorem dL_color_1 : decode cL_color 1 = .ok (.iconst 0, 1) := by decide +kernel
theorem dL_color_2 : decode cL_color 2 = .ok (.aload_n 0, 1) := by decide +kernel
theorem dL_color_3 : decode cL_color 3 = .ok (.iload_n 1, 1) := by decide +kernel
theorem dL_color_4 : decode cL_color 4 = .ok (.invokevirtual 61, 3) := by decide +kernel
theorem dL_color_7 : decode cL_color 7 = .ok (.i2l, 1) := by decide +kernel
theorem dL_color_8 : decode cL_color 8 = .ok (.lastore, 1) := by decide +kernel
theorem dL_color_9 : decode cL_color 9 = .ok (.goto 6, 3) := by decide +kernel
theorem dL_color_12 : decode cL_color 12 = .ok (.astore_n 3, 1) := by decide +kernel
theorem dL_color_13 : decode cL_color 13 = .ok (.iconst 1, 1) := by decide +kernel
theorem dL_color_14 : decode cL_color 14 = .ok (.ireturn, 1) := by decide +kernel
theorem dL_color_15 : decode cL_color 15 = .ok (.iconst 0, 1) := by decide +kernel
theorem dL_color_16 : decode cL_color 16 = .ok (.ireturn, 1) := by decide +kernel
theorem dL_colorLater_0 : decode cL_colorLater 0 = .ok (.aload_n 3, 1) := by decide +kernel
theorem dL_colorLater_1 : decode cL_colorLater 1 = .ok (.iconst 0, 1) := by decide +kernel
theorem dL_colorLater_2 : decode cL_colorLater 2 = .ok (.aload_n 0, 1) := by decide +kernel
theorem dL_colorLater_3 : decode cL_colorLater 3 = .ok (.iload_n 1, 1) := by decide +kernel
theorem dL_colorLater_4 : decode cL_colorLater 4 = .ok (.iload_n 2, 1) := by decide +kernel
theorem dL_colorLater_5 : decode cL_colorLater 5 = .ok (.invokevirtual 64, 3) := by decide +kernel
theorem dL_colorLater_8 : decode cL_colorLater 8 = .ok (.i2l, 1) := by decide +kernel
theorem dL_colorLater_9 : decode cL_colorLater 9 = .ok (.lastore, 1) := by decide +kernel
theorem dL_colorLater_10 : decode cL_colorLater 10 = .ok (.goto 11, 3) := by decide +kernel
theorem dL_colorLater_13 : decode cL_colorLater 13 = .ok (.astore 4, 2) := by decide +kernel
theorem dL_colorLater_15 : decode cL_colorLater 15 = .ok (.iconst 1, 1) := by decide +kernel
theorem dL_colorLater_16 : decode cL_colorLater 16 = .ok (.ireturn, 1) := by decide +kernel
theorem dL_colorLater_17 : decode cL_colorLater 17 = .ok (.astore 4, 2) := by decide +kernel
theorem dL_colorLater_19 : decode cL_colorLater 19 = .ok (.iconst 2, 1) := by decide +kernel
theorem dL_colorLater_20 : decode cL_colorLater 20 = .ok (.ireturn, 1) := by decide +kernel
theorem dL_colorLater_21 : decode cL_colorLater 21 = .ok (.iconst 0, 1) := by decide +kernel
theorem dL_colorLater_22 : decode cL_colorLater 22 = .ok (.ireturn, 1) := by decide +kernel
theorem dL_top_0 : decode cL_top 0 = .ok (.aload_n 2, 1) := by decide +kernel
theorem dL_top_1 : decode cL_top 1 = .ok (.iconst 0, 1) := by decide +kernel
theorem dL_top_2 : decode cL_top 2 = .ok (.aload_n 0, 1) := by decide +kernel
theorem dL_top_3 : decode cL_top 3 = .ok (.iload_n 1, 1) := by decide +kernel
theorem dL_top_4 : decode cL_top 4 = .ok (.invokevirtual 67, 3) := by decide +kernel
theorem dL_top_7 : decode cL_top 7 = .ok (.i2l, 1) := by decide +kernel
theorem dL_top_8 : decode cL_top 8 = .ok (.lastore, 1) := by decide +kernel
theorem dL_top_9 : decode cL_top 9 = .ok (.goto 6, 3) := by decide +kernel
theorem dL_top_12 : decode cL_top 12 = .ok (.astore_n 3, 1) := by decide +kernel
theorem dL_top_13 : decode cL_top 13 = .ok (.iconst 1, 1) := by decide +kernel
theorem dL_top_14 : decode cL_top 14 = .ok (.ireturn, 1) := by decide +kernel
theorem dL_top_15 : decode cL_top 15 = .ok (.iconst 0, 1) := by decide +kernel
theorem dL_top_16 : decode cL_top 16 = .ok (.ireturn, 1) := by decide +kernel
theorem dL_count_0 : decode cL_count 0 = .ok (.aload_n 2, 1) := by decide +kernel
theorem dL_count_1 : decode cL_count 1 = .ok (.iconst 0, 1) := by decide +kernel
theorem dL_count_2 : decode cL_count 2 = .ok (.aload_n 0, 1) := by decide +kernel
theorem dL_count_3 : decode cL_count 3 = .ok (.iload_n 1, 1) := by decide +kernel
theorem dL_count_4 : decode cL_count 4 = .ok (.invokevirtual 70, 3) := by decide +kernel
theorem dL_count_7 : decode cL_count 7 = .ok (.i2l, 1) := by decide +kernel
theorem dL_count_8 : decode cL_count 8 = .ok (.lastore, 1) := by decide +kernel
theorem dL_count_9 : decode cL_count 9 = .ok (.goto 6, 3) := by decide +kernel
theorem dL_count_12 : decode cL_count 12 = .ok (.astore_n 3, 1) := by decide +kernel
theorem dL_count_13 : decode cL_count 13 = .ok (.iconst 1, 1) := by decide +kernel
theorem dL_count_14 : decode cL_count 14 = .ok (.ireturn, 1) := by decide +kernel
theorem dL_count_15 : decode cL_count 15 = .ok (.iconst 0, 1) := by decide +kernel
theorem dL_count_16 : decode cL_count 16 = .ok (.ireturn, 1) := by decide +kernel
theorem dL_operation_0 : decode cL_operation 0 = .ok (.aload_n 3, 1) := by decide +kernel
theorem dL_operation_1 : decode cL_operation 1 = .ok (.iconst 0, 1) := by decide +kernel
theorem dL_operation_2 : decode cL_operation 2 = .ok (.aload_n 0, 1) := by decide +kernel
theorem dL_operation_3 : decode cL_operation 3 = .ok (.iload_n 1, 1) := by decide +kernel
theorem dL_operation_4 : decode cL_operation 4 = .ok (.iload_n 2, 1) := by decide +kernel
theorem dL_operation_5 : decode cL_operation 5 = .ok (.invokevirtual 73, 3) := by decide +kernel
theorem dL_operation_8 : decode cL_operation 8 = .ok (.i2l, 1) := by decide +kernel
theorem dL_operation_9 : decode cL_operation 9 = .ok (.lastore, 1) := by decide +kernel
theorem dL_operation_10 : decode cL_operation 10 = .ok (.goto 11, 3) := by decide +kernel
theorem dL_operation_13 : decode cL_operation 13 = .ok (.astore 4, 2) := by decide +kernel
theorem dL_operation_15 : decode cL_operation 15 = .ok (.iconst 1, 1) := by decide +kernel
theorem dL_operation_16 : decode cL_operation 16 = .ok (.ireturn, 1) := by decide +kernel
theorem dL_operation_17 : decode cL_operation 17 = .ok (.astore 4, 2) := by decide +kernel
theorem dL_operation_19 : decode cL_operation 19 = .ok (.iconst 2, 1) := by decide +kernel
theorem dL_operation_20 : decode cL_operation 20 = .ok (.ireturn, 1) := by decide +kernel
theorem dL_operation_21 : decode cL_operation 21 = .ok (.iconst 0, 1) := by decide +kernel
theorem dL_operation_22 : decode cL_operation 22 = .ok (.ireturn, 1) := by decide +kernel
theorem dL_ifSwitched_0 : decode cL_ifSwitched 0 = .ok (.aload_n 2, 1) := by decide +kernel
theorem dL_ifSwitched_1 : decode cL_ifSwitched 1 = .ok (.iconst 0, 1) := by decide +kernel
theorem dL_ifSwitched_2 : decode cL_ifSwitched 2 = .ok (.aload_n 0, 1) := by decide +kernel
theorem dL_ifSwitched_3 : decode cL_ifSwitched 3 = .ok (.iload_n 1, 1) := by decide +kernel
theorem dL_ifSwitched_4 : decode cL_ifSwitched 4 = .ok (.invokevirtual 76, 3) := by decide +kernel
theorem dL_ifSwitched_7 : decode cL_ifSwitched 7 = .ok (.i2l, 1) := by decide +kernel
theorem dL_ifSwitched_8 : decode cL_ifSwitched 8 = .ok (.lastore, 1) := by decide +kernel
theorem dL_ifSwitched_9 : decode cL_ifSwitched 9 = .ok (.goto 6, 3) := by decide +kernel
theorem dL_ifSwitched_12 : decode cL_ifSwitched 12 = .ok (.astore_n 3, 1) := by decide +kernel
theorem dL_ifSwitched_13 : decode cL_ifSwitched 13 = .ok (.iconst 1, 1) := by decide +kernel
theorem dL_ifSwitched_14 : decode cL_ifSwitched 14 = .ok (.ireturn, 1) := by decide +kernel
theorem dL_ifSwitched_15 : decode cL_ifSwitched 15 = .ok (.iconst 0, 1) := by decide +kernel
theorem dL_ifSwitched_16 : decode cL_ifSwitched 16 = .ok (.ireturn, 1) := by decide +kernel
theorem dL_user_0 : decode cL_user 0 = .ok (.aload_n 3, 1) := by decide +kernel
theorem dL_user_1 : decode cL_user 1 = .ok (.iconst 0, 1) := by decide +kernel
theorem dL_user_2 : decode cL_user 2 = .ok (.aload_n 0, 1) := by decide +kernel
theorem dL_user_3 : decode cL_user 3 = .ok (.iload_n 1, 1) := by decide +kernel
theorem dL_user_4 : decode cL_user 4 = .ok (.iload_n 2, 1) := by decide +kernel
theorem dL_user_5 : decode cL_user 5 = .ok (.invokevirtual 79, 3) := by decide +kernel
theorem dL_user_8 : decode cL_user 8 = .ok (.i2l, 1) := by decide +kernel
theorem dL_user_9 : decode cL_user 9 = .ok (.lastore, 1) := by decide +kernel
theorem dL_user_10 : decode cL_user 10 = .ok (.goto 11, 3) := by decide +kernel
theorem dL_user_13 : decode cL_user 13 = .ok (.astore 4, 2) := by decide +kernel
theorem dL_user_15 : decode cL_user 15 = .ok (.iconst 1, 1) := by decide +kernel
theorem dL_user_16 : decode cL_user 16 = .ok (.ireturn, 1) := by decide +kernel
theorem dL_user_17 : decode cL_user 17 = .ok (.astore 4, 2) := by decide +kernel
theorem dL_user_19 : decode cL_user 19 = .ok (.iconst 2, 1) := by decide +kernel
theorem dL_user_20 : decode cL_user 20 = .ok (.ireturn, 1) := by decide +kernel
theorem dL_user_21 : decode cL_user 21 = .ok (.iconst 0, 1) := by decide +kernel
theorem dL_user_22 : decode cL_user 22 = .ok (.ireturn, 1) := by decide +kernel
theorem mk_L_7 : Cond.methodLink RL 7 yX8_pass ∈ gl := gl_tb (by decide +kernel) rfl
theorem mk_L_17 : Cond.methodLink RL 17 yX8_append ∈ gl := gl_tb (by decide +kernel) rfl
theorem mk_L_20 : Cond.methodLink RL 20 yX8_stroke ∈ gl := gl_tb (by decide +kernel) rfl
theorem mk_L_26 : Cond.methodLink RL 26 yX8_erase ∈ gl := gl_tb (by decide +kernel) rfl
theorem mk_L_30 : Cond.methodLink RL 30 yX8_fill ∈ gl := gl_tb (by decide +kernel) rfl
theorem mk_L_33 : Cond.methodLink RL 33 yX8_undo ∈ gl := gl_tb (by decide +kernel) rfl
theorem mk_L_36 : Cond.methodLink RL 36 yX8_redo ∈ gl := gl_tb (by decide +kernel) rfl
theorem mk_L_39 : Cond.methodLink RL 39 yX8_lease ∈ gl := gl_tb (by decide +kernel) rfl
theorem mk_L_42 : Cond.methodLink RL 42 yX8_release ∈ gl := gl_tb (by decide +kernel) rfl
theorem mk_L_45 : Cond.methodLink RL 45 yX8_holder ∈ gl := gl_tb (by decide +kernel) rfl
theorem mk_L_48 : Cond.methodLink RL 48 yX8_setMark ∈ gl := gl_tb (by decide +kernel) rfl
theorem mk_L_51 : Cond.methodLink RL 51 yX8_replay ∈ gl := gl_tb (by decide +kernel) rfl
theorem mk_L_55 : Cond.methodLink RL 55 yX8_difference ∈ gl := gl_tb (by decide +kernel) rfl
theorem mk_L_58 : Cond.methodLink RL 58 yX8_rewind ∈ gl := gl_tb (by decide +kernel) rfl
theorem mk_L_61 : Cond.methodLink RL 61 yX8_color ∈ gl := gl_tb (by decide +kernel) rfl
theorem mk_L_64 : Cond.methodLink RL 64 yX8_colorLater ∈ gl := gl_tb (by decide +kernel) rfl
theorem mk_L_67 : Cond.methodLink RL 67 yX8_top ∈ gl := gl_tb (by decide +kernel) rfl
theorem mk_L_70 : Cond.methodLink RL 70 yX8_count ∈ gl := gl_tb (by decide +kernel) rfl
theorem mk_L_73 : Cond.methodLink RL 73 yX8_operation ∈ gl := gl_tb (by decide +kernel) rfl
theorem mk_L_76 : Cond.methodLink RL 76 yX8_ifSwitched ∈ gl := gl_tb (by decide +kernel) rfl
theorem mk_L_79 : Cond.methodLink RL 79 yX8_user ∈ gl := gl_tb (by decide +kernel) rfl
